def tcs : List Nat := [2, 6, 7, 8, 9, 10, 11, 12, 13, 14, 15]
theorem tcs_t {t : Nat} (h : t ∈ bts) : ∀ a ∈ [t, t + 1], a ∈ tcs := by
  have key : ∀ t ∈ bts, ∀ a ∈ [t, t + 1], a ∈ tcs := by decide +kernel
  exact key t h
theorem tcs_n {a : Nat} (h : 16 ≤ a) : a ∉ tcs := fun q => by
  have key : ∀ a ∈ tcs, a < 16 := by decide +kernel
  have := key a q
  omega
theorem SVs.at {w : Wd} {a : Nat} {ps : List (List Nat)} (h : SVs w a ps ps.length 0) {p j : Nat} (hp : p < ps.length) (hj : j < (pth ps p).length) : w (a + 1) (tot (ps.take p) + j) = ((pth ps p).getD j 0 : Int) := h p j (Or.inl ⟨hp, hj⟩)
section Hist
variable {G : Gm} {w : Wd} {K : Kt} {X : Xt} {s : Sta} {a : Nat}
theorem e_X5_putInto {ps : List (List Nat)} (h : BT w ps) (ha : a ∈ svs) (hs : SV w a s) (k : ∀ w', BS w' s → frm w w' bcs → K (vi 0) none w') : Ev G yX5_putInto cX5_putInto 6 mX5_putInto none 3 0 0 [vr a, vr 2] w K X := by
  obtain ⟨s0, s1, s2, s3, s4⟩ := svs_sh ha
  have ho := hs.1
  obtain ⟨b1, b2, b3, b4, b5⟩ := h
  have h5 := ho.1
  have h100 := ho.tot
  refine Ev_intro mvX5_putInto.1 rfl (fun h => by cases h) (allc1 rfl) (Nat.le_of_ble_eq_true rfl) (Or.inl rfl) ?_
  show Go G cX5_putInto mX5_putInto none 3 0 0 0 [some (vr a), some (vr 2), none, none, none, none] [] w K X
  refine Go_iconst dX5_putInto_0 ?_
  refine Go_ist2 dX5_putInto_1 rfl ?_
  refine Go_ald1 dX5_putInto_2 ?_
  refine Go_ald0 dX5_putInto_3 ?_
  refine gf4_2 dX5_putInto_4 flX5_24 (by first | assumption | rfl) ?_
  rw [hs.2.1]
  refine pfN_18 dX5_putInto_7 rfl ?_
  refine Go_iconst dX5_putInto_10 ?_
  refine Go_ist3 dX5_putInto_11 rfl ?_
  refine Go_upTo (n := s.1.length) (L := fun i => [some (vr a), some (vr 2), some (vi (tot (s.1.take i) : Int)), some (vi (i : Int)), none, none]) (P := fun i v => frm w v tcs ∧ (∀ j, j ≠ 1 → v 2 j = w 2 j) ∧ v 2 1 = (s.1.length : Int) ∧ ∀ q, q < i → TR v (tA w q) (pth s.1 q)) (by repeat' (first | exact Or.inl rfl | exact Or.inr rfl | exact Or.inr (lcg (by omega)) | exact trivial | constructor)) (⟨frm.rfl.up (by decide), fun j hj => up_k hj, up_s, fun p hp => by omega⟩) (fun i v hi hP kn => ?_) (fun v hP => ?_)
  · try dsimp only at hP kn
    try dsimp only
    obtain ⟨f1, c1, g1, t1⟩ := hP
    have e3 : v 3 = w 3 := f1 3 (by decide)
    have h3 := b3 i (by omega)
    have hts := bts_sh h3.1
    have hts1 := hts.1
    have sv := hs.frm f1 (tcs_n (by omega)) (tcs_n (by omega)) (tcs_n (by omega))
    have sn := sv.2.1
    have hl := ho.len hi
    have m1 := tot_mono (ps := s.1) (p := i + 1) (q := s.1.length) (by omega) (by omega)
    rw [tot_succ hi, List.take_length] at m1
    refine Go_ild3 dX5_putInto_12 ?_
    refine Go_ald0 dX5_putInto_13 ?_
    refine gf4_2 dX5_putInto_14 flX5_24 (by first | assumption | rfl) ?_
    refine Go_icmp_ge (tgt := 79) dX5_putInto_17 (by decide) (by constructor <;> omega) (by constructor <;> omega) (fun h17 => by omega) (fun h17 => ?_)
    refine Go_ald1 dX5_putInto_20 ?_
    refine gfN_25 dX5_putInto_21 rfl ?_
    refine Go_ild3 dX5_putInto_24 ?_
    refine Go_aald5 dX5_putInto_25 rfl trivial (by omega) (by omega) (by decide) (by rw [Int.toNat_natCast, e3]; exact h3.2) hts.2.1 ?_
    refine Go_ast4 dX5_putInto_26 rfl ?_
    refine Go_ald4 dX5_putInto_28 ?_
    refine Go_cVv0 (d' := 0) (bc' := 0) (bs' := 0) rfl dX5_putInto_30 mvX9_clear rfl lkX5_51 (by first | assumption | rfl) rfl trivial (by decide) (by decide) (by decide) (Nat.le_of_ble_eq_true rfl) ?_
    refine e_X9_clear hts1 (fun w1 t2 f2 => ?_)
    refine Go_iconst dX5_putInto_33 ?_
    refine Go_ist5 dX5_putInto_34 rfl ?_
    refine Go_upTo (n := (pth s.1 i).length) (L := fun i2 => [some (vr a), some (vr 2), some (vi ((tot (s.1.take i) + i2 : Nat) : Int)), some (vi (i : Int)), some (vr (tA w i)), some (vi (i2 : Int))]) (P := fun i2 v2 => frm v v2 [tA w i, tA w i + 1] ∧ TR v2 (tA w i) ((pth s.1 i).take i2)) (by repeat' (first | exact Or.inl rfl | exact Or.inr rfl | exact Or.inr (lcg (by omega)) | exact trivial | constructor)) (⟨f2, t2⟩) (fun i2 v2 hi2 hP2 kn2 => ?_) (fun v2 hP2 => ?_)
    · try dsimp only at hP2 kn2
      try dsimp only
      obtain ⟨f3, t3⟩ := hP2
      have sv2 := sv.frm f3 (by simp; omega) (by simp; omega) (by simp; omega)
      have el := sv2.2.2.2.2.2.1 i hi
      have es := sv2.2.2.2.2.2.2.at hi hi2
      have ll : ((pth s.1 i).take i2).length = i2 := by rw [List.length_take]; omega
      refine Go_ild5 dX5_putInto_36 ?_
      refine Go_ald0 dX5_putInto_38 ?_
      refine gf4_1 dX5_putInto_39 flX5_15 (by first | assumption | rfl) ?_
      refine Go_ild3 dX5_putInto_42 ?_
      refine Go_iald dX5_putInto_43 s2 trivial (by omega) (by omega) (by decide) ?_
      rw [Int.toNat_natCast, el]
      refine Go_icmp_ge (tgt := 73) dX5_putInto_44 (by decide) (by constructor <;> omega) (by constructor <;> omega) (fun h44 => by omega) (fun h44 => ?_)
      refine Go_ild2 dX5_putInto_47 ?_
      refine Go_bipush dX5_putInto_48 (by decide +kernel) ?_
      refine Go_icmp_ge (tgt := 73) dX5_putInto_50 (by decide) (by constructor <;> omega) (by constructor <;> omega) (fun h50 => by omega) (fun h50 => ?_)
      refine Go_ald4 dX5_putInto_53 ?_
      refine Go_ald0 dX5_putInto_55 ?_
      refine gf4_0 dX5_putInto_56 flX5_9 (by first | assumption | rfl) ?_
      refine Go_ild2 dX5_putInto_59 ?_
      refine Go_iald dX5_putInto_60 s1 trivial (by omega) (by omega) (by decide) ?_
      rw [Int.toNat_natCast, es]
      refine Go_cVv1 (d' := 1) (bc' := 0) (bs' := 0) rfl dX5_putInto_61 mvX9_push rfl lkX5_54 (by first | assumption | rfl) rfl trivial (by decide) (by decide) (by decide) (Nat.le_of_ble_eq_true rfl) ?_
      refine e_X9_push t3 (by omega) (fun w4 t4 f4 => ?_)
      refine Go_inc2 dX5_putInto_64 rfl ?_
      refine Go_inc5 dX5_putInto_67 rfl ?_
      refine Go_goto (tgt := 36) dX5_putInto_70 (by decide) ?_
      rw [take_getD hi2] at t4
      exact Go_forget (by repeat' (first | exact Or.inl rfl | exact Or.inr rfl | exact Or.inr (lcg (by omega)) | exact trivial | constructor)) (kn2 _ ⟨f3.trans f4 (fun _ h => h), t4⟩)
    · try dsimp only at hP2
      try dsimp only
      obtain ⟨f3, t3⟩ := hP2
      have sv2 := sv.frm f3 (by simp; omega) (by simp; omega) (by simp; omega)
      have el := sv2.2.2.2.2.2.1 i hi
      rw [List.take_length] at t3
      refine Go_ild5 dX5_putInto_36 ?_
      refine Go_ald0 dX5_putInto_38 ?_
      refine gf4_1 dX5_putInto_39 flX5_15 (by first | assumption | rfl) ?_
      refine Go_ild3 dX5_putInto_42 ?_
      refine Go_iald dX5_putInto_43 s2 trivial (by omega) (by omega) (by decide) ?_
      rw [Int.toNat_natCast, el]
      refine Go_icmp_ge (tgt := 73) dX5_putInto_44 (by decide) (by constructor <;> omega) (by constructor <;> omega) (fun h44 => ?_) (fun h44 => by omega)
      refine Go_inc3 dX5_putInto_73 rfl ?_
      refine Go_goto (tgt := 12) dX5_putInto_76 (by decide) ?_
      refine Go_forget (ls' := _) ?_ (kn _ ⟨f1.trans f3 (tcs_t h3.1), fun j hj => ?_, ?_, fun q hq => ?_⟩)
      · rw [tot_succ hi]; exact (by repeat' (first | exact Or.inl rfl | exact Or.inr rfl | exact Or.inr (lcg (by omega)) | exact trivial | constructor))
      · rw [f3.at (by simp; omega)]; exact c1 j hj
      · rw [f3.at (by simp; omega)]; exact g1
      · by_cases e : q = i
        · rw [e]; exact t3
        · have hne : tA w q ≠ tA w i := fun x => e (b4 q i (by omega) (by omega) x)
          have bq := bts_sh (b3 q (by omega)).1
          exact (t1 q (by omega)).frm f3 (by simp; omega) (by simp; omega)
  · try dsimp only at hP
    try dsimp only
    obtain ⟨f1, c1, g1, t1⟩ := hP
    have e3 : v 3 = w 3 := f1 3 (by decide)
    have sv := hs.frm f1 (tcs_n (by omega)) (tcs_n (by omega)) (tcs_n (by omega))
    have sn := sv.2.1
    refine Go_ild3 dX5_putInto_12 ?_
    refine Go_ald0 dX5_putInto_13 ?_
    refine gf4_2 dX5_putInto_14 flX5_24 (by first | assumption | rfl) ?_
    refine Go_icmp_ge (tgt := 79) dX5_putInto_17 (by decide) (by constructor <;> omega) (by constructor <;> omega) (fun h17 => ?_) (fun h17 => by omega)
    refine Go_ald1 dX5_putInto_79 ?_
    refine Go_ald0 dX5_putInto_80 ?_
    refine gf4_3 dX5_putInto_81 flX5_42 (by first | assumption | rfl) ?_
    refine pfN_39 dX5_putInto_84 rfl ?_
    refine Go_ald1 dX5_putInto_87 ?_
    refine Go_ald0 dX5_putInto_88 ?_
    refine gf4_4 dX5_putInto_89 flX5_46 (by first | assumption | rfl) ?_
    refine pfN_43 dX5_putInto_92 rfl ?_
    refine Go_ald1 dX5_putInto_95 ?_
    refine Go_ald0 dX5_putInto_96 ?_
    refine gf4_5 dX5_putInto_97 flX5_50 (by first | assumption | rfl) ?_
    refine pfN_47 dX5_putInto_100 rfl ?_
    rw [up_a (a := 2) (b := a) (by omega), up_a (a := 2) (b := a) (by omega), up_a (a := 2) (b := a) (by omega), sv.2.2.1, sv.2.2.2.1, sv.2.2.2.2.1]
    have eA : ∀ q, tA (up (up (up v 2 2 s.2.1) 2 3 s.2.2.1) 2 4 s.2.2.2) q = tA w q := fun q => by unfold tA; rw [up_f (by decide), up_f (by decide), up_f (by decide), e3]
    have hb1 : BT (up (up (up v 2 2 s.2.1) 2 3 s.2.2.1) 2 4 s.2.2.2) s.1 := ⟨by rw [up_k (by decide), up_k (by decide), up_k (by decide)]; exact g1, h5, fun q hq => by rw [eA, up_f (by decide), up_f (by decide), up_f (by decide), e3]; exact b3 q hq, fun q r hq hr e => b4 q r hq hr (by rw [← eA, ← eA]; exact e), fun q hq => by
      rw [eA]
      have bq := bts_sh (b3 q (by omega)).1
      exact (t1 q hq).frm (A := [2]) (((frm.rfl.up (by simp)).up (by simp)).up (by simp)) (by simp; omega) (by simp; omega)⟩
    refine Go_ald1 dX5_putInto_103 ?_
    refine Go_cVv0 (d' := 2) (bc' := 0) (bs' := 0) rfl dX5_putInto_104 mvX0_markSites rfl lkX5_58 (by first | assumption | rfl) rfl trivial (by decide) (by decide) (by decide) (Nat.le_of_ble_eq_true rfl) ?_
    refine e_X0_markSites hb1 ho.2.2.1 ho.2.2.2 (fun w2 d2 f2 g2 => ?_)
    refine Go_return dX5_putInto_107 rfl ?_
    exact k _ ⟨d2, by rw [g2 2 (by decide), up_k (by decide), up_k (by decide), up_s], by rw [g2 3 (by decide), up_k (by decide), up_s], by rw [g2 4 (by decide), up_s]⟩ (((((f1.mono (by decide)).up (by decide)).up (by decide)).up (by decide)).trans f2 (by decide))
end Hist
def s00 : Sta := ([], 0, 0, 0)
/-- the saved states, the oldest first -/
def HI (w : Wd) (sv : List Sta) : Prop := ∃ o : Nat, o < 6 ∧ w 16 1 = (o : Int) ∧ w 16 2 = (sv.length : Int) ∧ sv.length ≤ 6 ∧ ∀ i, i < sv.length → SV w (18 + 3 * ((o + i) % 6)) (sv.getD i s00)
def hcs : List Nat := [16, 18, 19, 20, 21, 22, 23, 24, 25, 26, 27, 28, 29, 30, 31, 32, 33, 34, 35]
theorem hcs_a {m : Nat} (h : m < 6) : 18 + 3 * m ∈ svs ∧ ∀ a ∈ [18 + 3 * m, 18 + 3 * m + 1, 18 + 3 * m + 2], a ∈ hcs := by
  have key : ∀ m, m < 6 → 18 + 3 * m ∈ svs ∧ ∀ a ∈ [18 + 3 * m, 18 + 3 * m + 1, 18 + 3 * m + 2], a ∈ hcs := by decide +kernel
  exact key m h
theorem HI.frm {w w' : Wd} {sv : List Sta} {A : List Nat} (h : HI w sv) (f : frm w w' A) (hA : ∀ a ∈ A, a < 16 ∨ 36 ≤ a) : HI w' sv := by
  obtain ⟨o, h1, h2, h3, h4, h5⟩ := h
  have e : ∀ a, 16 ≤ a → a < 36 → a ∉ A := fun a h1 h2 q => by have := hA a q; omega
  exact ⟨o, h1, by rw [f.at (e _ (by omega) (by omega))]; exact h2, by rw [f.at (e _ (by omega) (by omega))]; exact h3, h4, fun i hi => (h5 i hi).frm f (e _ (by omega) (by omega)) (e _ (by omega) (by omega)) (e _ (by omega) (by omega))⟩
def pushS (sv : List Sta) (s : Sta) : List Sta := (if sv.length = 6 then sv.drop 1 else sv) ++ [s]
theorem gS_app {a b : List Sta} {j : Nat} : (a ++ b).getD j s00 = if j < a.length then a.getD j s00 else b.getD (j - a.length) s00 := by
  by_cases h : j < a.length
  · rw [if_pos h, List.getD_eq_getElem?_getD, List.getElem?_append_left h, List.getD_eq_getElem?_getD]
  · rw [if_neg h, List.getD_eq_getElem?_getD, List.getElem?_append_right (by omega), List.getD_eq_getElem?_getD]
theorem gS_drop {l : List Sta} {i j : Nat} : (l.drop i).getD j s00 = l.getD (i + j) s00 := by
  rw [List.getD_eq_getElem?_getD, List.getD_eq_getElem?_getD, List.getElem?_drop]
theorem gS_take {l : List Sta} {n j : Nat} (h : j < n) : (l.take n).getD j s00 = l.getD j s00 := by
  rw [List.getD_eq_getElem?_getD, List.getElem?_take, if_pos h, List.getD_eq_getElem?_getD]
section Hist2
variable {G : Gm} {w : Wd} {K : Kt} {X : Xt} {s : Sta} {sv : List Sta}
theorem e_X1_size (h : HI w sv) (k : K (vi sv.length) none w) : Ev G yX1_size cX1_size 1 mX1_size none 0 0 0 [vr 16] w K X := by
  obtain ⟨o, h1, h2, h3, h4, h5⟩ := h
  refine Ev_intro mvX1_size.1 rfl (fun h => by cases h) (allc1 rfl) (Nat.le_of_ble_eq_true rfl) (Or.inl rfl) ?_
  show Go G cX1_size mX1_size none 0 0 0 0 [some (vr 16)] [] w K X
  refine Go_ald0 dX1_size_0 ?_
  refine gf1_2 dX1_size_1 flX1_18 (by first | assumption | rfl) ?_
  refine Go_ireturn dX1_size_4 rfl (by first | rfl | decide | exact nar_b | simp [narrow]) ?_
  exact kI h3 k
/-- the ring's next place is written -/
theorem l_X1_save {o : Nat} (hb : BS w s) (ho : OKp s.1) (ho6 : o < 6) (h2 : w 16 1 = (o : Int)) (h3 : w 16 2 = (sv.length : Int)) (h4 : sv.length < 6) (h5 : ∀ i, i < sv.length → SV w (18 + 3 * ((o + i) % 6)) (sv.getD i s00)) (k : ∀ w', HI w' (sv ++ [s]) → frm w w' hcs → K (vi 0) none w') : Go G cX1_save mX1_save none 3 0 0 32 [some (vr 16), some (vr 2)] [] w K X := by
  have hm := hcs_a (m := (o + sv.length) % 6) (by omega)
  refine Go_ald0 dX1_save_32 ?_
  refine gf1_0 dX1_save_33 flX1_11 ?_
  refine Go_ald0 dX1_save_36 ?_
  refine gf1_1 dX1_save_37 flX1_22 (by first | assumption | rfl) ?_
  refine Go_ald0 dX1_save_40 ?_
  refine gf1_2 dX1_save_41 flX1_18 (by first | assumption | rfl) ?_
  rw [h2, h3]
  refine Go_iadd dX1_save_44 ?_
  refine Go_bipush dX1_save_45 (by decide +kernel) ?_
  rw [show (o : Int) + (sv.length : Int) = ((o + sv.length : Nat) : Int) by omega]
  refine Go_irem dX1_save_47 (by omega) (by omega) (by omega) (by omega) ?_
  refine Go_aald6 dX1_save_48 (b := 18 + 3 * ((o + sv.length) % 6)) (n := 6) rfl trivial (by omega) (by omega) (by decide) (by rw [show (((o + sv.length : Nat) : Int) % 6).toNat = (o + sv.length) % 6 by omega]; show ((17 + 1 + 3 * ((o + sv.length) % 6) : Nat) : Int) = _; omega) (by omega) ?_
  refine Go_ald1 dX1_save_49 ?_
  refine Go_cVv1 (d' := 2) (bc' := 0) (bs' := 0) rfl dX1_save_50 mvX5_take rfl lkX1_25 (svs_sh hm.1).1 rfl trivial (by decide) (by decide) (by decide) (Nat.le_of_ble_eq_true rfl) ?_
  refine e_X5_take hb ho hm.1 (fun w1 v1 f1 => ?_)
  refine Go_ald0 dX1_save_53 ?_
  refine Go_dup dX1_save_54 ?_
  refine gf1_2 dX1_save_55 flX1_18 (by first | assumption | rfl) ?_
  refine Go_iconst dX1_save_58 ?_
  refine Go_iadd dX1_save_59 ?_
  refine pf1_2 dX1_save_60 flX1_18 (by first | assumption | rfl) ?_
  refine Go_return dX1_save_63 rfl ?_
  have f0 : frm w1 (up w1 16 2 (w1 16 2 + 1)) [16] := frm.rfl.up (by simp)
  have e1 : w1 16 1 = (o : Int) := by rw [f1.at (by simp; omega)]; exact h2
  have e2 : w1 16 2 = (sv.length : Int) := by rw [f1.at (by simp; omega)]; exact h3
  refine k _ ⟨o, ho6, by rw [up_k (by decide)]; exact e1, by rw [up_s, e2, List.length_append]; simp, by rw [List.length_append, List.length_cons, List.length_nil]; omega, fun i hi => ?_⟩ ((f1.mono hm.2).up (by decide))
  rw [List.length_append, List.length_cons, List.length_nil] at hi
  rw [gS_app]
  by_cases e : i < sv.length
  · rw [if_pos e]
    exact ((h5 i e).frm f1 (by simp; omega) (by simp; omega) (by simp; omega)).frm f0 (by simp; omega) (by simp; omega) (by simp; omega)
  · have e9 : i = sv.length := by omega
    subst e9
    rw [if_neg e, Nat.sub_self]
    exact v1.frm f0 (by simp; omega) (by simp; omega) (by simp; omega)
theorem e_X1_save (hb : BS w s) (ho : OKp s.1) (h : HI w sv) (k : ∀ w', HI w' (pushS sv s) → frm w w' hcs → K (vi 0) none w') : Ev G yX1_save cX1_save 2 mX1_save none 3 0 0 [vr 16, vr 2] w K X := by
  obtain ⟨o, h1, h2, h3, h4, h5⟩ := h
  unfold pushS at k
  refine Ev_intro mvX1_save.1 rfl (fun h => by cases h) (allc1 rfl) (Nat.le_of_ble_eq_true rfl) (Or.inl rfl) ?_
  show Go G cX1_save mX1_save none 3 0 0 0 [some (vr 16), some (vr 2)] [] w K X
  by_cases q : sv.length = 6
  · rw [if_pos q] at k
    refine Go_ald0 dX1_save_0 ?_
    refine gf1_2 dX1_save_1 flX1_18 (by first | assumption | rfl) ?_
    refine Go_bipush dX1_save_4 (by decide +kernel) ?_
    refine Go_icmp_ne (tgt := 32) dX1_save_6 (by decide) (by constructor <;> omega) (by constructor <;> omega) (fun h6 => by omega) (fun h6 => ?_)
    refine Go_ald0 dX1_save_9 ?_
    refine Go_ald0 dX1_save_10 ?_
    refine gf1_1 dX1_save_11 flX1_22 (by first | assumption | rfl) ?_
    rw [h2]
    refine Go_iconst dX1_save_14 ?_
    refine Go_iadd dX1_save_15 ?_
    refine Go_bipush dX1_save_16 (by decide +kernel) ?_
    refine Go_irem dX1_save_18 (by omega) (by omega) (by omega) (by omega) ?_
    refine pf1_1 dX1_save_19 flX1_22 (by first | assumption | rfl) ?_
    refine Go_ald0 dX1_save_22 ?_
    refine Go_dup dX1_save_23 ?_
    refine gf1_2 dX1_save_24 flX1_18 (by first | assumption | rfl) ?_
    rw [up_k (by decide), h3]
    refine Go_iconst dX1_save_27 ?_
    refine Go_isub dX1_save_28 ?_
    refine pf1_2 dX1_save_29 flX1_18 (by first | assumption | rfl) ?_
    have f1 : frm w (up (up w 16 1 (((o : Int) + 1) % 6)) 16 2 ((sv.length : Int) - 1)) [16] := (frm.rfl.up (by simp)).up (by simp)
    refine l_X1_save (sv := sv.drop 1) (o := (o + 1) % 6) (hb.frm f1 (by simp)) ho (by omega) (by rw [up_k (by decide), up_s]; omega) (by rw [up_s, List.length_drop]; omega) (by rw [List.length_drop]; omega) (fun i hi => ?_) (fun w' r1 r2 => k w' r1 ((f1.mono (by decide)).trans r2 (fun _ h => h)))
    rw [List.length_drop] at hi
    rw [gS_drop]
    have := (h5 (1 + i) (by omega)).frm f1 (by simp; omega) (by simp; omega) (by simp; omega)
    rw [show ((o + 1) % 6 + i) % 6 = (o + (1 + i)) % 6 by omega]
    exact this
  · rw [if_neg q] at k
    refine Go_ald0 dX1_save_0 ?_
    refine gf1_2 dX1_save_1 flX1_18 (by first | assumption | rfl) ?_
    refine Go_bipush dX1_save_4 (by decide +kernel) ?_
    refine Go_icmp_ne (tgt := 32) dX1_save_6 (by decide) (by constructor <;> omega) (by constructor <;> omega) (fun h6 => ?_) (fun h6 => by omega)
    exact l_X1_save hb ho h1 h2 h3 (by omega) h5 k
theorem e_X1_restoreLast {ps : List (List Nat)} (hb : BT w ps) (h : HI w sv) (hp : 0 < sv.length) (k : ∀ w', BS w' (sv.getD (sv.length - 1) s00) → HI w' (sv.take (sv.length - 1)) → frm w w' (16 :: bcs) → K (vi 0) none w') : Ev G yX1_restoreLast cX1_restoreLast 2 mX1_restoreLast none 4 0 0 [vr 16, vr 2] w K X := by
  obtain ⟨o, h1, h2, h3, h4, h5⟩ := h
  have hm := hcs_a (m := (o + (sv.length - 1)) % 6) (by omega)
  have f1 : frm w (up w 16 2 ((sv.length : Int) - 1)) [16] := frm.rfl.up (by simp)
  have hv := (h5 (sv.length - 1) (by omega)).frm f1 (by simp; omega) (by simp; omega) (by simp; omega)
  refine Ev_intro mvX1_restoreLast.1 rfl (fun h => by cases h) (allc1 rfl) (Nat.le_of_ble_eq_true rfl) (Or.inl rfl) ?_
  show Go G cX1_restoreLast mX1_restoreLast none 4 0 0 0 [some (vr 16), some (vr 2)] [] w K X
  refine Go_ald0 dX1_restoreLast_0 ?_
  refine gf1_2 dX1_restoreLast_1 flX1_18 (by first | assumption | rfl) ?_
  refine Go_if_le (tgt := 38) dX1_restoreLast_4 (by decide) (by constructor <;> omega) (fun h4 => by omega) (fun h4 => ?_)
  refine Go_ald0 dX1_restoreLast_7 ?_
  refine Go_dup dX1_restoreLast_8 ?_
  refine gf1_2 dX1_restoreLast_9 flX1_18 (by first | assumption | rfl) ?_
  rw [h3]
  refine Go_iconst dX1_restoreLast_12 ?_
  refine Go_isub dX1_restoreLast_13 ?_
  refine pf1_2 dX1_restoreLast_14 flX1_18 (by first | assumption | rfl) ?_
  refine Go_ald0 dX1_restoreLast_17 ?_
  refine gf1_0 dX1_restoreLast_18 flX1_11 ?_
  refine Go_ald0 dX1_restoreLast_21 ?_
  refine gf1_1 dX1_restoreLast_22 flX1_22 (by first | assumption | rfl) ?_
  refine Go_ald0 dX1_restoreLast_25 ?_
  refine gf1_2 dX1_restoreLast_26 flX1_18 (by first | assumption | rfl) ?_
  rw [up_s, up_k (by decide), h2]
  refine Go_iadd dX1_restoreLast_29 ?_
  refine Go_bipush dX1_restoreLast_30 (by decide +kernel) ?_
  rw [show (o : Int) + ((sv.length : Int) - 1) = ((o + (sv.length - 1) : Nat) : Int) by omega]
  refine Go_irem dX1_restoreLast_32 (by omega) (by omega) (by omega) (by omega) ?_
  refine Go_aald6 dX1_restoreLast_33 (b := 18 + 3 * ((o + (sv.length - 1)) % 6)) (n := 6) rfl trivial (by omega) (by omega) (by decide) (by rw [show (((o + (sv.length - 1) : Nat) : Int) % 6).toNat = (o + (sv.length - 1)) % 6 by omega]; show ((17 + 1 + 3 * ((o + (sv.length - 1)) % 6) : Nat) : Int) = _; omega) (by omega) ?_
  refine Go_ald1 dX1_restoreLast_34 ?_
  refine Go_cVv1 (d' := 3) (bc' := 0) (bs' := 0) rfl dX1_restoreLast_35 mvX5_putInto rfl lkX1_29 (svs_sh hm.1).1 rfl trivial (by decide) (by decide) (by decide) (Nat.le_of_ble_eq_true rfl) ?_
  refine e_X5_putInto (hb.frm f1 (by simp) (by rw [up_a (by decide)])) hm.1 hv (fun w2 b2 f2 => ?_)
  refine Go_return dX1_restoreLast_38 rfl ?_
  refine k _ b2 ⟨o, h1, by rw [f2.at (by decide), up_k (by decide)]; exact h2, by rw [f2.at (by decide), up_s, List.length_take]; omega, by rw [List.length_take]; omega, fun i hi => ?_⟩ ((f1.mono (by simp)).trans f2 (fun a ha => List.mem_cons_of_mem _ ha))
  rw [List.length_take] at hi
  rw [gS_take (by omega)]
  have n16 : ∀ a, 16 ≤ a → a ∉ bcs := fun a ha q => by
    have key : ∀ a ∈ bcs, a < 16 := by decide +kernel
    have := key a q
    omega
  exact ((h5 i (by omega)).frm f1 (by simp; omega) (by simp; omega) (by simp; omega)).frm f2 (n16 _ (by omega)) (n16 _ (by omega)) (n16 _ (by omega))
end Hist2
/-- the snapshots -/
def SN (w : Wd) (f : Nat → Option Sta) : Prop := ∀ i, i < 2 → match f i with
  | none => w 38 i = 0
  | some s => w 38 i = 1 ∧ SV w (39 + 3 * i) s
def scs : List Nat := [38, 39, 40, 41, 42, 43, 44]
theorem SN.frm {w w' : Wd} {g : Nat → Option Sta} {A : List Nat} (h : SN w g) (f : frm w w' A) (hA : ∀ a ∈ A, a < 36 ∨ 45 ≤ a) : SN w' g := by
  intro i hi
  have := h i hi
  have e : ∀ a, 36 ≤ a → a < 45 → a ∉ A := fun a h1 h2 q => by have := hA a q; omega
  cases hg : g i with
  | none => rw [hg] at this; exact (f.at (e _ (by omega) (by omega)) i).trans this
  | some s =>
    rw [hg] at this
    exact ⟨(f.at (e _ (by omega) (by omega)) i).trans this.1, this.2.frm f (e _ (by omega) (by omega)) (e _ (by omega) (by omega)) (e _ (by omega) (by omega))⟩
theorem scs_a {m : Nat} (h : m < 2) : 39 + 3 * m ∈ svs ∧ ∀ a ∈ [39 + 3 * m, 39 + 3 * m + 1, 39 + 3 * m + 2], a ∈ scs := by
  have key : ∀ m, m < 2 → 39 + 3 * m ∈ svs ∧ ∀ a ∈ [39 + 3 * m, 39 + 3 * m + 1, 39 + 3 * m + 2], a ∈ scs := by decide +kernel
  exact key m h
def putN (g : Nat → Option Sta) (i : Nat) (s : Sta) : Nat → Option Sta := fun j => if j = i then some s else g j
section Snap
variable {G : Gm} {w : Wd} {K : Kt} {X : Xt} {s : Sta} {g : Nat → Option Sta} {i : Nat}
end Snap
