section Law
variable {G : Gm} {tb : List (Nat × Nat × Nat × Nat)} {w : Wd} {K : Kt} {X : Xt} {s : Sta} {sv : List Sta} {g : Nat → Option Sta} {tx : List Nat} {i bn sn : Nat}
theorem l_law_append (hi : i + 4 ≤ GL G) (hL : GL G < 2147483648) (h : CI w s sv g tx) (hm : MInv w s sv g tx) (kn : ∀ v s sv g tx, CI v s sv g tx → MInv v s sv g tx → Go G cL_law (mL_law tb) none 18 bn sn 2106 [some (vr 1000), some (vr 1), some (vr 68), some (vr 84), some (vr 85), some (vi (i : Int)), none, none, none, none] [] v K X) : Go G cL_law (mL_law tb) none 18 (bn + 8) (sn + 48) 780 [some (vr 1000), some (vr 1), some (vr 68), some (vr 84), some (vr 85), some (vi (i : Int)), none, none, none, none] [] w K X := by
  have q_k : ∀ w' (c : Nat), (sx G (i + 1)) = c → 33 ≤ c → c ≤ 126 → tx.length < 70 → CI w' s sv g (tx ++ [c]) → frm w w' ccs → Go G cL_law (mL_law tb) none 18 (bn + 8 - 2) (sn + 48 - 12) 791 [some (vr 1000), some (vr 1), some (vr 68), some (vr 84), some (vr 85), some (vi (i : Int)), none, none, none, none] [vi 0] (up w' 84 0 (nz (tx.length + 1))) K X := fun w1 c a1 a2 a3 a4 c1 fr1 => by
    have hm1 : MInv (up w1 84 0 (nz (tx.length + 1))) s sv g tx := (hm.out fr1 (by decide +kernel)).out (A := [84]) (frm.rfl.up (by simp)) (by decide)
    have c2 : CI (up w1 84 0 (nz (tx.length + 1))) _ _ _ _ := c1.frm (A := [84]) (frm.rfl.up (by simp)) (by decide)
    refine Go_ist6 dL_law_791 rfl ?_
    refine Go_ald2 dL_law_793 ?_
    refine Go_ald0 dL_law_794 ?_
    refine Go_ild5 dL_law_795 ?_
    refine Go_iconst dL_law_797 ?_
    refine Go_iadd dL_law_798 ?_
    refine Go_xld (j := i + 1) dL_law_799 (by omega) (by omega) hL ?_
    refine Go_cV1 (d' := 1) (bc' := 0) (bs' := 0) rfl dL_law_800 mvX12_append rfl lkL_149 (by first | assumption | rfl) rfl trivial (by decide) (by omega) (by omega) (Nat.le_of_ble_eq_true rfl) ?_
    refine e_X12_append hm1 (sx_in G _) (fun w2 c_2 b1 b2 b3 b4 mx => ?_) (fun w2 b1 mx => by (exfalso; first | omega | (first | omega | exact b1 ⟨a1, a2⟩ | exact b1 ⟨a2, a3⟩ | exact b1 ⟨a3, a4⟩))) (fun w2 b1 b2 b3 mx => by (exfalso; first | omega | (first | omega)))
    have e_c_2 : c_2 = c := (by omega)
    subst e_c_2
    refine Go_ist7 dL_law_803 rfl ?_
    refine Go_ald2 dL_law_805 ?_
    refine Go_cV0 (d' := 0) (bc' := 0) (bs' := 0) rfl dL_law_806 mvX12_thrown rfl lkL_118 (by first | assumption | rfl) rfl trivial (by decide) (by omega) (by omega) (Nat.le_of_ble_eq_true rfl) ?_
    refine e_X12_thrown ?_
    rw [mx.2.1]
    refine Go_ild6 dL_law_809 ?_
    refine Go_icmp_eq (tgt := 816) dL_law_811 (by decide) (by constructor <;> omega) (by constructor <;> omega) (fun h811 => ?_) (fun h811 => by omega)
    refine Go_ild6 dL_law_816 ?_
    refine Go_if_ne (tgt := 833) dL_law_818 (by decide) (by constructor <;> omega) (fun h818 => by omega) (fun h818 => ?_)
    refine Go_ald3 dL_law_821 ?_
    refine Go_iconst dL_law_822 ?_
    refine Go_lald dL_law_823 (by first | assumption | rfl) trivial (by omega) (by omega) (by decide) ?_
    rw [show (0 : Int).toNat = 0 from rfl, mx.2.2.at (by decide), up_s]
    refine Go_ild7 dL_law_824 ?_
    refine Go_i2lN dL_law_826 ?_
    refine Go_lcmp_same dL_law_827 ?_
    refine Go_if_eq (tgt := 833) dL_law_828 (by decide) (by constructor <;> omega) (fun h828 => ?_) (fun h828 => by omega)
    refine Go_goto (tgt := 2106) dL_law_833 (by decide) ?_
    exact Go_more (by omega) (by omega) (Go_forget (by repeat' (first | exact Or.inl rfl | exact Or.inr rfl | exact Or.inr (lcg (by omega)) | exact trivial | constructor)) (kn w2 _ _ _ _ (c2.frm mx.2.2 (by decide +kernel)) mx.1))
  have q_x3 : ¬ (33 ≤ (sx G (i + 1)) ∧ (sx G (i + 1)) ≤ 126) → Go G cL_law (mL_law tb) none 18 (bn + 8 - 2) (sn + 48 - 12) 791 [some (vr 1000), some (vr 1), some (vr 68), some (vr 84), some (vr 85), some (vi (i : Int)), none, none, none, none] [vi 1] (w) K X := fun a1 => by
    have c1 := h
    have hm1 := hm
    have c2 := c1
    refine Go_ist6 dL_law_791 rfl ?_
    refine Go_ald2 dL_law_793 ?_
    refine Go_ald0 dL_law_794 ?_
    refine Go_ild5 dL_law_795 ?_
    refine Go_iconst dL_law_797 ?_
    refine Go_iadd dL_law_798 ?_
    refine Go_xld (j := i + 1) dL_law_799 (by omega) (by omega) hL ?_
    refine Go_cV1 (d' := 1) (bc' := 0) (bs' := 0) rfl dL_law_800 mvX12_append rfl lkL_149 (by first | assumption | rfl) rfl trivial (by decide) (by omega) (by omega) (Nat.le_of_ble_eq_true rfl) ?_
    refine e_X12_append hm1 (sx_in G _) (fun w2 c_2 b1 b2 b3 b4 mx => by (exfalso; first | omega | (first | omega | exact a1 ⟨b1, b2⟩ | exact a1 ⟨b2, b3⟩ | exact a1 ⟨b3, b4⟩ | exact a1 ⟨b1, b2, b3, b4⟩))) (fun w2 b1 mx => ?_) (fun w2 b1 b2 b3 mx => by (exfalso; first | omega | (first | omega | exact a1 ⟨b1, b2⟩ | exact a1 ⟨b2, b3⟩)))
    refine Go_ist7 dL_law_803 rfl ?_
    refine Go_ald2 dL_law_805 ?_
    refine Go_cV0 (d' := 0) (bc' := 0) (bs' := 0) rfl dL_law_806 mvX12_thrown rfl lkL_118 (by first | assumption | rfl) rfl trivial (by decide) (by omega) (by omega) (Nat.le_of_ble_eq_true rfl) ?_
    refine e_X12_thrown ?_
    rw [mx.2.1]
    refine Go_ild6 dL_law_809 ?_
    refine Go_icmp_eq (tgt := 816) dL_law_811 (by decide) (by constructor <;> omega) (by constructor <;> omega) (fun h811 => ?_) (fun h811 => by omega)
    refine Go_ild6 dL_law_816 ?_
    refine Go_if_ne (tgt := 833) dL_law_818 (by decide) (by constructor <;> omega) (fun h818 => ?_) (fun h818 => by omega)
    refine Go_goto (tgt := 2106) dL_law_833 (by decide) ?_
    exact Go_more (by omega) (by omega) (Go_forget (by repeat' (first | exact Or.inl rfl | exact Or.inr rfl | exact Or.inr (lcg (by omega)) | exact trivial | constructor)) (kn w2 _ _ _ _ (c2.frm mx.2.2 (by decide +kernel)) mx.1))
  have q_x2 : 33 ≤ (sx G (i + 1)) → (sx G (i + 1)) ≤ 126 → tx.length = 70 → Go G cL_law (mL_law tb) none 18 (bn + 8 - 2) (sn + 48 - 12) 791 [some (vr 1000), some (vr 1), some (vr 68), some (vr 84), some (vr 85), some (vi (i : Int)), none, none, none, none] [vi 2] (w) K X := fun a1 a2 a3 => by
    have c1 := h
    have hm1 := hm
    have c2 := c1
    refine Go_ist6 dL_law_791 rfl ?_
    refine Go_ald2 dL_law_793 ?_
    refine Go_ald0 dL_law_794 ?_
    refine Go_ild5 dL_law_795 ?_
    refine Go_iconst dL_law_797 ?_
    refine Go_iadd dL_law_798 ?_
    refine Go_xld (j := i + 1) dL_law_799 (by omega) (by omega) hL ?_
    refine Go_cV1 (d' := 1) (bc' := 0) (bs' := 0) rfl dL_law_800 mvX12_append rfl lkL_149 (by first | assumption | rfl) rfl trivial (by decide) (by omega) (by omega) (Nat.le_of_ble_eq_true rfl) ?_
    refine e_X12_append hm1 (sx_in G _) (fun w2 c_2 b1 b2 b3 b4 mx => by (exfalso; first | omega | (first | omega))) (fun w2 b1 mx => by (exfalso; first | omega | (first | omega | exact b1 ⟨a1, a2⟩ | exact b1 ⟨a2, a3⟩))) (fun w2 b1 b2 b3 mx => ?_)
    refine Go_ist7 dL_law_803 rfl ?_
    refine Go_ald2 dL_law_805 ?_
    refine Go_cV0 (d' := 0) (bc' := 0) (bs' := 0) rfl dL_law_806 mvX12_thrown rfl lkL_118 (by first | assumption | rfl) rfl trivial (by decide) (by omega) (by omega) (Nat.le_of_ble_eq_true rfl) ?_
    refine e_X12_thrown ?_
    rw [mx.2.1]
    refine Go_ild6 dL_law_809 ?_
    refine Go_icmp_eq (tgt := 816) dL_law_811 (by decide) (by constructor <;> omega) (by constructor <;> omega) (fun h811 => ?_) (fun h811 => by omega)
    refine Go_ild6 dL_law_816 ?_
    refine Go_if_ne (tgt := 833) dL_law_818 (by decide) (by constructor <;> omega) (fun h818 => ?_) (fun h818 => by omega)
    refine Go_goto (tgt := 2106) dL_law_833 (by decide) ?_
    exact Go_more (by omega) (by omega) (Go_forget (by repeat' (first | exact Or.inl rfl | exact Or.inr rfl | exact Or.inr (lcg (by omega)) | exact trivial | constructor)) (kn w2 _ _ _ _ (c2.frm mx.2.2 (by decide +kernel)) mx.1))
  refine Go_ald1 dL_law_780 ?_
  refine Go_ald0 dL_law_781 ?_
  refine Go_ild5 dL_law_782 ?_
  refine Go_iconst dL_law_784 ?_
  refine Go_iadd dL_law_785 ?_
  refine Go_xld (j := i + 1) dL_law_786 (by omega) (by omega) hL ?_
  refine Go_ald3 dL_law_787 ?_
  refine Go_cSW (d' := 8) (bc' := 2) (bs' := 12) (as := [vr 1, vi (sx G (i + 1)), vr 84]) rfl dL_law_788 msL_append rfl lkL_147 rfl rfl (Nat.le_of_ble_eq_true rfl) (by decide) (by omega) (by omega) ?_
  refine e_L_append h (sx_in G _) q_k q_x3 q_x2
theorem l_law_clearBuffer (hi : i + 4 ≤ GL G) (hL : GL G < 2147483648) (h : CI w s sv g tx) (hm : MInv w s sv g tx) (kn : ∀ v s sv g tx, CI v s sv g tx → MInv v s sv g tx → Go G cL_law (mL_law tb) none 18 bn sn 2106 [some (vr 1000), some (vr 1), some (vr 68), some (vr 84), some (vr 85), some (vi (i : Int)), none, none, none, none] [] v K X) : Go G cL_law (mL_law tb) none 18 (bn + 8) (sn + 48) 836 [some (vr 1000), some (vr 1), some (vr 68), some (vr 84), some (vr 85), some (vi (i : Int)), none, none, none, none] [] w K X := by
  refine Go_ald1 dL_law_836 ?_
  refine Go_cV0 (d' := 1) (bc' := 0) (bs' := 0) rfl dL_law_837 mvX11_clearBuffer rfl lkL_150 (by first | assumption | rfl) rfl trivial (by decide) (by omega) (by omega) (Nat.le_of_ble_eq_true rfl) ?_
  refine e_X11_clearBuffer h (fun w1 c1 f1 => ?_)
  have hm1 := hm.out f1 (by decide +kernel)
  refine Go_ald2 dL_law_840 ?_
  refine Go_cV0 (d' := 0) (bc' := 0) (bs' := 0) rfl dL_law_841 mvX12_clearBuffer rfl lkL_153 (by first | assumption | rfl) rfl trivial (by decide) (by omega) (by omega) (Nat.le_of_ble_eq_true rfl) ?_
  refine e_X12_clearBuffer hm1 (fun w2 mx => ?_)
  exact Go_icmp_same (tgt := 2106) dL_law_844 (by decide) (Go_more (by omega) (by omega) (kn w2 _ _ _ _ (c1.frm mx.2.2 (by decide +kernel)) mx.1))
theorem l_law_firstError (hi : i + 4 ≤ GL G) (hL : GL G < 2147483648) (h : CI w s sv g tx) (hm : MInv w s sv g tx) (kn : ∀ v s sv g tx, CI v s sv g tx → MInv v s sv g tx → Go G cL_law (mL_law tb) none 18 bn sn 2106 [some (vr 1000), some (vr 1), some (vr 68), some (vr 84), some (vr 85), some (vi (i : Int)), none, none, none, none] [] v K X) : Go G cL_law (mL_law tb) none 18 (bn + 8) (sn + 48) 849 [some (vr 1000), some (vr 1), some (vr 68), some (vr 84), some (vr 85), some (vi (i : Int)), none, none, none, none] [] w K X := by
  refine Go_ald1 dL_law_849 ?_
  refine Go_cV0 (d' := 6) (bc' := 0) (bs' := 0) rfl dL_law_850 mvX11_firstError rfl lkL_154 (by first | assumption | rfl) rfl trivial (by decide) (by omega) (by omega) (Nat.le_of_ble_eq_true rfl) ?_
  refine e_X11_firstError h ?_
  have c1 := h
  have hm1 := hm
  refine Go_ald2 dL_law_853 ?_
  refine Go_cV0 (d' := 4) (bc' := 0) (bs' := 0) rfl dL_law_854 mvX12_firstError rfl lkL_157 (by first | assumption | rfl) rfl trivial (by decide) (by omega) (by omega) (Nat.le_of_ble_eq_true rfl) ?_
  refine e_X12_firstError hm1 (fun w2 mx => ?_)
  exact Go_icmp_same (tgt := 2106) dL_law_857 (by decide) (Go_more (by omega) (by omega) (kn w2 _ _ _ _ (c1.frm mx.2.2 (by decide +kernel)) mx.1))
theorem l_law_draw (hi : i + 4 ≤ GL G) (hL : GL G < 2147483648) (h : CI w s sv g tx) (hm : MInv w s sv g tx) (kn : ∀ v s sv g tx, CI v s sv g tx → MInv v s sv g tx → Go G cL_law (mL_law tb) none 18 bn sn 2106 [some (vr 1000), some (vr 1), some (vr 68), some (vr 84), some (vr 85), some (vi (i : Int)), none, none, none, none] [] v K X) : Go G cL_law (mL_law tb) none 18 (bn + 8) (sn + 48) 862 [some (vr 1000), some (vr 1), some (vr 68), some (vr 84), some (vr 85), some (vi (i : Int)), none, none, none, none] [] w K X := by
  have q_k : ∀ w', 4 ≤ tx.length → errN tx = tx.length → s.1.length < 5 → wkA s.1 tx (tx.length - 3) = true → CI w' (s.1 ++ [wkL tx (tx.length - 3)], s.2.1, s.2.2.1, s.2.2.2) (pushS sv s) g [] → frm w w' ccs → Go G cL_law (mL_law tb) none 18 (bn + 8 - 1) (sn + 48 - 6) 867 [some (vr 1000), some (vr 1), some (vr 68), some (vr 84), some (vr 85), some (vi (i : Int)), none, none, none, none] [vi 0] (up w' 84 0 (nz s.1.length)) K X := fun w1 a1 a2 a3 a4 c1 fr1 => by
    have hm1 : MInv (up w1 84 0 (nz s.1.length)) s sv g tx := (hm.out fr1 (by decide +kernel)).out (A := [84]) (frm.rfl.up (by simp)) (by decide)
    have c2 : CI (up w1 84 0 (nz s.1.length)) _ _ _ _ := c1.frm (A := [84]) (frm.rfl.up (by simp)) (by decide)
    refine Go_ist6 dL_law_867 rfl ?_
    refine Go_ald2 dL_law_869 ?_
    refine Go_cV0 (d' := 4) (bc' := 0) (bs' := 0) rfl dL_law_870 mvX12_draw rfl lkL_161 (by first | assumption | rfl) rfl trivial (by decide) (by omega) (by omega) (Nat.le_of_ble_eq_true rfl) ?_
    refine e_X12_draw hm1 (fun w2 b1 b2 b3 b4 mx => ?_) (fun w2 b1 mx => by (exfalso; first | omega | (first | omega | exact b1 ⟨a1, a2⟩ | exact b1 ⟨a2, a3⟩ | exact b1 ⟨a3, a4⟩))) (fun w2 b1 b2 b3 mx => by (exfalso; first | omega | (first | omega | exact b3 ⟨a1, a2⟩ | exact b3 ⟨a2, a3⟩ | exact b3 ⟨a3, a4⟩)))
    refine Go_ist7 dL_law_873 rfl ?_
    refine Go_ald2 dL_law_875 ?_
    refine Go_cV0 (d' := 0) (bc' := 0) (bs' := 0) rfl dL_law_876 mvX12_thrown rfl lkL_118 (by first | assumption | rfl) rfl trivial (by decide) (by omega) (by omega) (Nat.le_of_ble_eq_true rfl) ?_
    refine e_X12_thrown ?_
    rw [mx.2.1]
    refine Go_ild6 dL_law_879 ?_
    refine Go_icmp_eq (tgt := 886) dL_law_881 (by decide) (by constructor <;> omega) (by constructor <;> omega) (fun h881 => ?_) (fun h881 => by omega)
    refine Go_ild6 dL_law_886 ?_
    refine Go_if_ne (tgt := 903) dL_law_888 (by decide) (by constructor <;> omega) (fun h888 => by omega) (fun h888 => ?_)
    refine Go_ald3 dL_law_891 ?_
    refine Go_iconst dL_law_892 ?_
    refine Go_lald dL_law_893 (by first | assumption | rfl) trivial (by omega) (by omega) (by decide) ?_
    rw [show (0 : Int).toNat = 0 from rfl, mx.2.2.at (by decide), up_s]
    refine Go_ild7 dL_law_894 ?_
    refine Go_i2lN dL_law_896 ?_
    refine Go_lcmp_same dL_law_897 ?_
    refine Go_if_eq (tgt := 903) dL_law_898 (by decide) (by constructor <;> omega) (fun h898 => ?_) (fun h898 => by omega)
    refine Go_goto (tgt := 2106) dL_law_903 (by decide) ?_
    exact Go_more (by omega) (by omega) (Go_forget (by repeat' (first | exact Or.inl rfl | exact Or.inr rfl | exact Or.inr (lcg (by omega)) | exact trivial | constructor)) (kn w2 _ _ _ _ (c2.frm mx.2.2 (by decide +kernel)) mx.1))
  have q_x3 : ¬ (4 ≤ tx.length ∧ errN tx = tx.length) → Go G cL_law (mL_law tb) none 18 (bn + 8 - 1) (sn + 48 - 6) 867 [some (vr 1000), some (vr 1), some (vr 68), some (vr 84), some (vr 85), some (vi (i : Int)), none, none, none, none] [vi 1] (w) K X := fun a1 => by
    have c1 := h
    have hm1 := hm
    have c2 := c1
    refine Go_ist6 dL_law_867 rfl ?_
    refine Go_ald2 dL_law_869 ?_
    refine Go_cV0 (d' := 4) (bc' := 0) (bs' := 0) rfl dL_law_870 mvX12_draw rfl lkL_161 (by first | assumption | rfl) rfl trivial (by decide) (by omega) (by omega) (Nat.le_of_ble_eq_true rfl) ?_
    refine e_X12_draw hm1 (fun w2 b1 b2 b3 b4 mx => by (exfalso; first | omega | (first | omega | exact a1 ⟨b1, b2⟩ | exact a1 ⟨b2, b3⟩ | exact a1 ⟨b3, b4⟩ | exact a1 ⟨b1, b2, b3, b4⟩))) (fun w2 b1 mx => ?_) (fun w2 b1 b2 b3 mx => by (exfalso; first | omega | (first | omega | exact a1 ⟨b1, b2⟩ | exact a1 ⟨b2, b3⟩)))
    refine Go_ist7 dL_law_873 rfl ?_
    refine Go_ald2 dL_law_875 ?_
    refine Go_cV0 (d' := 0) (bc' := 0) (bs' := 0) rfl dL_law_876 mvX12_thrown rfl lkL_118 (by first | assumption | rfl) rfl trivial (by decide) (by omega) (by omega) (Nat.le_of_ble_eq_true rfl) ?_
    refine e_X12_thrown ?_
    rw [mx.2.1]
    refine Go_ild6 dL_law_879 ?_
    refine Go_icmp_eq (tgt := 886) dL_law_881 (by decide) (by constructor <;> omega) (by constructor <;> omega) (fun h881 => ?_) (fun h881 => by omega)
    refine Go_ild6 dL_law_886 ?_
    refine Go_if_ne (tgt := 903) dL_law_888 (by decide) (by constructor <;> omega) (fun h888 => ?_) (fun h888 => by omega)
    refine Go_goto (tgt := 2106) dL_law_903 (by decide) ?_
    exact Go_more (by omega) (by omega) (Go_forget (by repeat' (first | exact Or.inl rfl | exact Or.inr rfl | exact Or.inr (lcg (by omega)) | exact trivial | constructor)) (kn w2 _ _ _ _ (c2.frm mx.2.2 (by decide +kernel)) mx.1))
  have q_x2 : ∀ w', 4 ≤ tx.length → errN tx = tx.length → ¬ (s.1.length < 5 ∧ wkA s.1 tx (tx.length - 3) = true) → CI w' s sv g tx → frm w w' ccs → Go G cL_law (mL_law tb) none 18 (bn + 8 - 1) (sn + 48 - 6) 867 [some (vr 1000), some (vr 1), some (vr 68), some (vr 84), some (vr 85), some (vi (i : Int)), none, none, none, none] [vi 2] (w') K X := fun w1 a1 a2 a3 c1 fr1 => by
    have hm1 := hm.out fr1 (by decide +kernel)
    have c2 := c1
    refine Go_ist6 dL_law_867 rfl ?_
    refine Go_ald2 dL_law_869 ?_
    refine Go_cV0 (d' := 4) (bc' := 0) (bs' := 0) rfl dL_law_870 mvX12_draw rfl lkL_161 (by first | assumption | rfl) rfl trivial (by decide) (by omega) (by omega) (Nat.le_of_ble_eq_true rfl) ?_
    refine e_X12_draw hm1 (fun w2 b1 b2 b3 b4 mx => by (exfalso; first | omega | (first | omega | exact a3 ⟨b1, b2⟩ | exact a3 ⟨b2, b3⟩ | exact a3 ⟨b3, b4⟩ | exact a3 ⟨b1, b2, b3, b4⟩))) (fun w2 b1 mx => by (exfalso; first | omega | (first | omega | exact b1 ⟨a1, a2⟩ | exact b1 ⟨a2, a3⟩))) (fun w2 b1 b2 b3 mx => ?_)
    refine Go_ist7 dL_law_873 rfl ?_
    refine Go_ald2 dL_law_875 ?_
    refine Go_cV0 (d' := 0) (bc' := 0) (bs' := 0) rfl dL_law_876 mvX12_thrown rfl lkL_118 (by first | assumption | rfl) rfl trivial (by decide) (by omega) (by omega) (Nat.le_of_ble_eq_true rfl) ?_
    refine e_X12_thrown ?_
    rw [mx.2.1]
    refine Go_ild6 dL_law_879 ?_
    refine Go_icmp_eq (tgt := 886) dL_law_881 (by decide) (by constructor <;> omega) (by constructor <;> omega) (fun h881 => ?_) (fun h881 => by omega)
    refine Go_ild6 dL_law_886 ?_
    refine Go_if_ne (tgt := 903) dL_law_888 (by decide) (by constructor <;> omega) (fun h888 => ?_) (fun h888 => by omega)
    refine Go_goto (tgt := 2106) dL_law_903 (by decide) ?_
    exact Go_more (by omega) (by omega) (Go_forget (by repeat' (first | exact Or.inl rfl | exact Or.inr rfl | exact Or.inr (lcg (by omega)) | exact trivial | constructor)) (kn w2 _ _ _ _ (c2.frm mx.2.2 (by decide +kernel)) mx.1))
  refine Go_ald1 dL_law_862 ?_
  refine Go_ald3 dL_law_863 ?_
  refine Go_cSW (d' := 8) (bc' := 1) (bs' := 6) (as := [vr 1, vr 84]) rfl dL_law_864 msL_draw rfl lkL_158 rfl rfl (Nat.le_of_ble_eq_true rfl) (by decide) (by omega) (by omega) ?_
  refine e_L_draw h  q_k q_x3 q_x2
theorem l_law_write (hi : i + 4 ≤ GL G) (hL : GL G < 2147483648) (h : CI w s sv g tx) (hm : MInv w s sv g tx) (kn : ∀ v s sv g tx, CI v s sv g tx → MInv v s sv g tx → Go G cL_law (mL_law tb) none 18 bn sn 2106 [some (vr 1000), some (vr 1), some (vr 68), some (vr 84), some (vr 85), some (vi (i : Int)), none, none, none, none] [] v K X) : Go G cL_law (mL_law tb) none 18 (bn + 8) (sn + 48) 906 [some (vr 1000), some (vr 1), some (vr 68), some (vr 84), some (vr 85), some (vi (i : Int)), none, none, none, none] [] w K X := by
  have q_k : ∀ w' (p : Nat), (sx G (i + 1)) = p → p < s.1.length → CI w' s sv g (wrT (pth s.1 p)) → frm w w' ccs → Go G cL_law (mL_law tb) none 18 (bn + 8 - 1) (sn + 48 - 6) 917 [some (vr 1000), some (vr 1), some (vr 68), some (vr 84), some (vr 85), some (vi (i : Int)), none, none, none, none] [vi 0] (up w' 84 0 (nz ((wrT (pth s.1 p)).length))) K X := fun w1 p a1 a2 c1 fr1 => by
    have hm1 : MInv (up w1 84 0 (nz ((wrT (pth s.1 p)).length))) s sv g tx := (hm.out fr1 (by decide +kernel)).out (A := [84]) (frm.rfl.up (by simp)) (by decide)
    have c2 : CI (up w1 84 0 (nz ((wrT (pth s.1 p)).length))) _ _ _ _ := c1.frm (A := [84]) (frm.rfl.up (by simp)) (by decide)
    refine Go_ist6 dL_law_917 rfl ?_
    refine Go_ald2 dL_law_919 ?_
    refine Go_ald0 dL_law_920 ?_
    refine Go_ild5 dL_law_921 ?_
    refine Go_iconst dL_law_923 ?_
    refine Go_iadd dL_law_924 ?_
    refine Go_xld (j := i + 1) dL_law_925 (by omega) (by omega) hL ?_
    refine Go_cV1 (d' := 3) (bc' := 0) (bs' := 0) rfl dL_law_926 mvX12_write rfl lkL_164 (by first | assumption | rfl) rfl trivial (by decide) (by omega) (by omega) (Nat.le_of_ble_eq_true rfl) ?_
    refine e_X12_write hm1 (sx_in G _) (fun w2 p_2 b1 b2 mx => ?_) (fun w2 b1 mx => by (exfalso; first | omega | (first | omega | exact b1 ⟨a1, a2⟩)))
    have e_p_2 : p_2 = p := (by omega)
    subst e_p_2
    refine Go_ist7 dL_law_929 rfl ?_
    refine Go_ald2 dL_law_931 ?_
    refine Go_cV0 (d' := 0) (bc' := 0) (bs' := 0) rfl dL_law_932 mvX12_thrown rfl lkL_118 (by first | assumption | rfl) rfl trivial (by decide) (by omega) (by omega) (Nat.le_of_ble_eq_true rfl) ?_
    refine e_X12_thrown ?_
    rw [mx.2.1]
    refine Go_ild6 dL_law_935 ?_
    refine Go_icmp_eq (tgt := 942) dL_law_937 (by decide) (by constructor <;> omega) (by constructor <;> omega) (fun h937 => ?_) (fun h937 => by omega)
    refine Go_ild6 dL_law_942 ?_
    refine Go_if_ne (tgt := 959) dL_law_944 (by decide) (by constructor <;> omega) (fun h944 => by omega) (fun h944 => ?_)
    refine Go_ald3 dL_law_947 ?_
    refine Go_iconst dL_law_948 ?_
    refine Go_lald dL_law_949 (by first | assumption | rfl) trivial (by omega) (by omega) (by decide) ?_
    rw [show (0 : Int).toNat = 0 from rfl, mx.2.2.at (by decide), up_s]
    refine Go_ild7 dL_law_950 ?_
    refine Go_i2lN dL_law_952 ?_
    refine Go_lcmp_same dL_law_953 ?_
    refine Go_if_eq (tgt := 959) dL_law_954 (by decide) (by constructor <;> omega) (fun h954 => ?_) (fun h954 => by omega)
    refine Go_goto (tgt := 2106) dL_law_959 (by decide) ?_
    exact Go_more (by omega) (by omega) (Go_forget (by repeat' (first | exact Or.inl rfl | exact Or.inr rfl | exact Or.inr (lcg (by omega)) | exact trivial | constructor)) (kn w2 _ _ _ _ (c2.frm mx.2.2 (by decide +kernel)) mx.1))
  have q_x1 : ¬ (0 ≤ (sx G (i + 1)) ∧ (sx G (i + 1)) < s.1.length) → Go G cL_law (mL_law tb) none 18 (bn + 8 - 1) (sn + 48 - 6) 917 [some (vr 1000), some (vr 1), some (vr 68), some (vr 84), some (vr 85), some (vi (i : Int)), none, none, none, none] [vi 1] (w) K X := fun a1 => by
    have c1 := h
    have hm1 := hm
    have c2 := c1
    refine Go_ist6 dL_law_917 rfl ?_
    refine Go_ald2 dL_law_919 ?_
    refine Go_ald0 dL_law_920 ?_
    refine Go_ild5 dL_law_921 ?_
    refine Go_iconst dL_law_923 ?_
    refine Go_iadd dL_law_924 ?_
    refine Go_xld (j := i + 1) dL_law_925 (by omega) (by omega) hL ?_
    refine Go_cV1 (d' := 3) (bc' := 0) (bs' := 0) rfl dL_law_926 mvX12_write rfl lkL_164 (by first | assumption | rfl) rfl trivial (by decide) (by omega) (by omega) (Nat.le_of_ble_eq_true rfl) ?_
    refine e_X12_write hm1 (sx_in G _) (fun w2 p_2 b1 b2 mx => by (exfalso; first | omega | (first | omega | exact a1 ⟨b1, b2⟩))) (fun w2 b1 mx => ?_)
    refine Go_ist7 dL_law_929 rfl ?_
    refine Go_ald2 dL_law_931 ?_
    refine Go_cV0 (d' := 0) (bc' := 0) (bs' := 0) rfl dL_law_932 mvX12_thrown rfl lkL_118 (by first | assumption | rfl) rfl trivial (by decide) (by omega) (by omega) (Nat.le_of_ble_eq_true rfl) ?_
    refine e_X12_thrown ?_
    rw [mx.2.1]
    refine Go_ild6 dL_law_935 ?_
    refine Go_icmp_eq (tgt := 942) dL_law_937 (by decide) (by constructor <;> omega) (by constructor <;> omega) (fun h937 => ?_) (fun h937 => by omega)
    refine Go_ild6 dL_law_942 ?_
    refine Go_if_ne (tgt := 959) dL_law_944 (by decide) (by constructor <;> omega) (fun h944 => ?_) (fun h944 => by omega)
    refine Go_goto (tgt := 2106) dL_law_959 (by decide) ?_
    exact Go_more (by omega) (by omega) (Go_forget (by repeat' (first | exact Or.inl rfl | exact Or.inr rfl | exact Or.inr (lcg (by omega)) | exact trivial | constructor)) (kn w2 _ _ _ _ (c2.frm mx.2.2 (by decide +kernel)) mx.1))
  refine Go_ald1 dL_law_906 ?_
  refine Go_ald0 dL_law_907 ?_
  refine Go_ild5 dL_law_908 ?_
  refine Go_iconst dL_law_910 ?_
  refine Go_iadd dL_law_911 ?_
  refine Go_xld (j := i + 1) dL_law_912 (by omega) (by omega) hL ?_
  refine Go_ald3 dL_law_913 ?_
  refine Go_cSW (d' := 8) (bc' := 1) (bs' := 6) (as := [vr 1, vi (sx G (i + 1)), vr 84]) rfl dL_law_914 msL_write rfl lkL_162 rfl rfl (Nat.le_of_ble_eq_true rfl) (by decide) (by omega) (by omega) ?_
  refine e_L_write h (sx_in G _) q_k q_x1
theorem l_law_undo (hi : i + 4 ≤ GL G) (hL : GL G < 2147483648) (h : CI w s sv g tx) (hm : MInv w s sv g tx) (kn : ∀ v s sv g tx, CI v s sv g tx → MInv v s sv g tx → Go G cL_law (mL_law tb) none 18 bn sn 2106 [some (vr 1000), some (vr 1), some (vr 68), some (vr 84), some (vr 85), some (vi (i : Int)), none, none, none, none] [] v K X) : Go G cL_law (mL_law tb) none 18 (bn + 8) (sn + 48) 962 [some (vr 1000), some (vr 1), some (vr 68), some (vr 84), some (vr 85), some (vi (i : Int)), none, none, none, none] [] w K X := by
  have q_k : ∀ w', 0 < sv.length → CI w' (sv.getD (sv.length - 1) s00) (sv.take (sv.length - 1)) g tx → frm w w' ccs → Go G cL_law (mL_law tb) none 18 (bn + 8 - 1) (sn + 48 - 6) 967 [some (vr 1000), some (vr 1), some (vr 68), some (vr 84), some (vr 85), some (vi (i : Int)), none, none, none, none] [vi 0] (up w' 84 0 (nz ((sv.length : Int) - 1))) K X := fun w1 a1 c1 fr1 => by
    have hm1 : MInv (up w1 84 0 (nz ((sv.length : Int) - 1))) s sv g tx := (hm.out fr1 (by decide +kernel)).out (A := [84]) (frm.rfl.up (by simp)) (by decide)
    have c2 : CI (up w1 84 0 (nz ((sv.length : Int) - 1))) _ _ _ _ := c1.frm (A := [84]) (frm.rfl.up (by simp)) (by decide)
    refine Go_ist6 dL_law_967 rfl ?_
    refine Go_ald2 dL_law_969 ?_
    refine Go_cV0 (d' := 1) (bc' := 0) (bs' := 0) rfl dL_law_970 mvX12_undo rfl lkL_167 (by first | assumption | rfl) rfl trivial (by decide) (by omega) (by omega) (Nat.le_of_ble_eq_true rfl) ?_
    refine e_X12_undo hm1 (fun w2 b1 mx => ?_) (fun w2 b1 mx => by (exfalso; first | omega | (first | omega)))
    refine Go_ist7 dL_law_973 rfl ?_
    refine Go_ald2 dL_law_975 ?_
    refine Go_cV0 (d' := 0) (bc' := 0) (bs' := 0) rfl dL_law_976 mvX12_thrown rfl lkL_118 (by first | assumption | rfl) rfl trivial (by decide) (by omega) (by omega) (Nat.le_of_ble_eq_true rfl) ?_
    refine e_X12_thrown ?_
    rw [mx.2.1]
    refine Go_ild6 dL_law_979 ?_
    refine Go_icmp_eq (tgt := 986) dL_law_981 (by decide) (by constructor <;> omega) (by constructor <;> omega) (fun h981 => ?_) (fun h981 => by omega)
    refine Go_ild6 dL_law_986 ?_
    refine Go_if_ne (tgt := 1003) dL_law_988 (by decide) (by constructor <;> omega) (fun h988 => by omega) (fun h988 => ?_)
    refine Go_ald3 dL_law_991 ?_
    refine Go_iconst dL_law_992 ?_
    refine Go_lald dL_law_993 (by first | assumption | rfl) trivial (by omega) (by omega) (by decide) ?_
    rw [show (0 : Int).toNat = 0 from rfl, mx.2.2.at (by decide), up_s]
    refine Go_ild7 dL_law_994 ?_
    refine Go_i2lN dL_law_996 ?_
    refine Go_lcmp_same dL_law_997 ?_
    refine Go_if_eq (tgt := 1003) dL_law_998 (by decide) (by constructor <;> omega) (fun h998 => ?_) (fun h998 => by omega)
    refine Go_goto (tgt := 2106) dL_law_1003 (by decide) ?_
    exact Go_more (by omega) (by omega) (Go_forget (by repeat' (first | exact Or.inl rfl | exact Or.inr rfl | exact Or.inr (lcg (by omega)) | exact trivial | constructor)) (kn w2 _ _ _ _ (c2.frm mx.2.2 (by decide +kernel)) mx.1))
  have q_x2 : sv.length = 0 → Go G cL_law (mL_law tb) none 18 (bn + 8 - 1) (sn + 48 - 6) 967 [some (vr 1000), some (vr 1), some (vr 68), some (vr 84), some (vr 85), some (vi (i : Int)), none, none, none, none] [vi 1] (w) K X := fun a1 => by
    have c1 := h
    have hm1 := hm
    have c2 := c1
    refine Go_ist6 dL_law_967 rfl ?_
    refine Go_ald2 dL_law_969 ?_
    refine Go_cV0 (d' := 1) (bc' := 0) (bs' := 0) rfl dL_law_970 mvX12_undo rfl lkL_167 (by first | assumption | rfl) rfl trivial (by decide) (by omega) (by omega) (Nat.le_of_ble_eq_true rfl) ?_
    refine e_X12_undo hm1 (fun w2 b1 mx => by (exfalso; first | omega | (first | omega))) (fun w2 b1 mx => ?_)
    refine Go_ist7 dL_law_973 rfl ?_
    refine Go_ald2 dL_law_975 ?_
    refine Go_cV0 (d' := 0) (bc' := 0) (bs' := 0) rfl dL_law_976 mvX12_thrown rfl lkL_118 (by first | assumption | rfl) rfl trivial (by decide) (by omega) (by omega) (Nat.le_of_ble_eq_true rfl) ?_
    refine e_X12_thrown ?_
    rw [mx.2.1]
    refine Go_ild6 dL_law_979 ?_
    refine Go_icmp_eq (tgt := 986) dL_law_981 (by decide) (by constructor <;> omega) (by constructor <;> omega) (fun h981 => ?_) (fun h981 => by omega)
    refine Go_ild6 dL_law_986 ?_
    refine Go_if_ne (tgt := 1003) dL_law_988 (by decide) (by constructor <;> omega) (fun h988 => ?_) (fun h988 => by omega)
    refine Go_goto (tgt := 2106) dL_law_1003 (by decide) ?_
    exact Go_more (by omega) (by omega) (Go_forget (by repeat' (first | exact Or.inl rfl | exact Or.inr rfl | exact Or.inr (lcg (by omega)) | exact trivial | constructor)) (kn w2 _ _ _ _ (c2.frm mx.2.2 (by decide +kernel)) mx.1))
  refine Go_ald1 dL_law_962 ?_
  refine Go_ald3 dL_law_963 ?_
  refine Go_cSW (d' := 7) (bc' := 1) (bs' := 6) (as := [vr 1, vr 84]) rfl dL_law_964 msL_undo rfl lkL_165 rfl rfl (Nat.le_of_ble_eq_true rfl) (by decide) (by omega) (by omega) ?_
  refine e_L_undo h  q_k q_x2
theorem l_law_keep (hi : i + 4 ≤ GL G) (hL : GL G < 2147483648) (h : CI w s sv g tx) (hm : MInv w s sv g tx) (kn : ∀ v s sv g tx, CI v s sv g tx → MInv v s sv g tx → Go G cL_law (mL_law tb) none 18 bn sn 2106 [some (vr 1000), some (vr 1), some (vr 68), some (vr 84), some (vr 85), some (vi (i : Int)), none, none, none, none] [] v K X) : Go G cL_law (mL_law tb) none 18 (bn + 8) (sn + 48) 1006 [some (vr 1000), some (vr 1), some (vr 68), some (vr 84), some (vr 85), some (vi (i : Int)), none, none, none, none] [] w K X := by
  have q_k : ∀ w' (i1 : Nat), (sx G (i + 1)) = i1 → i1 < 2 → CI w' s sv (putN g i1 s) tx → frm w w' ccs → Go G cL_law (mL_law tb) none 18 (bn + 8 - 1) (sn + 48 - 6) 1017 [some (vr 1000), some (vr 1), some (vr 68), some (vr 84), some (vr 85), some (vi (i : Int)), none, none, none, none] [vi 0] (up w' 84 0 (nz s.1.length)) K X := fun w1 i1 a1 a2 c1 fr1 => by
    have hm1 : MInv (up w1 84 0 (nz s.1.length)) s sv g tx := (hm.out fr1 (by decide +kernel)).out (A := [84]) (frm.rfl.up (by simp)) (by decide)
    have c2 : CI (up w1 84 0 (nz s.1.length)) _ _ _ _ := c1.frm (A := [84]) (frm.rfl.up (by simp)) (by decide)
    refine Go_ist6 dL_law_1017 rfl ?_
    refine Go_ald2 dL_law_1019 ?_
    refine Go_ald0 dL_law_1020 ?_
    refine Go_ild5 dL_law_1021 ?_
    refine Go_iconst dL_law_1023 ?_
    refine Go_iadd dL_law_1024 ?_
    refine Go_xld (j := i + 1) dL_law_1025 (by omega) (by omega) hL ?_
    refine Go_cV1 (d' := 1) (bc' := 0) (bs' := 0) rfl dL_law_1026 mvX12_keep rfl lkL_170 (by first | assumption | rfl) rfl trivial (by decide) (by omega) (by omega) (Nat.le_of_ble_eq_true rfl) ?_
    refine e_X12_keep hm1 (sx_in G _) (fun w2 i_2 b1 b2 mx => ?_) (fun w2 b1 mx => by (exfalso; first | omega | (first | omega | exact b1 ⟨a1, a2⟩)))
    have e_i_2 : i_2 = i1 := (by omega)
    subst e_i_2
    refine Go_ist7 dL_law_1029 rfl ?_
    refine Go_ald2 dL_law_1031 ?_
    refine Go_cV0 (d' := 0) (bc' := 0) (bs' := 0) rfl dL_law_1032 mvX12_thrown rfl lkL_118 (by first | assumption | rfl) rfl trivial (by decide) (by omega) (by omega) (Nat.le_of_ble_eq_true rfl) ?_
    refine e_X12_thrown ?_
    rw [mx.2.1]
    refine Go_ild6 dL_law_1035 ?_
    refine Go_icmp_eq (tgt := 1042) dL_law_1037 (by decide) (by constructor <;> omega) (by constructor <;> omega) (fun h1037 => ?_) (fun h1037 => by omega)
    refine Go_ild6 dL_law_1042 ?_
    refine Go_if_ne (tgt := 1059) dL_law_1044 (by decide) (by constructor <;> omega) (fun h1044 => by omega) (fun h1044 => ?_)
    refine Go_ald3 dL_law_1047 ?_
    refine Go_iconst dL_law_1048 ?_
    refine Go_lald dL_law_1049 (by first | assumption | rfl) trivial (by omega) (by omega) (by decide) ?_
    rw [show (0 : Int).toNat = 0 from rfl, mx.2.2.at (by decide), up_s]
    refine Go_ild7 dL_law_1050 ?_
    refine Go_i2lN dL_law_1052 ?_
    refine Go_lcmp_same dL_law_1053 ?_
    refine Go_if_eq (tgt := 1059) dL_law_1054 (by decide) (by constructor <;> omega) (fun h1054 => ?_) (fun h1054 => by omega)
    refine Go_goto (tgt := 2106) dL_law_1059 (by decide) ?_
    exact Go_more (by omega) (by omega) (Go_forget (by repeat' (first | exact Or.inl rfl | exact Or.inr rfl | exact Or.inr (lcg (by omega)) | exact trivial | constructor)) (kn w2 _ _ _ _ (c2.frm mx.2.2 (by decide +kernel)) mx.1))
  have q_x3 : ¬ (0 ≤ (sx G (i + 1)) ∧ (sx G (i + 1)) ≤ 1) → Go G cL_law (mL_law tb) none 18 (bn + 8 - 1) (sn + 48 - 6) 1017 [some (vr 1000), some (vr 1), some (vr 68), some (vr 84), some (vr 85), some (vi (i : Int)), none, none, none, none] [vi 1] (w) K X := fun a1 => by
    have c1 := h
    have hm1 := hm
    have c2 := c1
    refine Go_ist6 dL_law_1017 rfl ?_
    refine Go_ald2 dL_law_1019 ?_
    refine Go_ald0 dL_law_1020 ?_
    refine Go_ild5 dL_law_1021 ?_
    refine Go_iconst dL_law_1023 ?_
    refine Go_iadd dL_law_1024 ?_
    refine Go_xld (j := i + 1) dL_law_1025 (by omega) (by omega) hL ?_
    refine Go_cV1 (d' := 1) (bc' := 0) (bs' := 0) rfl dL_law_1026 mvX12_keep rfl lkL_170 (by first | assumption | rfl) rfl trivial (by decide) (by omega) (by omega) (Nat.le_of_ble_eq_true rfl) ?_
    refine e_X12_keep hm1 (sx_in G _) (fun w2 i_2 b1 b2 mx => by (exfalso; first | omega | (first | omega | exact a1 ⟨b1, b2⟩))) (fun w2 b1 mx => ?_)
    refine Go_ist7 dL_law_1029 rfl ?_
    refine Go_ald2 dL_law_1031 ?_
    refine Go_cV0 (d' := 0) (bc' := 0) (bs' := 0) rfl dL_law_1032 mvX12_thrown rfl lkL_118 (by first | assumption | rfl) rfl trivial (by decide) (by omega) (by omega) (Nat.le_of_ble_eq_true rfl) ?_
    refine e_X12_thrown ?_
    rw [mx.2.1]
    refine Go_ild6 dL_law_1035 ?_
    refine Go_icmp_eq (tgt := 1042) dL_law_1037 (by decide) (by constructor <;> omega) (by constructor <;> omega) (fun h1037 => ?_) (fun h1037 => by omega)
    refine Go_ild6 dL_law_1042 ?_
    refine Go_if_ne (tgt := 1059) dL_law_1044 (by decide) (by constructor <;> omega) (fun h1044 => ?_) (fun h1044 => by omega)
    refine Go_goto (tgt := 2106) dL_law_1059 (by decide) ?_
    exact Go_more (by omega) (by omega) (Go_forget (by repeat' (first | exact Or.inl rfl | exact Or.inr rfl | exact Or.inr (lcg (by omega)) | exact trivial | constructor)) (kn w2 _ _ _ _ (c2.frm mx.2.2 (by decide +kernel)) mx.1))
  refine Go_ald1 dL_law_1006 ?_
  refine Go_ald0 dL_law_1007 ?_
  refine Go_ild5 dL_law_1008 ?_
  refine Go_iconst dL_law_1010 ?_
  refine Go_iadd dL_law_1011 ?_
  refine Go_xld (j := i + 1) dL_law_1012 (by omega) (by omega) hL ?_
  refine Go_ald3 dL_law_1013 ?_
  refine Go_cSW (d' := 8) (bc' := 1) (bs' := 6) (as := [vr 1, vi (sx G (i + 1)), vr 84]) rfl dL_law_1014 msL_keep rfl lkL_168 rfl rfl (Nat.le_of_ble_eq_true rfl) (by decide) (by omega) (by omega) ?_
  refine e_L_keep h (sx_in G _) q_k q_x3
theorem l_law_goBack (hi : i + 4 ≤ GL G) (hL : GL G < 2147483648) (h : CI w s sv g tx) (hm : MInv w s sv g tx) (kn : ∀ v s sv g tx, CI v s sv g tx → MInv v s sv g tx → Go G cL_law (mL_law tb) none 18 bn sn 2106 [some (vr 1000), some (vr 1), some (vr 68), some (vr 84), some (vr 85), some (vi (i : Int)), none, none, none, none] [] v K X) : Go G cL_law (mL_law tb) none 18 (bn + 8) (sn + 48) 1062 [some (vr 1000), some (vr 1), some (vr 68), some (vr 84), some (vr 85), some (vi (i : Int)), none, none, none, none] [] w K X := by
  have q_k : ∀ w' (i1 : Nat) (s' : Sta), (sx G (i + 1)) = i1 → i1 < 2 → g i1 = some s' → CI w' s' (pushS sv s) g tx → frm w w' ccs → Go G cL_law (mL_law tb) none 18 (bn + 8 - 2) (sn + 48 - 12) 1073 [some (vr 1000), some (vr 1), some (vr 68), some (vr 84), some (vr 85), some (vi (i : Int)), none, none, none, none] [vi 0] (up w' 84 0 (nz (s'.1.length))) K X := fun w1 i1 s1 a1 a2 a3 c1 fr1 => by
    have hm1 : MInv (up w1 84 0 (nz (s1.1.length))) s sv g tx := (hm.out fr1 (by decide +kernel)).out (A := [84]) (frm.rfl.up (by simp)) (by decide)
    have c2 : CI (up w1 84 0 (nz (s1.1.length))) _ _ _ _ := c1.frm (A := [84]) (frm.rfl.up (by simp)) (by decide)
    refine Go_ist6 dL_law_1073 rfl ?_
    refine Go_ald2 dL_law_1075 ?_
    refine Go_ald0 dL_law_1076 ?_
    refine Go_ild5 dL_law_1077 ?_
    refine Go_iconst dL_law_1079 ?_
    refine Go_iadd dL_law_1080 ?_
    refine Go_xld (j := i + 1) dL_law_1081 (by omega) (by omega) hL ?_
    refine Go_cV1 (d' := 1) (bc' := 0) (bs' := 0) rfl dL_law_1082 mvX12_goBack rfl lkL_173 (by first | assumption | rfl) rfl trivial (by decide) (by omega) (by omega) (Nat.le_of_ble_eq_true rfl) ?_
    refine e_X12_goBack hm1 (sx_in G _) (fun w2 i_2 s_2p b1 b2 b3 mx => ?_) (fun w2 b1 mx => by (exfalso; first | omega | (first | omega | exact b1 ⟨a1, a2⟩ | exact b1 ⟨a2, a3⟩ | (rw [a3] at b1; cases b1)))) (fun w2 i_2 b1 b2 b3 mx => by (exfalso; first | omega | (have e_i_2 : i_2 = i1 := (by omega); subst e_i_2; first | omega | (rw [a3] at b3; cases b3))))
    have e_i_2 : i_2 = i1 := (by omega)
    subst e_i_2
    rw [a3] at b3
    cases b3
    refine Go_ist7 dL_law_1085 rfl ?_
    refine Go_ald2 dL_law_1087 ?_
    refine Go_cV0 (d' := 0) (bc' := 0) (bs' := 0) rfl dL_law_1088 mvX12_thrown rfl lkL_118 (by first | assumption | rfl) rfl trivial (by decide) (by omega) (by omega) (Nat.le_of_ble_eq_true rfl) ?_
    refine e_X12_thrown ?_
    rw [mx.2.1]
    refine Go_ild6 dL_law_1091 ?_
    refine Go_icmp_eq (tgt := 1098) dL_law_1093 (by decide) (by constructor <;> omega) (by constructor <;> omega) (fun h1093 => ?_) (fun h1093 => by omega)
    refine Go_ild6 dL_law_1098 ?_
    refine Go_if_ne (tgt := 1115) dL_law_1100 (by decide) (by constructor <;> omega) (fun h1100 => by omega) (fun h1100 => ?_)
    refine Go_ald3 dL_law_1103 ?_
    refine Go_iconst dL_law_1104 ?_
    refine Go_lald dL_law_1105 (by first | assumption | rfl) trivial (by omega) (by omega) (by decide) ?_
    rw [show (0 : Int).toNat = 0 from rfl, mx.2.2.at (by decide), up_s]
    refine Go_ild7 dL_law_1106 ?_
    refine Go_i2lN dL_law_1108 ?_
    refine Go_lcmp_same dL_law_1109 ?_
    refine Go_if_eq (tgt := 1115) dL_law_1110 (by decide) (by constructor <;> omega) (fun h1110 => ?_) (fun h1110 => by omega)
    refine Go_goto (tgt := 2106) dL_law_1115 (by decide) ?_
    exact Go_more (by omega) (by omega) (Go_forget (by repeat' (first | exact Or.inl rfl | exact Or.inr rfl | exact Or.inr (lcg (by omega)) | exact trivial | constructor)) (kn w2 _ _ _ _ (c2.frm mx.2.2 (by decide +kernel)) mx.1))
  have q_x3 : ¬ (0 ≤ (sx G (i + 1)) ∧ (sx G (i + 1)) ≤ 1) → Go G cL_law (mL_law tb) none 18 (bn + 8 - 2) (sn + 48 - 12) 1073 [some (vr 1000), some (vr 1), some (vr 68), some (vr 84), some (vr 85), some (vi (i : Int)), none, none, none, none] [vi 1] (w) K X := fun a1 => by
    have c1 := h
    have hm1 := hm
    have c2 := c1
    refine Go_ist6 dL_law_1073 rfl ?_
    refine Go_ald2 dL_law_1075 ?_
    refine Go_ald0 dL_law_1076 ?_
    refine Go_ild5 dL_law_1077 ?_
    refine Go_iconst dL_law_1079 ?_
    refine Go_iadd dL_law_1080 ?_
    refine Go_xld (j := i + 1) dL_law_1081 (by omega) (by omega) hL ?_
    refine Go_cV1 (d' := 1) (bc' := 0) (bs' := 0) rfl dL_law_1082 mvX12_goBack rfl lkL_173 (by first | assumption | rfl) rfl trivial (by decide) (by omega) (by omega) (Nat.le_of_ble_eq_true rfl) ?_
    refine e_X12_goBack hm1 (sx_in G _) (fun w2 i_2 s_2p b1 b2 b3 mx => by (exfalso; first | omega | (first | omega | exact a1 ⟨b1, b2⟩ | exact a1 ⟨b2, b3⟩ | (rw [a1] at b3; cases b3)))) (fun w2 b1 mx => ?_) (fun w2 i_2 b1 b2 b3 mx => by (exfalso; first | omega | (first | omega | exact a1 ⟨b1, b2⟩ | exact a1 ⟨b2, b3⟩ | (rw [a1] at b3; cases b3))))
    refine Go_ist7 dL_law_1085 rfl ?_
    refine Go_ald2 dL_law_1087 ?_
    refine Go_cV0 (d' := 0) (bc' := 0) (bs' := 0) rfl dL_law_1088 mvX12_thrown rfl lkL_118 (by first | assumption | rfl) rfl trivial (by decide) (by omega) (by omega) (Nat.le_of_ble_eq_true rfl) ?_
    refine e_X12_thrown ?_
    rw [mx.2.1]
    refine Go_ild6 dL_law_1091 ?_
    refine Go_icmp_eq (tgt := 1098) dL_law_1093 (by decide) (by constructor <;> omega) (by constructor <;> omega) (fun h1093 => ?_) (fun h1093 => by omega)
    refine Go_ild6 dL_law_1098 ?_
    refine Go_if_ne (tgt := 1115) dL_law_1100 (by decide) (by constructor <;> omega) (fun h1100 => ?_) (fun h1100 => by omega)
    refine Go_goto (tgt := 2106) dL_law_1115 (by decide) ?_
    exact Go_more (by omega) (by omega) (Go_forget (by repeat' (first | exact Or.inl rfl | exact Or.inr rfl | exact Or.inr (lcg (by omega)) | exact trivial | constructor)) (kn w2 _ _ _ _ (c2.frm mx.2.2 (by decide +kernel)) mx.1))
  have q_x2 : ∀ i1 : Nat, (sx G (i + 1)) = i1 → i1 < 2 → g i1 = none → Go G cL_law (mL_law tb) none 18 (bn + 8 - 2) (sn + 48 - 12) 1073 [some (vr 1000), some (vr 1), some (vr 68), some (vr 84), some (vr 85), some (vi (i : Int)), none, none, none, none] [vi 2] (w) K X := fun i1 a1 a2 a3 => by
    have c1 := h
    have hm1 := hm
    have c2 := c1
    refine Go_ist6 dL_law_1073 rfl ?_
    refine Go_ald2 dL_law_1075 ?_
    refine Go_ald0 dL_law_1076 ?_
    refine Go_ild5 dL_law_1077 ?_
    refine Go_iconst dL_law_1079 ?_
    refine Go_iadd dL_law_1080 ?_
    refine Go_xld (j := i + 1) dL_law_1081 (by omega) (by omega) hL ?_
    refine Go_cV1 (d' := 1) (bc' := 0) (bs' := 0) rfl dL_law_1082 mvX12_goBack rfl lkL_173 (by first | assumption | rfl) rfl trivial (by decide) (by omega) (by omega) (Nat.le_of_ble_eq_true rfl) ?_
    refine e_X12_goBack hm1 (sx_in G _) (fun w2 i_2 s_2p b1 b2 b3 mx => by (exfalso; first | omega | (have e_i_2 : i_2 = i1 := (by omega); subst e_i_2; first | omega | (rw [a3] at b3; cases b3)))) (fun w2 b1 mx => by (exfalso; first | omega | (first | omega | exact b1 ⟨a1, a2⟩ | exact b1 ⟨a2, a3⟩ | (rw [a3] at b1; cases b1)))) (fun w2 i_2 b1 b2 b3 mx => ?_)
    have e_i_2 : i_2 = i1 := (by omega)
    subst e_i_2
    refine Go_ist7 dL_law_1085 rfl ?_
    refine Go_ald2 dL_law_1087 ?_
    refine Go_cV0 (d' := 0) (bc' := 0) (bs' := 0) rfl dL_law_1088 mvX12_thrown rfl lkL_118 (by first | assumption | rfl) rfl trivial (by decide) (by omega) (by omega) (Nat.le_of_ble_eq_true rfl) ?_
    refine e_X12_thrown ?_
    rw [mx.2.1]
    refine Go_ild6 dL_law_1091 ?_
    refine Go_icmp_eq (tgt := 1098) dL_law_1093 (by decide) (by constructor <;> omega) (by constructor <;> omega) (fun h1093 => ?_) (fun h1093 => by omega)
    refine Go_ild6 dL_law_1098 ?_
    refine Go_if_ne (tgt := 1115) dL_law_1100 (by decide) (by constructor <;> omega) (fun h1100 => ?_) (fun h1100 => by omega)
    refine Go_goto (tgt := 2106) dL_law_1115 (by decide) ?_
    exact Go_more (by omega) (by omega) (Go_forget (by repeat' (first | exact Or.inl rfl | exact Or.inr rfl | exact Or.inr (lcg (by omega)) | exact trivial | constructor)) (kn w2 _ _ _ _ (c2.frm mx.2.2 (by decide +kernel)) mx.1))
  refine Go_ald1 dL_law_1062 ?_
  refine Go_ald0 dL_law_1063 ?_
  refine Go_ild5 dL_law_1064 ?_
  refine Go_iconst dL_law_1066 ?_
  refine Go_iadd dL_law_1067 ?_
  refine Go_xld (j := i + 1) dL_law_1068 (by omega) (by omega) hL ?_
  refine Go_ald3 dL_law_1069 ?_
  refine Go_cSW (d' := 8) (bc' := 2) (bs' := 12) (as := [vr 1, vi (sx G (i + 1)), vr 84]) rfl dL_law_1070 msL_goBack rfl lkL_171 rfl rfl (Nat.le_of_ble_eq_true rfl) (by decide) (by omega) (by omega) ?_
  refine e_L_goBack h (sx_in G _) q_k q_x3 q_x2
theorem l_law_site (hi : i + 4 ≤ GL G) (hL : GL G < 2147483648) (h : CI w s sv g tx) (hm : MInv w s sv g tx) (kn : ∀ v s sv g tx, CI v s sv g tx → MInv v s sv g tx → Go G cL_law (mL_law tb) none 18 bn sn 2106 [some (vr 1000), some (vr 1), some (vr 68), some (vr 84), some (vr 85), some (vi (i : Int)), none, none, none, none] [] v K X) : Go G cL_law (mL_law tb) none 18 (bn + 8) (sn + 48) 1118 [some (vr 1000), some (vr 1), some (vr 68), some (vr 84), some (vr 85), some (vi (i : Int)), none, none, none, none] [] w K X := by
  have q_k : ∀ x : Nat, numI (sx G (i + 1)) (sx G (i + 2)) = x → x < 100 → 0 ≤ (sx G (i + 3)) → (sx G (i + 3)) ≤ 2 → Go G cL_law (mL_law tb) none 18 (bn + 8 - 2) (sn + 48 - 12) 1141 [some (vr 1000), some (vr 1), some (vr 68), some (vr 84), some (vr 85), some (vi (i : Int)), none, none, none, none] [vi 0] (up w 84 0 (nz (if (sx G (i + 3)) = 0 then ow s.1 x else if (sx G (i + 3)) = 1 then plc s.1 x else (frD s.1 x : Int)))) K X := fun x a1 a2 a3 a4 => by
    have c1 := h
    have hm1 : MInv (up w 84 0 (nz (if (sx G (i + 3)) = 0 then ow s.1 x else if (sx G (i + 3)) = 1 then plc s.1 x else (frD s.1 x : Int)))) s sv g tx := (hm).out (A := [84]) (frm.rfl.up (by simp)) (by decide)
    have c2 : CI (up w 84 0 (nz (if (sx G (i + 3)) = 0 then ow s.1 x else if (sx G (i + 3)) = 1 then plc s.1 x else (frD s.1 x : Int)))) _ _ _ _ := c1.frm (A := [84]) (frm.rfl.up (by simp)) (by decide)
    refine Go_ist6 dL_law_1141 rfl ?_
    refine Go_ald2 dL_law_1143 ?_
    refine Go_ald0 dL_law_1144 ?_
    refine Go_ild5 dL_law_1145 ?_
    refine Go_iconst dL_law_1147 ?_
    refine Go_iadd dL_law_1148 ?_
    refine Go_xld (j := i + 1) dL_law_1149 (by omega) (by omega) hL ?_
    refine Go_ald0 dL_law_1150 ?_
    refine Go_ild5 dL_law_1151 ?_
    refine Go_iconst dL_law_1153 ?_
    refine Go_iadd dL_law_1154 ?_
    refine Go_xld (j := i + 2) dL_law_1155 (by omega) (by omega) hL ?_
    refine Go_ald0 dL_law_1156 ?_
    refine Go_ild5 dL_law_1157 ?_
    refine Go_iconst dL_law_1159 ?_
    refine Go_iadd dL_law_1160 ?_
    refine Go_xld (j := i + 3) dL_law_1161 (by omega) (by omega) hL ?_
    refine Go_cV3 (d' := 3) (bc' := 0) (bs' := 0) rfl dL_law_1162 mvX12_site rfl lkL_176 (by first | assumption | rfl) rfl trivial (by decide) (by omega) (by omega) (Nat.le_of_ble_eq_true rfl) ?_
    refine e_X12_site hm1 (sx_in G _) (sx_in G _) (sx_in G _) (fun w2 x_2 b1 b2 b3 b4 mx => ?_) (fun w2 b1 mx => by (exfalso; first | omega | (first | omega))) (fun w2 b1 b2 mx => by (exfalso; first | omega | (first | omega | exact b2 ⟨a1, a2⟩ | exact b2 ⟨a2, a3⟩ | exact b2 ⟨a3, a4⟩)))
    have e_x_2 : x_2 = x := (by omega)
    subst e_x_2
    refine Go_ist7 dL_law_1165 rfl ?_
    refine Go_ald2 dL_law_1167 ?_
    refine Go_cV0 (d' := 0) (bc' := 0) (bs' := 0) rfl dL_law_1168 mvX12_thrown rfl lkL_118 (by first | assumption | rfl) rfl trivial (by decide) (by omega) (by omega) (Nat.le_of_ble_eq_true rfl) ?_
    refine e_X12_thrown ?_
    rw [mx.2.1]
    refine Go_ild6 dL_law_1171 ?_
    refine Go_icmp_eq (tgt := 1178) dL_law_1173 (by decide) (by constructor <;> omega) (by constructor <;> omega) (fun h1173 => ?_) (fun h1173 => by omega)
    refine Go_ild6 dL_law_1178 ?_
    refine Go_if_ne (tgt := 1195) dL_law_1180 (by decide) (by constructor <;> omega) (fun h1180 => by omega) (fun h1180 => ?_)
    refine Go_ald3 dL_law_1183 ?_
    refine Go_iconst dL_law_1184 ?_
    refine Go_lald dL_law_1185 (by first | assumption | rfl) trivial (by omega) (by omega) (by decide) ?_
    rw [show (0 : Int).toNat = 0 from rfl, mx.2.2.at (by decide), up_s]
    refine Go_ild7 dL_law_1186 ?_
    refine Go_i2lN dL_law_1188 ?_
    refine Go_lcmp_same dL_law_1189 ?_
    refine Go_if_eq (tgt := 1195) dL_law_1190 (by decide) (by constructor <;> omega) (fun h1190 => ?_) (fun h1190 => by omega)
    refine Go_goto (tgt := 2106) dL_law_1195 (by decide) ?_
    exact Go_more (by omega) (by omega) (Go_forget (by repeat' (first | exact Or.inl rfl | exact Or.inr rfl | exact Or.inr (lcg (by omega)) | exact trivial | constructor)) (kn w2 _ _ _ _ (c2.frm mx.2.2 (by decide +kernel)) mx.1))
  have q_x1 : numI (sx G (i + 1)) (sx G (i + 2)) = -1 → Go G cL_law (mL_law tb) none 18 (bn + 8 - 2) (sn + 48 - 12) 1141 [some (vr 1000), some (vr 1), some (vr 68), some (vr 84), some (vr 85), some (vi (i : Int)), none, none, none, none] [vi 1] (w) K X := fun a1 => by
    have c1 := h
    have hm1 := hm
    have c2 := c1
    refine Go_ist6 dL_law_1141 rfl ?_
    refine Go_ald2 dL_law_1143 ?_
    refine Go_ald0 dL_law_1144 ?_
    refine Go_ild5 dL_law_1145 ?_
    refine Go_iconst dL_law_1147 ?_
    refine Go_iadd dL_law_1148 ?_
    refine Go_xld (j := i + 1) dL_law_1149 (by omega) (by omega) hL ?_
    refine Go_ald0 dL_law_1150 ?_
    refine Go_ild5 dL_law_1151 ?_
    refine Go_iconst dL_law_1153 ?_
    refine Go_iadd dL_law_1154 ?_
    refine Go_xld (j := i + 2) dL_law_1155 (by omega) (by omega) hL ?_
    refine Go_ald0 dL_law_1156 ?_
    refine Go_ild5 dL_law_1157 ?_
    refine Go_iconst dL_law_1159 ?_
    refine Go_iadd dL_law_1160 ?_
    refine Go_xld (j := i + 3) dL_law_1161 (by omega) (by omega) hL ?_
    refine Go_cV3 (d' := 3) (bc' := 0) (bs' := 0) rfl dL_law_1162 mvX12_site rfl lkL_176 (by first | assumption | rfl) rfl trivial (by decide) (by omega) (by omega) (Nat.le_of_ble_eq_true rfl) ?_
    refine e_X12_site hm1 (sx_in G _) (sx_in G _) (sx_in G _) (fun w2 x_2 b1 b2 b3 b4 mx => by (exfalso; first | omega | (first | omega))) (fun w2 b1 mx => ?_) (fun w2 b1 b2 mx => by (exfalso; first | omega | (first | omega)))
    refine Go_ist7 dL_law_1165 rfl ?_
    refine Go_ald2 dL_law_1167 ?_
    refine Go_cV0 (d' := 0) (bc' := 0) (bs' := 0) rfl dL_law_1168 mvX12_thrown rfl lkL_118 (by first | assumption | rfl) rfl trivial (by decide) (by omega) (by omega) (Nat.le_of_ble_eq_true rfl) ?_
    refine e_X12_thrown ?_
    rw [mx.2.1]
    refine Go_ild6 dL_law_1171 ?_
    refine Go_icmp_eq (tgt := 1178) dL_law_1173 (by decide) (by constructor <;> omega) (by constructor <;> omega) (fun h1173 => ?_) (fun h1173 => by omega)
    refine Go_ild6 dL_law_1178 ?_
    refine Go_if_ne (tgt := 1195) dL_law_1180 (by decide) (by constructor <;> omega) (fun h1180 => ?_) (fun h1180 => by omega)
    refine Go_goto (tgt := 2106) dL_law_1195 (by decide) ?_
    exact Go_more (by omega) (by omega) (Go_forget (by repeat' (first | exact Or.inl rfl | exact Or.inr rfl | exact Or.inr (lcg (by omega)) | exact trivial | constructor)) (kn w2 _ _ _ _ (c2.frm mx.2.2 (by decide +kernel)) mx.1))
  have q_x3 : numI (sx G (i + 1)) (sx G (i + 2)) ≠ -1 → ¬ (0 ≤ (sx G (i + 3)) ∧ (sx G (i + 3)) ≤ 2) → Go G cL_law (mL_law tb) none 18 (bn + 8 - 2) (sn + 48 - 12) 1141 [some (vr 1000), some (vr 1), some (vr 68), some (vr 84), some (vr 85), some (vi (i : Int)), none, none, none, none] [vi 2] (w) K X := fun a1 a2 => by
    have c1 := h
    have hm1 := hm
    have c2 := c1
    refine Go_ist6 dL_law_1141 rfl ?_
    refine Go_ald2 dL_law_1143 ?_
    refine Go_ald0 dL_law_1144 ?_
    refine Go_ild5 dL_law_1145 ?_
    refine Go_iconst dL_law_1147 ?_
    refine Go_iadd dL_law_1148 ?_
    refine Go_xld (j := i + 1) dL_law_1149 (by omega) (by omega) hL ?_
    refine Go_ald0 dL_law_1150 ?_
    refine Go_ild5 dL_law_1151 ?_
    refine Go_iconst dL_law_1153 ?_
    refine Go_iadd dL_law_1154 ?_
    refine Go_xld (j := i + 2) dL_law_1155 (by omega) (by omega) hL ?_
    refine Go_ald0 dL_law_1156 ?_
    refine Go_ild5 dL_law_1157 ?_
    refine Go_iconst dL_law_1159 ?_
    refine Go_iadd dL_law_1160 ?_
    refine Go_xld (j := i + 3) dL_law_1161 (by omega) (by omega) hL ?_
    refine Go_cV3 (d' := 3) (bc' := 0) (bs' := 0) rfl dL_law_1162 mvX12_site rfl lkL_176 (by first | assumption | rfl) rfl trivial (by decide) (by omega) (by omega) (Nat.le_of_ble_eq_true rfl) ?_
    refine e_X12_site hm1 (sx_in G _) (sx_in G _) (sx_in G _) (fun w2 x_2 b1 b2 b3 b4 mx => by (exfalso; first | omega | (first | omega | exact a2 ⟨b1, b2⟩ | exact a2 ⟨b2, b3⟩ | exact a2 ⟨b3, b4⟩ | exact a2 ⟨b1, b2, b3, b4⟩))) (fun w2 b1 mx => by (exfalso; first | omega | (first | omega))) (fun w2 b1 b2 mx => ?_)
    refine Go_ist7 dL_law_1165 rfl ?_
    refine Go_ald2 dL_law_1167 ?_
    refine Go_cV0 (d' := 0) (bc' := 0) (bs' := 0) rfl dL_law_1168 mvX12_thrown rfl lkL_118 (by first | assumption | rfl) rfl trivial (by decide) (by omega) (by omega) (Nat.le_of_ble_eq_true rfl) ?_
    refine e_X12_thrown ?_
    rw [mx.2.1]
    refine Go_ild6 dL_law_1171 ?_
    refine Go_icmp_eq (tgt := 1178) dL_law_1173 (by decide) (by constructor <;> omega) (by constructor <;> omega) (fun h1173 => ?_) (fun h1173 => by omega)
    refine Go_ild6 dL_law_1178 ?_
    refine Go_if_ne (tgt := 1195) dL_law_1180 (by decide) (by constructor <;> omega) (fun h1180 => ?_) (fun h1180 => by omega)
    refine Go_goto (tgt := 2106) dL_law_1195 (by decide) ?_
    exact Go_more (by omega) (by omega) (Go_forget (by repeat' (first | exact Or.inl rfl | exact Or.inr rfl | exact Or.inr (lcg (by omega)) | exact trivial | constructor)) (kn w2 _ _ _ _ (c2.frm mx.2.2 (by decide +kernel)) mx.1))
  refine Go_ald1 dL_law_1118 ?_
  refine Go_ald0 dL_law_1119 ?_
  refine Go_ild5 dL_law_1120 ?_
  refine Go_iconst dL_law_1122 ?_
  refine Go_iadd dL_law_1123 ?_
  refine Go_xld (j := i + 1) dL_law_1124 (by omega) (by omega) hL ?_
  refine Go_ald0 dL_law_1125 ?_
  refine Go_ild5 dL_law_1126 ?_
  refine Go_iconst dL_law_1128 ?_
  refine Go_iadd dL_law_1129 ?_
  refine Go_xld (j := i + 2) dL_law_1130 (by omega) (by omega) hL ?_
  refine Go_ald0 dL_law_1131 ?_
  refine Go_ild5 dL_law_1132 ?_
  refine Go_iconst dL_law_1134 ?_
  refine Go_iadd dL_law_1135 ?_
  refine Go_xld (j := i + 3) dL_law_1136 (by omega) (by omega) hL ?_
  refine Go_ald3 dL_law_1137 ?_
  refine Go_cSW (d' := 8) (bc' := 2) (bs' := 12) (as := [vr 1, vi (sx G (i + 1)), vi (sx G (i + 2)), vi (sx G (i + 3)), vr 84]) rfl dL_law_1138 msL_site rfl lkL_174 rfl rfl (Nat.le_of_ble_eq_true rfl) (by decide) (by omega) (by omega) ?_
  refine e_L_site h (sx_in G _) (sx_in G _) (sx_in G _) q_k q_x1 q_x3
end Law
