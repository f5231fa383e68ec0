section Law
variable {G : Gm} {tb : List (Nat × Nat × Nat × Nat)} {w : Wd} {K : Kt} {X : Xt} {s : Sta} {sv : List Sta} {g : Nat → Option Sta} {tx : List Nat} {i bn sn : Nat}
theorem l_law_reach (hi : i + 4 ≤ GL G) (hL : GL G < 2147483648) (h : CI w s sv g tx) (hm : MInv w s sv g tx) (kn : ∀ v s sv g tx, CI v s sv g tx → MInv v s sv g tx → Go G cL_law (mL_law tb) none 18 bn sn 2106 [some (vr 1000), some (vr 1), some (vr 68), some (vr 84), some (vr 85), some (vi (i : Int)), none, none, none, none] [] v K X) : Go G cL_law (mL_law tb) none 18 (bn + 8) (sn + 48) 1738 [some (vr 1000), some (vr 1), some (vr 68), some (vr 84), some (vr 85), some (vi (i : Int)), none, none, none, none] [] w K X := by
  have q_k : ∀ w' (p : Nat), (sx G (i + 1)) = p → p < s.1.length → CI w' s sv g tx → frm w w' ccs → Go G cL_law (mL_law tb) none 18 (bn + 8 - 1) (sn + 48 - 6) 1749 [some (vr 1000), some (vr 1), some (vr 68), some (vr 84), some (vr 85), some (vi (i : Int)), none, none, none, none] [vi 0] (up w' 84 0 (nz (smF (fun i => if bsd (rgR s.1) (hdL (pth s.1 p)) i = true then cntF (rgR s.1) i else 0) (rgN s.1)))) K X := fun w1 p a1 a2 c1 fr1 => by
    have hm1 : MInv (up w1 84 0 (nz (smF (fun i => if bsd (rgR s.1) (hdL (pth s.1 p)) i = true then cntF (rgR s.1) i else 0) (rgN s.1)))) s sv g tx := (hm.out fr1 (by decide +kernel)).out (A := [84]) (frm.rfl.up (by simp)) (by decide)
    have c2 : CI (up w1 84 0 (nz (smF (fun i => if bsd (rgR s.1) (hdL (pth s.1 p)) i = true then cntF (rgR s.1) i else 0) (rgN s.1)))) _ _ _ _ := c1.frm (A := [84]) (frm.rfl.up (by simp)) (by decide)
    refine Go_ist6 dL_law_1749 rfl ?_
    refine Go_ald2 dL_law_1751 ?_
    refine Go_ald0 dL_law_1752 ?_
    refine Go_ild5 dL_law_1753 ?_
    refine Go_iconst dL_law_1755 ?_
    refine Go_iadd dL_law_1756 ?_
    refine Go_xld (j := i + 1) dL_law_1757 (by omega) (by omega) hL ?_
    refine Go_cV1 (d' := 5) (bc' := 0) (bs' := 0) rfl dL_law_1758 mvX12_reach rfl lkL_207 (by first | assumption | rfl) rfl trivial (by decide) (by omega) (by omega) (Nat.le_of_ble_eq_true rfl) ?_
    refine e_X12_reach hm1 (sx_in G _) (fun w2 p_2 b1 b2 mx => ?_) (fun w2 b1 mx => by (exfalso; first | omega | (first | omega | exact b1 ⟨a1, a2⟩)))
    have e_p_2 : p_2 = p := (by omega)
    subst e_p_2
    refine Go_ist7 dL_law_1761 rfl ?_
    refine Go_ald2 dL_law_1763 ?_
    refine Go_cV0 (d' := 0) (bc' := 0) (bs' := 0) rfl dL_law_1764 mvX12_thrown rfl lkL_118 (by first | assumption | rfl) rfl trivial (by decide) (by omega) (by omega) (Nat.le_of_ble_eq_true rfl) ?_
    refine e_X12_thrown ?_
    rw [mx.2.1]
    refine Go_ild6 dL_law_1767 ?_
    refine Go_icmp_eq (tgt := 1774) dL_law_1769 (by decide) (by constructor <;> omega) (by constructor <;> omega) (fun h1769 => ?_) (fun h1769 => by omega)
    refine Go_ild6 dL_law_1774 ?_
    refine Go_if_ne (tgt := 1791) dL_law_1776 (by decide) (by constructor <;> omega) (fun h1776 => by omega) (fun h1776 => ?_)
    refine Go_ald3 dL_law_1779 ?_
    refine Go_iconst dL_law_1780 ?_
    refine Go_lald dL_law_1781 (by first | assumption | rfl) trivial (by omega) (by omega) (by decide) ?_
    rw [show (0 : Int).toNat = 0 from rfl, mx.2.2.at (by decide), up_s]
    refine Go_ild7 dL_law_1782 ?_
    refine Go_i2lN dL_law_1784 ?_
    refine Go_lcmp_same dL_law_1785 ?_
    refine Go_if_eq (tgt := 1791) dL_law_1786 (by decide) (by constructor <;> omega) (fun h1786 => ?_) (fun h1786 => by omega)
    refine Go_goto (tgt := 2106) dL_law_1791 (by decide) ?_
    exact Go_more (by omega) (by omega) (Go_forget (by repeat' (first | exact Or.inl rfl | exact Or.inr rfl | exact Or.inr (lcg (by omega)) | exact trivial | constructor)) (kn w2 _ _ _ _ (c2.frm mx.2.2 (by decide +kernel)) mx.1))
  have q_x1 : ¬ (0 ≤ (sx G (i + 1)) ∧ (sx G (i + 1)) < s.1.length) → Go G cL_law (mL_law tb) none 18 (bn + 8 - 1) (sn + 48 - 6) 1749 [some (vr 1000), some (vr 1), some (vr 68), some (vr 84), some (vr 85), some (vi (i : Int)), none, none, none, none] [vi 1] (w) K X := fun a1 => by
    have c1 := h
    have hm1 := hm
    have c2 := c1
    refine Go_ist6 dL_law_1749 rfl ?_
    refine Go_ald2 dL_law_1751 ?_
    refine Go_ald0 dL_law_1752 ?_
    refine Go_ild5 dL_law_1753 ?_
    refine Go_iconst dL_law_1755 ?_
    refine Go_iadd dL_law_1756 ?_
    refine Go_xld (j := i + 1) dL_law_1757 (by omega) (by omega) hL ?_
    refine Go_cV1 (d' := 5) (bc' := 0) (bs' := 0) rfl dL_law_1758 mvX12_reach rfl lkL_207 (by first | assumption | rfl) rfl trivial (by decide) (by omega) (by omega) (Nat.le_of_ble_eq_true rfl) ?_
    refine e_X12_reach hm1 (sx_in G _) (fun w2 p_2 b1 b2 mx => by (exfalso; first | omega | (first | omega | exact a1 ⟨b1, b2⟩))) (fun w2 b1 mx => ?_)
    refine Go_ist7 dL_law_1761 rfl ?_
    refine Go_ald2 dL_law_1763 ?_
    refine Go_cV0 (d' := 0) (bc' := 0) (bs' := 0) rfl dL_law_1764 mvX12_thrown rfl lkL_118 (by first | assumption | rfl) rfl trivial (by decide) (by omega) (by omega) (Nat.le_of_ble_eq_true rfl) ?_
    refine e_X12_thrown ?_
    rw [mx.2.1]
    refine Go_ild6 dL_law_1767 ?_
    refine Go_icmp_eq (tgt := 1774) dL_law_1769 (by decide) (by constructor <;> omega) (by constructor <;> omega) (fun h1769 => ?_) (fun h1769 => by omega)
    refine Go_ild6 dL_law_1774 ?_
    refine Go_if_ne (tgt := 1791) dL_law_1776 (by decide) (by constructor <;> omega) (fun h1776 => ?_) (fun h1776 => by omega)
    refine Go_goto (tgt := 2106) dL_law_1791 (by decide) ?_
    exact Go_more (by omega) (by omega) (Go_forget (by repeat' (first | exact Or.inl rfl | exact Or.inr rfl | exact Or.inr (lcg (by omega)) | exact trivial | constructor)) (kn w2 _ _ _ _ (c2.frm mx.2.2 (by decide +kernel)) mx.1))
  refine Go_ald1 dL_law_1738 ?_
  refine Go_ald0 dL_law_1739 ?_
  refine Go_ild5 dL_law_1740 ?_
  refine Go_iconst dL_law_1742 ?_
  refine Go_iadd dL_law_1743 ?_
  refine Go_xld (j := i + 1) dL_law_1744 (by omega) (by omega) hL ?_
  refine Go_ald3 dL_law_1745 ?_
  refine Go_cSW (d' := 8) (bc' := 1) (bs' := 6) (as := [vr 1, vi (sx G (i + 1)), vr 84]) rfl dL_law_1746 msL_reach rfl lkL_205 rfl rfl (Nat.le_of_ble_eq_true rfl) (by decide) (by omega) (by omega) ?_
  refine e_L_reach h (sx_in G _) q_k q_x1
theorem l_law_ifTurned (hi : i + 4 ≤ GL G) (hL : GL G < 2147483648) (h : CI w s sv g tx) (hm : MInv w s sv g tx) (kn : ∀ v s sv g tx, CI v s sv g tx → MInv v s sv g tx → Go G cL_law (mL_law tb) none 18 bn sn 2106 [some (vr 1000), some (vr 1), some (vr 68), some (vr 84), some (vr 85), some (vi (i : Int)), none, none, none, none] [] v K X) : Go G cL_law (mL_law tb) none 18 (bn + 8) (sn + 48) 1794 [some (vr 1000), some (vr 1), some (vr 68), some (vr 84), some (vr 85), some (vi (i : Int)), none, none, none, none] [] w K X := by
  have q_k : ∀ w' (p j q : Nat), (sx G (i + 1)) = p → p < s.1.length → (sx G (i + 2)) = j → j < (pth s.1 p).length → (sx G (i + 3)) = q → 1 ≤ q → q ≤ 3 → CI w' s sv g tx → frm w w' ccs → Go G cL_law (mL_law tb) none 18 (bn + 8 - 3) (sn + 48 - 18) 1817 [some (vr 1000), some (vr 1), some (vr 68), some (vr 84), some (vr 85), some (vi (i : Int)), none, none, none, none] [vi 0] (up w' 84 0 (nz (whyT s.1 p j q))) K X := fun w1 p j q a1 a2 a3 a4 a5 a6 a7 c1 fr1 => by
    have hm1 : MInv (up w1 84 0 (nz (whyT s.1 p j q))) s sv g tx := (hm.out fr1 (by decide +kernel)).out (A := [84]) (frm.rfl.up (by simp)) (by decide)
    have c2 : CI (up w1 84 0 (nz (whyT s.1 p j q))) _ _ _ _ := c1.frm (A := [84]) (frm.rfl.up (by simp)) (by decide)
    refine Go_ist6 dL_law_1817 rfl ?_
    refine Go_ald2 dL_law_1819 ?_
    refine Go_ald0 dL_law_1820 ?_
    refine Go_ild5 dL_law_1821 ?_
    refine Go_iconst dL_law_1823 ?_
    refine Go_iadd dL_law_1824 ?_
    refine Go_xld (j := i + 1) dL_law_1825 (by omega) (by omega) hL ?_
    refine Go_ald0 dL_law_1826 ?_
    refine Go_ild5 dL_law_1827 ?_
    refine Go_iconst dL_law_1829 ?_
    refine Go_iadd dL_law_1830 ?_
    refine Go_xld (j := i + 2) dL_law_1831 (by omega) (by omega) hL ?_
    refine Go_ald0 dL_law_1832 ?_
    refine Go_ild5 dL_law_1833 ?_
    refine Go_iconst dL_law_1835 ?_
    refine Go_iadd dL_law_1836 ?_
    refine Go_xld (j := i + 3) dL_law_1837 (by omega) (by omega) hL ?_
    refine Go_cV3 (d' := 3) (bc' := 0) (bs' := 0) rfl dL_law_1838 mvX12_ifTurned rfl lkL_210 (by first | assumption | rfl) rfl trivial (by decide) (by omega) (by omega) (Nat.le_of_ble_eq_true rfl) ?_
    refine e_X12_ifTurned hm1 (sx_in G _) (sx_in G _) (sx_in G _) (fun w2 p_2 j_2 q_2 b1 b2 b3 b4 b5 b6 b7 mx => ?_) (fun w2 b1 mx => by (exfalso; first | omega | (first | omega | exact b1 _ _ a1 a2 a3 a4))) (fun w2 p_2 j_2 b1 b2 b3 b4 b5 mx => by (exfalso; first | omega | (have e_p_2 : p_2 = p := (by omega); subst e_p_2; have e_j_2 : j_2 = j := (by omega); subst e_j_2; first | omega | exact b5 ⟨a1, a2⟩ | exact b5 ⟨a2, a3⟩ | exact b5 ⟨a3, a4⟩ | exact b5 ⟨a4, a5⟩ | exact b5 ⟨a5, a6⟩ | exact b5 ⟨a6, a7⟩)))
    have e_p_2 : p_2 = p := (by omega)
    subst e_p_2
    have e_j_2 : j_2 = j := (by omega)
    subst e_j_2
    have e_q_2 : q_2 = q := (by omega)
    subst e_q_2
    refine Go_ist7 dL_law_1841 rfl ?_
    refine Go_ald2 dL_law_1843 ?_
    refine Go_cV0 (d' := 0) (bc' := 0) (bs' := 0) rfl dL_law_1844 mvX12_thrown rfl lkL_118 (by first | assumption | rfl) rfl trivial (by decide) (by omega) (by omega) (Nat.le_of_ble_eq_true rfl) ?_
    refine e_X12_thrown ?_
    rw [mx.2.1]
    refine Go_ild6 dL_law_1847 ?_
    refine Go_icmp_eq (tgt := 1854) dL_law_1849 (by decide) (by constructor <;> omega) (by constructor <;> omega) (fun h1849 => ?_) (fun h1849 => by omega)
    refine Go_ild6 dL_law_1854 ?_
    refine Go_if_ne (tgt := 1871) dL_law_1856 (by decide) (by constructor <;> omega) (fun h1856 => by omega) (fun h1856 => ?_)
    refine Go_ald3 dL_law_1859 ?_
    refine Go_iconst dL_law_1860 ?_
    refine Go_lald dL_law_1861 (by first | assumption | rfl) trivial (by omega) (by omega) (by decide) ?_
    rw [show (0 : Int).toNat = 0 from rfl, mx.2.2.at (by decide), up_s]
    refine Go_ild7 dL_law_1862 ?_
    refine Go_i2lN dL_law_1864 ?_
    refine Go_lcmp_same dL_law_1865 ?_
    refine Go_if_eq (tgt := 1871) dL_law_1866 (by decide) (by constructor <;> omega) (fun h1866 => ?_) (fun h1866 => by omega)
    refine Go_goto (tgt := 2106) dL_law_1871 (by decide) ?_
    exact Go_more (by omega) (by omega) (Go_forget (by repeat' (first | exact Or.inl rfl | exact Or.inr rfl | exact Or.inr (lcg (by omega)) | exact trivial | constructor)) (kn w2 _ _ _ _ (c2.frm mx.2.2 (by decide +kernel)) mx.1))
  have q_x1 : (∀ p j : Nat, (sx G (i + 1)) = p → p < s.1.length → (sx G (i + 2)) = j → ¬ j < (pth s.1 p).length) → Go G cL_law (mL_law tb) none 18 (bn + 8 - 3) (sn + 48 - 18) 1817 [some (vr 1000), some (vr 1), some (vr 68), some (vr 84), some (vr 85), some (vi (i : Int)), none, none, none, none] [vi 1] (w) K X := fun a1 => by
    have c1 := h
    have hm1 := hm
    have c2 := c1
    refine Go_ist6 dL_law_1817 rfl ?_
    refine Go_ald2 dL_law_1819 ?_
    refine Go_ald0 dL_law_1820 ?_
    refine Go_ild5 dL_law_1821 ?_
    refine Go_iconst dL_law_1823 ?_
    refine Go_iadd dL_law_1824 ?_
    refine Go_xld (j := i + 1) dL_law_1825 (by omega) (by omega) hL ?_
    refine Go_ald0 dL_law_1826 ?_
    refine Go_ild5 dL_law_1827 ?_
    refine Go_iconst dL_law_1829 ?_
    refine Go_iadd dL_law_1830 ?_
    refine Go_xld (j := i + 2) dL_law_1831 (by omega) (by omega) hL ?_
    refine Go_ald0 dL_law_1832 ?_
    refine Go_ild5 dL_law_1833 ?_
    refine Go_iconst dL_law_1835 ?_
    refine Go_iadd dL_law_1836 ?_
    refine Go_xld (j := i + 3) dL_law_1837 (by omega) (by omega) hL ?_
    refine Go_cV3 (d' := 3) (bc' := 0) (bs' := 0) rfl dL_law_1838 mvX12_ifTurned rfl lkL_210 (by first | assumption | rfl) rfl trivial (by decide) (by omega) (by omega) (Nat.le_of_ble_eq_true rfl) ?_
    refine e_X12_ifTurned hm1 (sx_in G _) (sx_in G _) (sx_in G _) (fun w2 p_2 j_2 q_2 b1 b2 b3 b4 b5 b6 b7 mx => by (exfalso; first | omega | (first | omega | exact a1 _ _ b1 b2 b3 b4))) (fun w2 b1 mx => ?_) (fun w2 p_2 j_2 b1 b2 b3 b4 b5 mx => by (exfalso; first | omega | (first | omega | exact a1 _ _ b1 b2 b3 b4)))
    refine Go_ist7 dL_law_1841 rfl ?_
    refine Go_ald2 dL_law_1843 ?_
    refine Go_cV0 (d' := 0) (bc' := 0) (bs' := 0) rfl dL_law_1844 mvX12_thrown rfl lkL_118 (by first | assumption | rfl) rfl trivial (by decide) (by omega) (by omega) (Nat.le_of_ble_eq_true rfl) ?_
    refine e_X12_thrown ?_
    rw [mx.2.1]
    refine Go_ild6 dL_law_1847 ?_
    refine Go_icmp_eq (tgt := 1854) dL_law_1849 (by decide) (by constructor <;> omega) (by constructor <;> omega) (fun h1849 => ?_) (fun h1849 => by omega)
    refine Go_ild6 dL_law_1854 ?_
    refine Go_if_ne (tgt := 1871) dL_law_1856 (by decide) (by constructor <;> omega) (fun h1856 => ?_) (fun h1856 => by omega)
    refine Go_goto (tgt := 2106) dL_law_1871 (by decide) ?_
    exact Go_more (by omega) (by omega) (Go_forget (by repeat' (first | exact Or.inl rfl | exact Or.inr rfl | exact Or.inr (lcg (by omega)) | exact trivial | constructor)) (kn w2 _ _ _ _ (c2.frm mx.2.2 (by decide +kernel)) mx.1))
  have q_x3 : ∀ p j : Nat, (sx G (i + 1)) = p → p < s.1.length → (sx G (i + 2)) = j → j < (pth s.1 p).length → ¬ (1 ≤ (sx G (i + 3)) ∧ (sx G (i + 3)) ≤ 3) → Go G cL_law (mL_law tb) none 18 (bn + 8 - 3) (sn + 48 - 18) 1817 [some (vr 1000), some (vr 1), some (vr 68), some (vr 84), some (vr 85), some (vi (i : Int)), none, none, none, none] [vi 2] (w) K X := fun p j a1 a2 a3 a4 a5 => by
    have c1 := h
    have hm1 := hm
    have c2 := c1
    refine Go_ist6 dL_law_1817 rfl ?_
    refine Go_ald2 dL_law_1819 ?_
    refine Go_ald0 dL_law_1820 ?_
    refine Go_ild5 dL_law_1821 ?_
    refine Go_iconst dL_law_1823 ?_
    refine Go_iadd dL_law_1824 ?_
    refine Go_xld (j := i + 1) dL_law_1825 (by omega) (by omega) hL ?_
    refine Go_ald0 dL_law_1826 ?_
    refine Go_ild5 dL_law_1827 ?_
    refine Go_iconst dL_law_1829 ?_
    refine Go_iadd dL_law_1830 ?_
    refine Go_xld (j := i + 2) dL_law_1831 (by omega) (by omega) hL ?_
    refine Go_ald0 dL_law_1832 ?_
    refine Go_ild5 dL_law_1833 ?_
    refine Go_iconst dL_law_1835 ?_
    refine Go_iadd dL_law_1836 ?_
    refine Go_xld (j := i + 3) dL_law_1837 (by omega) (by omega) hL ?_
    refine Go_cV3 (d' := 3) (bc' := 0) (bs' := 0) rfl dL_law_1838 mvX12_ifTurned rfl lkL_210 (by first | assumption | rfl) rfl trivial (by decide) (by omega) (by omega) (Nat.le_of_ble_eq_true rfl) ?_
    refine e_X12_ifTurned hm1 (sx_in G _) (sx_in G _) (sx_in G _) (fun w2 p_2 j_2 q_2 b1 b2 b3 b4 b5 b6 b7 mx => by (exfalso; first | omega | (have e_p_2 : p_2 = p := (by omega); subst e_p_2; have e_j_2 : j_2 = j := (by omega); subst e_j_2; first | omega | exact a5 ⟨b1, b2⟩ | exact a5 ⟨b2, b3⟩ | exact a5 ⟨b3, b4⟩ | exact a5 ⟨b4, b5⟩ | exact a5 ⟨b5, b6⟩ | exact a5 ⟨b6, b7⟩ | exact a5 ⟨b1, b2, b3, b4⟩ | exact a5 ⟨b2, b3, b4, b5⟩ | exact a5 ⟨b3, b4, b5, b6⟩ | exact a5 ⟨b4, b5, b6, b7⟩))) (fun w2 b1 mx => by (exfalso; first | omega | (first | omega | exact b1 _ _ a1 a2 a3 a4))) (fun w2 p_2 j_2 b1 b2 b3 b4 b5 mx => ?_)
    have e_p_2 : p_2 = p := (by omega)
    subst e_p_2
    have e_j_2 : j_2 = j := (by omega)
    subst e_j_2
    refine Go_ist7 dL_law_1841 rfl ?_
    refine Go_ald2 dL_law_1843 ?_
    refine Go_cV0 (d' := 0) (bc' := 0) (bs' := 0) rfl dL_law_1844 mvX12_thrown rfl lkL_118 (by first | assumption | rfl) rfl trivial (by decide) (by omega) (by omega) (Nat.le_of_ble_eq_true rfl) ?_
    refine e_X12_thrown ?_
    rw [mx.2.1]
    refine Go_ild6 dL_law_1847 ?_
    refine Go_icmp_eq (tgt := 1854) dL_law_1849 (by decide) (by constructor <;> omega) (by constructor <;> omega) (fun h1849 => ?_) (fun h1849 => by omega)
    refine Go_ild6 dL_law_1854 ?_
    refine Go_if_ne (tgt := 1871) dL_law_1856 (by decide) (by constructor <;> omega) (fun h1856 => ?_) (fun h1856 => by omega)
    refine Go_goto (tgt := 2106) dL_law_1871 (by decide) ?_
    exact Go_more (by omega) (by omega) (Go_forget (by repeat' (first | exact Or.inl rfl | exact Or.inr rfl | exact Or.inr (lcg (by omega)) | exact trivial | constructor)) (kn w2 _ _ _ _ (c2.frm mx.2.2 (by decide +kernel)) mx.1))
  refine Go_ald1 dL_law_1794 ?_
  refine Go_ald0 dL_law_1795 ?_
  refine Go_ild5 dL_law_1796 ?_
  refine Go_iconst dL_law_1798 ?_
  refine Go_iadd dL_law_1799 ?_
  refine Go_xld (j := i + 1) dL_law_1800 (by omega) (by omega) hL ?_
  refine Go_ald0 dL_law_1801 ?_
  refine Go_ild5 dL_law_1802 ?_
  refine Go_iconst dL_law_1804 ?_
  refine Go_iadd dL_law_1805 ?_
  refine Go_xld (j := i + 2) dL_law_1806 (by omega) (by omega) hL ?_
  refine Go_ald0 dL_law_1807 ?_
  refine Go_ild5 dL_law_1808 ?_
  refine Go_iconst dL_law_1810 ?_
  refine Go_iadd dL_law_1811 ?_
  refine Go_xld (j := i + 3) dL_law_1812 (by omega) (by omega) hL ?_
  refine Go_ald3 dL_law_1813 ?_
  refine Go_cSW (d' := 9) (bc' := 3) (bs' := 18) (as := [vr 1, vi (sx G (i + 1)), vi (sx G (i + 2)), vi (sx G (i + 3)), vr 84]) rfl dL_law_1814 msL_ifTurned rfl lkL_208 rfl rfl (Nat.le_of_ble_eq_true rfl) (by decide) (by omega) (by omega) ?_
  refine e_L_ifTurned h (sx_in G _) (sx_in G _) (sx_in G _) q_k q_x1 q_x3
theorem l_law_turnable (hi : i + 4 ≤ GL G) (hL : GL G < 2147483648) (h : CI w s sv g tx) (hm : MInv w s sv g tx) (kn : ∀ v s sv g tx, CI v s sv g tx → MInv v s sv g tx → Go G cL_law (mL_law tb) none 18 bn sn 2106 [some (vr 1000), some (vr 1), some (vr 68), some (vr 84), some (vr 85), some (vi (i : Int)), none, none, none, none] [] v K X) : Go G cL_law (mL_law tb) none 18 (bn + 8) (sn + 48) 1874 [some (vr 1000), some (vr 1), some (vr 68), some (vr 84), some (vr 85), some (vi (i : Int)), none, none, none, none] [] w K X := by
  have q_k : ∀ w' (p : Nat), (sx G (i + 1)) = p → p < s.1.length → CI w' s sv g tx → frm w w' ccs → Go G cL_law (mL_law tb) none 18 (bn + 8 - 1) (sn + 48 - 6) 1885 [some (vr 1000), some (vr 1), some (vr 68), some (vr 84), some (vr 85), some (vi (i : Int)), none, none, none, none] [vi 0] (up w' 84 0 (nz (smF (fun pl => smF (fun q => if whyT s.1 p pl (q + 1) = 0 then 1 else 0) 3) ((pth s.1 p).length - 1)))) K X := fun w1 p a1 a2 c1 fr1 => by
    have hm1 : MInv (up w1 84 0 (nz (smF (fun pl => smF (fun q => if whyT s.1 p pl (q + 1) = 0 then 1 else 0) 3) ((pth s.1 p).length - 1)))) s sv g tx := (hm.out fr1 (by decide +kernel)).out (A := [84]) (frm.rfl.up (by simp)) (by decide)
    have c2 : CI (up w1 84 0 (nz (smF (fun pl => smF (fun q => if whyT s.1 p pl (q + 1) = 0 then 1 else 0) 3) ((pth s.1 p).length - 1)))) _ _ _ _ := c1.frm (A := [84]) (frm.rfl.up (by simp)) (by decide)
    refine Go_ist6 dL_law_1885 rfl ?_
    refine Go_ald2 dL_law_1887 ?_
    refine Go_ald0 dL_law_1888 ?_
    refine Go_ild5 dL_law_1889 ?_
    refine Go_iconst dL_law_1891 ?_
    refine Go_iadd dL_law_1892 ?_
    refine Go_xld (j := i + 1) dL_law_1893 (by omega) (by omega) hL ?_
    refine Go_cV1 (d' := 3) (bc' := 0) (bs' := 0) rfl dL_law_1894 mvX12_turnable rfl lkL_213 (by first | assumption | rfl) rfl trivial (by decide) (by omega) (by omega) (Nat.le_of_ble_eq_true rfl) ?_
    refine e_X12_turnable hm1 (sx_in G _) (fun w2 p_2 b1 b2 mx => ?_) (fun w2 b1 mx => by (exfalso; first | omega | (first | omega | exact b1 ⟨a1, a2⟩)))
    have e_p_2 : p_2 = p := (by omega)
    subst e_p_2
    refine Go_ist7 dL_law_1897 rfl ?_
    refine Go_ald2 dL_law_1899 ?_
    refine Go_cV0 (d' := 0) (bc' := 0) (bs' := 0) rfl dL_law_1900 mvX12_thrown rfl lkL_118 (by first | assumption | rfl) rfl trivial (by decide) (by omega) (by omega) (Nat.le_of_ble_eq_true rfl) ?_
    refine e_X12_thrown ?_
    rw [mx.2.1]
    refine Go_ild6 dL_law_1903 ?_
    refine Go_icmp_eq (tgt := 1910) dL_law_1905 (by decide) (by constructor <;> omega) (by constructor <;> omega) (fun h1905 => ?_) (fun h1905 => by omega)
    refine Go_ild6 dL_law_1910 ?_
    refine Go_if_ne (tgt := 1927) dL_law_1912 (by decide) (by constructor <;> omega) (fun h1912 => by omega) (fun h1912 => ?_)
    refine Go_ald3 dL_law_1915 ?_
    refine Go_iconst dL_law_1916 ?_
    refine Go_lald dL_law_1917 (by first | assumption | rfl) trivial (by omega) (by omega) (by decide) ?_
    rw [show (0 : Int).toNat = 0 from rfl, mx.2.2.at (by decide), up_s]
    refine Go_ild7 dL_law_1918 ?_
    refine Go_i2lN dL_law_1920 ?_
    refine Go_lcmp_same dL_law_1921 ?_
    refine Go_if_eq (tgt := 1927) dL_law_1922 (by decide) (by constructor <;> omega) (fun h1922 => ?_) (fun h1922 => by omega)
    refine Go_goto (tgt := 2106) dL_law_1927 (by decide) ?_
    exact Go_more (by omega) (by omega) (Go_forget (by repeat' (first | exact Or.inl rfl | exact Or.inr rfl | exact Or.inr (lcg (by omega)) | exact trivial | constructor)) (kn w2 _ _ _ _ (c2.frm mx.2.2 (by decide +kernel)) mx.1))
  have q_x1 : ¬ (0 ≤ (sx G (i + 1)) ∧ (sx G (i + 1)) < s.1.length) → Go G cL_law (mL_law tb) none 18 (bn + 8 - 1) (sn + 48 - 6) 1885 [some (vr 1000), some (vr 1), some (vr 68), some (vr 84), some (vr 85), some (vi (i : Int)), none, none, none, none] [vi 1] (w) K X := fun a1 => by
    have c1 := h
    have hm1 := hm
    have c2 := c1
    refine Go_ist6 dL_law_1885 rfl ?_
    refine Go_ald2 dL_law_1887 ?_
    refine Go_ald0 dL_law_1888 ?_
    refine Go_ild5 dL_law_1889 ?_
    refine Go_iconst dL_law_1891 ?_
    refine Go_iadd dL_law_1892 ?_
    refine Go_xld (j := i + 1) dL_law_1893 (by omega) (by omega) hL ?_
    refine Go_cV1 (d' := 3) (bc' := 0) (bs' := 0) rfl dL_law_1894 mvX12_turnable rfl lkL_213 (by first | assumption | rfl) rfl trivial (by decide) (by omega) (by omega) (Nat.le_of_ble_eq_true rfl) ?_
    refine e_X12_turnable hm1 (sx_in G _) (fun w2 p_2 b1 b2 mx => by (exfalso; first | omega | (first | omega | exact a1 ⟨b1, b2⟩))) (fun w2 b1 mx => ?_)
    refine Go_ist7 dL_law_1897 rfl ?_
    refine Go_ald2 dL_law_1899 ?_
    refine Go_cV0 (d' := 0) (bc' := 0) (bs' := 0) rfl dL_law_1900 mvX12_thrown rfl lkL_118 (by first | assumption | rfl) rfl trivial (by decide) (by omega) (by omega) (Nat.le_of_ble_eq_true rfl) ?_
    refine e_X12_thrown ?_
    rw [mx.2.1]
    refine Go_ild6 dL_law_1903 ?_
    refine Go_icmp_eq (tgt := 1910) dL_law_1905 (by decide) (by constructor <;> omega) (by constructor <;> omega) (fun h1905 => ?_) (fun h1905 => by omega)
    refine Go_ild6 dL_law_1910 ?_
    refine Go_if_ne (tgt := 1927) dL_law_1912 (by decide) (by constructor <;> omega) (fun h1912 => ?_) (fun h1912 => by omega)
    refine Go_goto (tgt := 2106) dL_law_1927 (by decide) ?_
    exact Go_more (by omega) (by omega) (Go_forget (by repeat' (first | exact Or.inl rfl | exact Or.inr rfl | exact Or.inr (lcg (by omega)) | exact trivial | constructor)) (kn w2 _ _ _ _ (c2.frm mx.2.2 (by decide +kernel)) mx.1))
  refine Go_ald1 dL_law_1874 ?_
  refine Go_ald0 dL_law_1875 ?_
  refine Go_ild5 dL_law_1876 ?_
  refine Go_iconst dL_law_1878 ?_
  refine Go_iadd dL_law_1879 ?_
  refine Go_xld (j := i + 1) dL_law_1880 (by omega) (by omega) hL ?_
  refine Go_ald3 dL_law_1881 ?_
  refine Go_cSW (d' := 8) (bc' := 1) (bs' := 6) (as := [vr 1, vi (sx G (i + 1)), vr 84]) rfl dL_law_1882 msL_turnable rfl lkL_211 rfl rfl (Nat.le_of_ble_eq_true rfl) (by decide) (by omega) (by omega) ?_
  refine e_L_turnable h (sx_in G _) q_k q_x1
theorem l_law_count (hi : i + 4 ≤ GL G) (hL : GL G < 2147483648) (h : CI w s sv g tx) (hm : MInv w s sv g tx) (kn : ∀ v s sv g tx, CI v s sv g tx → MInv v s sv g tx → Go G cL_law (mL_law tb) none 18 bn sn 2106 [some (vr 1000), some (vr 1), some (vr 68), some (vr 84), some (vr 85), some (vi (i : Int)), none, none, none, none] [] v K X) : Go G cL_law (mL_law tb) none 18 (bn + 8) (sn + 48) 1930 [some (vr 1000), some (vr 1), some (vr 68), some (vr 84), some (vr 85), some (vi (i : Int)), none, none, none, none] [] w K X := by
  have q_k : 0 ≤ (sx G (i + 1)) → (sx G (i + 1)) ≤ 6 → Go G cL_law (mL_law tb) none 18 (bn + 8 - 1) (sn + 48 - 6) 1941 [some (vr 1000), some (vr 1), some (vr 68), some (vr 84), some (vr 85), some (vi (i : Int)), none, none, none, none] [vi 0] (up w 84 0 (nz (cntA s sv tx (sx G (i + 1))))) K X := fun a1 a2 => by
    have c1 := h
    have hm1 : MInv (up w 84 0 (nz (cntA s sv tx (sx G (i + 1))))) s sv g tx := (hm).out (A := [84]) (frm.rfl.up (by simp)) (by decide)
    have c2 : CI (up w 84 0 (nz (cntA s sv tx (sx G (i + 1))))) _ _ _ _ := c1.frm (A := [84]) (frm.rfl.up (by simp)) (by decide)
    refine Go_ist6 dL_law_1941 rfl ?_
    refine Go_ald2 dL_law_1943 ?_
    refine Go_ald0 dL_law_1944 ?_
    refine Go_ild5 dL_law_1945 ?_
    refine Go_iconst dL_law_1947 ?_
    refine Go_iadd dL_law_1948 ?_
    refine Go_xld (j := i + 1) dL_law_1949 (by omega) (by omega) hL ?_
    refine Go_cV1 (d' := 2) (bc' := 0) (bs' := 0) rfl dL_law_1950 mvX12_count rfl lkL_216 (by first | assumption | rfl) rfl trivial (by decide) (by omega) (by omega) (Nat.le_of_ble_eq_true rfl) ?_
    refine e_X12_count hm1 (sx_in G _) (fun w2 b1 b2 mx => ?_) (fun w2 b1 mx => by (exfalso; first | omega | (first | omega | exact b1 ⟨a1, a2⟩)))
    refine Go_ist7 dL_law_1953 rfl ?_
    refine Go_ald2 dL_law_1955 ?_
    refine Go_cV0 (d' := 0) (bc' := 0) (bs' := 0) rfl dL_law_1956 mvX12_thrown rfl lkL_118 (by first | assumption | rfl) rfl trivial (by decide) (by omega) (by omega) (Nat.le_of_ble_eq_true rfl) ?_
    refine e_X12_thrown ?_
    rw [mx.2.1]
    refine Go_ild6 dL_law_1959 ?_
    refine Go_icmp_eq (tgt := 1966) dL_law_1961 (by decide) (by constructor <;> omega) (by constructor <;> omega) (fun h1961 => ?_) (fun h1961 => by omega)
    refine Go_ild6 dL_law_1966 ?_
    refine Go_if_ne (tgt := 1983) dL_law_1968 (by decide) (by constructor <;> omega) (fun h1968 => by omega) (fun h1968 => ?_)
    refine Go_ald3 dL_law_1971 ?_
    refine Go_iconst dL_law_1972 ?_
    refine Go_lald dL_law_1973 (by first | assumption | rfl) trivial (by omega) (by omega) (by decide) ?_
    rw [show (0 : Int).toNat = 0 from rfl, mx.2.2.at (by decide), up_s]
    refine Go_ild7 dL_law_1974 ?_
    refine Go_i2lN dL_law_1976 ?_
    refine Go_lcmp_same dL_law_1977 ?_
    refine Go_if_eq (tgt := 1983) dL_law_1978 (by decide) (by constructor <;> omega) (fun h1978 => ?_) (fun h1978 => by omega)
    refine Go_goto (tgt := 2106) dL_law_1983 (by decide) ?_
    exact Go_more (by omega) (by omega) (Go_forget (by repeat' (first | exact Or.inl rfl | exact Or.inr rfl | exact Or.inr (lcg (by omega)) | exact trivial | constructor)) (kn w2 _ _ _ _ (c2.frm mx.2.2 (by decide +kernel)) mx.1))
  have q_x3 : ¬ (0 ≤ (sx G (i + 1)) ∧ (sx G (i + 1)) ≤ 6) → Go G cL_law (mL_law tb) none 18 (bn + 8 - 1) (sn + 48 - 6) 1941 [some (vr 1000), some (vr 1), some (vr 68), some (vr 84), some (vr 85), some (vi (i : Int)), none, none, none, none] [vi 1] (w) K X := fun a1 => by
    have c1 := h
    have hm1 := hm
    have c2 := c1
    refine Go_ist6 dL_law_1941 rfl ?_
    refine Go_ald2 dL_law_1943 ?_
    refine Go_ald0 dL_law_1944 ?_
    refine Go_ild5 dL_law_1945 ?_
    refine Go_iconst dL_law_1947 ?_
    refine Go_iadd dL_law_1948 ?_
    refine Go_xld (j := i + 1) dL_law_1949 (by omega) (by omega) hL ?_
    refine Go_cV1 (d' := 2) (bc' := 0) (bs' := 0) rfl dL_law_1950 mvX12_count rfl lkL_216 (by first | assumption | rfl) rfl trivial (by decide) (by omega) (by omega) (Nat.le_of_ble_eq_true rfl) ?_
    refine e_X12_count hm1 (sx_in G _) (fun w2 b1 b2 mx => by (exfalso; first | omega | (first | omega | exact a1 ⟨b1, b2⟩))) (fun w2 b1 mx => ?_)
    refine Go_ist7 dL_law_1953 rfl ?_
    refine Go_ald2 dL_law_1955 ?_
    refine Go_cV0 (d' := 0) (bc' := 0) (bs' := 0) rfl dL_law_1956 mvX12_thrown rfl lkL_118 (by first | assumption | rfl) rfl trivial (by decide) (by omega) (by omega) (Nat.le_of_ble_eq_true rfl) ?_
    refine e_X12_thrown ?_
    rw [mx.2.1]
    refine Go_ild6 dL_law_1959 ?_
    refine Go_icmp_eq (tgt := 1966) dL_law_1961 (by decide) (by constructor <;> omega) (by constructor <;> omega) (fun h1961 => ?_) (fun h1961 => by omega)
    refine Go_ild6 dL_law_1966 ?_
    refine Go_if_ne (tgt := 1983) dL_law_1968 (by decide) (by constructor <;> omega) (fun h1968 => ?_) (fun h1968 => by omega)
    refine Go_goto (tgt := 2106) dL_law_1983 (by decide) ?_
    exact Go_more (by omega) (by omega) (Go_forget (by repeat' (first | exact Or.inl rfl | exact Or.inr rfl | exact Or.inr (lcg (by omega)) | exact trivial | constructor)) (kn w2 _ _ _ _ (c2.frm mx.2.2 (by decide +kernel)) mx.1))
  refine Go_ald1 dL_law_1930 ?_
  refine Go_ald0 dL_law_1931 ?_
  refine Go_ild5 dL_law_1932 ?_
  refine Go_iconst dL_law_1934 ?_
  refine Go_iadd dL_law_1935 ?_
  refine Go_xld (j := i + 1) dL_law_1936 (by omega) (by omega) hL ?_
  refine Go_ald3 dL_law_1937 ?_
  refine Go_cSW (d' := 8) (bc' := 1) (bs' := 6) (as := [vr 1, vi (sx G (i + 1)), vr 84]) rfl dL_law_1938 msL_count rfl lkL_214 rfl rfl (Nat.le_of_ble_eq_true rfl) (by decide) (by omega) (by omega) ?_
  refine e_L_count h (sx_in G _) q_k q_x3
theorem l_law_spread (hi : i + 4 ≤ GL G) (hL : GL G < 2147483648) (h : CI w s sv g tx) (hm : MInv w s sv g tx) (kn : ∀ v s sv g tx, CI v s sv g tx → MInv v s sv g tx → Go G cL_law (mL_law tb) none 18 bn sn 2106 [some (vr 1000), some (vr 1), some (vr 68), some (vr 84), some (vr 85), some (vi (i : Int)), none, none, none, none] [] v K X) : Go G cL_law (mL_law tb) none 18 (bn + 8) (sn + 48) 1986 [some (vr 1000), some (vr 1), some (vr 68), some (vr 84), some (vr 85), some (vi (i : Int)), none, none, none, none] [] w K X := by
  have q_k : ∀ p : Nat, (sx G (i + 1)) = p → p < s.1.length → Go G cL_law (mL_law tb) none 18 (bn + 8 - 1) (sn + 48 - 6) 1998 [some (vr 1000), some (vr 1), some (vr 68), some (vr 84), some (vr 85), some (vi (i : Int)), none, none, none, none] [vi 0] (up w 85 0 ((UInt64.toNat (sprD (momL (pth s.1 p)) (pth s.1 p).length) : Nat) : Int)) K X := fun p a1 a2 => by
    have c1 := h
    have hm1 : MInv (up w 85 0 ((UInt64.toNat (sprD (momL (pth s.1 p)) (pth s.1 p).length) : Nat) : Int)) s sv g tx := (hm).out (A := [85]) (frm.rfl.up (by simp)) (by decide)
    have c2 : CI (up w 85 0 ((UInt64.toNat (sprD (momL (pth s.1 p)) (pth s.1 p).length) : Nat) : Int)) _ _ _ _ := c1.frm (A := [85]) (frm.rfl.up (by simp)) (by decide)
    refine Go_ist6 dL_law_1998 rfl ?_
    refine Go_ald2 dL_law_2000 ?_
    refine Go_ald0 dL_law_2001 ?_
    refine Go_ild5 dL_law_2002 ?_
    refine Go_iconst dL_law_2004 ?_
    refine Go_iadd dL_law_2005 ?_
    refine Go_xld (j := i + 1) dL_law_2006 (by omega) (by omega) hL ?_
    refine Go_cV1 (d' := 2) (bc' := 0) (bs' := 0) rfl dL_law_2007 mvX12_spread rfl lkL_220 (by first | assumption | rfl) rfl trivial (by decide) (by omega) (by omega) (Nat.le_of_ble_eq_true rfl) ?_
    refine e_X12_spread hm1 (sx_in G _) (fun w2 p_2 b1 b2 mx => ?_) (fun w2 b1 mx => by (exfalso; first | omega | (first | omega | exact b1 ⟨a1, a2⟩)))
    have e_p_2 : p_2 = p := (by omega)
    subst e_p_2
    have hl9 := h.2.1.len b2
    refine Go_dstore (i := 7) dL_law_2010 rfl (Nat.le_of_ble_eq_true rfl) (fun j hj => by have e : j = 6 := (by omega); subst e; rfl) ?_
    refine Go_ald2 dL_law_2012 ?_
    refine Go_cV0 (d' := 0) (bc' := 0) (bs' := 0) rfl dL_law_2013 mvX12_thrown rfl lkL_118 (by first | assumption | rfl) rfl trivial (by decide) (by omega) (by omega) (Nat.le_of_ble_eq_true rfl) ?_
    refine e_X12_thrown ?_
    rw [mx.2.1]
    refine Go_ild6 dL_law_2016 ?_
    refine Go_icmp_eq (tgt := 2023) dL_law_2018 (by decide) (by constructor <;> omega) (by constructor <;> omega) (fun h2018 => ?_) (fun h2018 => by omega)
    refine Go_ild6 dL_law_2023 ?_
    refine Go_if_ne (tgt := 2060) dL_law_2025 (by decide) (by constructor <;> omega) (fun h2025 => by omega) (fun h2025 => ?_)
    refine Go_ald4 dL_law_2028 ?_
    refine Go_iconst dL_law_2030 ?_
    refine Go_dald dL_law_2031 (by first | assumption | rfl) trivial (by omega) (by omega) (by decide) ?_
    rw [show (0 : Int).toNat = 0 from rfl, mx.2.2.at (by decide), up_s, Int.toNat_natCast, UInt64.ofNat_toNat]
    refine Go_dload (i := 7) dL_law_2032 rfl ?_
    refine Go_dcmp_same dL_law_2034 (spr_ok _ (by omega) (by omega)) ?_
    refine Go_if_eq (tgt := 2060) dL_law_2035 (by decide) (by constructor <;> omega) (fun h2035 => ?_) (fun h2035 => by omega)
    refine Go_goto (tgt := 2106) dL_law_2060 (by decide) ?_
    exact Go_more (by omega) (by omega) (Go_forget (by repeat' (first | exact Or.inl rfl | exact Or.inr rfl | exact Or.inr (lcg (by omega)) | exact trivial | constructor)) (kn w2 _ _ _ _ (c2.frm mx.2.2 (by decide +kernel)) mx.1))
  have q_x1 : ¬ (0 ≤ (sx G (i + 1)) ∧ (sx G (i + 1)) < s.1.length) → Go G cL_law (mL_law tb) none 18 (bn + 8 - 1) (sn + 48 - 6) 1998 [some (vr 1000), some (vr 1), some (vr 68), some (vr 84), some (vr 85), some (vi (i : Int)), none, none, none, none] [vi 1] (w) K X := fun a1 => by
    have c1 := h
    have hm1 := hm
    have c2 := c1
    refine Go_ist6 dL_law_1998 rfl ?_
    refine Go_ald2 dL_law_2000 ?_
    refine Go_ald0 dL_law_2001 ?_
    refine Go_ild5 dL_law_2002 ?_
    refine Go_iconst dL_law_2004 ?_
    refine Go_iadd dL_law_2005 ?_
    refine Go_xld (j := i + 1) dL_law_2006 (by omega) (by omega) hL ?_
    refine Go_cV1 (d' := 2) (bc' := 0) (bs' := 0) rfl dL_law_2007 mvX12_spread rfl lkL_220 (by first | assumption | rfl) rfl trivial (by decide) (by omega) (by omega) (Nat.le_of_ble_eq_true rfl) ?_
    refine e_X12_spread hm1 (sx_in G _) (fun w2 p_2 b1 b2 mx => by (exfalso; first | omega | (first | omega | exact a1 ⟨b1, b2⟩))) (fun w2 b1 mx => ?_)
    refine Go_dstore (i := 7) dL_law_2010 rfl (Nat.le_of_ble_eq_true rfl) (fun j hj => by have e : j = 6 := (by omega); subst e; rfl) ?_
    refine Go_ald2 dL_law_2012 ?_
    refine Go_cV0 (d' := 0) (bc' := 0) (bs' := 0) rfl dL_law_2013 mvX12_thrown rfl lkL_118 (by first | assumption | rfl) rfl trivial (by decide) (by omega) (by omega) (Nat.le_of_ble_eq_true rfl) ?_
    refine e_X12_thrown ?_
    rw [mx.2.1]
    refine Go_ild6 dL_law_2016 ?_
    refine Go_icmp_eq (tgt := 2023) dL_law_2018 (by decide) (by constructor <;> omega) (by constructor <;> omega) (fun h2018 => ?_) (fun h2018 => by omega)
    refine Go_ild6 dL_law_2023 ?_
    refine Go_if_ne (tgt := 2060) dL_law_2025 (by decide) (by constructor <;> omega) (fun h2025 => ?_) (fun h2025 => by omega)
    refine Go_goto (tgt := 2106) dL_law_2060 (by decide) ?_
    exact Go_more (by omega) (by omega) (Go_forget (by repeat' (first | exact Or.inl rfl | exact Or.inr rfl | exact Or.inr (lcg (by omega)) | exact trivial | constructor)) (kn w2 _ _ _ _ (c2.frm mx.2.2 (by decide +kernel)) mx.1))
  refine Go_ald1 dL_law_1986 ?_
  refine Go_ald0 dL_law_1987 ?_
  refine Go_ild5 dL_law_1988 ?_
  refine Go_iconst dL_law_1990 ?_
  refine Go_iadd dL_law_1991 ?_
  refine Go_xld (j := i + 1) dL_law_1992 (by omega) (by omega) hL ?_
  refine Go_ald4 dL_law_1993 ?_
  refine Go_cSW (d' := 8) (bc' := 1) (bs' := 6) (as := [vr 1, vi (sx G (i + 1)), vr 85]) rfl dL_law_1995 msL_spread rfl lkL_217 rfl rfl (Nat.le_of_ble_eq_true rfl) (by decide) (by omega) (by omega) ?_
  refine e_L_spread h (sx_in G _) q_k q_x1
theorem l_law_share (hi : i + 4 ≤ GL G) (hL : GL G < 2147483648) (h : CI w s sv g tx) (hm : MInv w s sv g tx) (kn : ∀ v s sv g tx, CI v s sv g tx → MInv v s sv g tx → Go G cL_law (mL_law tb) none 18 bn sn 2106 [some (vr 1000), some (vr 1), some (vr 68), some (vr 84), some (vr 85), some (vi (i : Int)), none, none, none, none] [] v K X) : Go G cL_law (mL_law tb) none 18 (bn + 8) (sn + 48) 2063 [some (vr 1000), some (vr 1), some (vr 68), some (vr 84), some (vr 85), some (vi (i : Int)), none, none, none, none] [] w K X := by
  refine Go_ald1 dL_law_2063 ?_
  refine Go_cV0 (d' := 1) (bc' := 0) (bs' := 0) rfl dL_law_2064 mvX11_share rfl lkL_221 (by first | assumption | rfl) rfl trivial (by decide) (by omega) (by omega) (Nat.le_of_ble_eq_true rfl) ?_
  refine e_X11_share h ?_
  refine Go_f2d dL_law_2067 (shr_ok _).2 ?_
  refine Go_dstore (i := 6) dL_law_2068 rfl (Nat.le_of_ble_eq_true rfl) (fun j hj => by have e : j = 5 := (by omega); subst e; rfl) ?_
  refine Go_ald2 dL_law_2070 ?_
  refine Go_cV0 (d' := 2) (bc' := 0) (bs' := 0) rfl dL_law_2071 mvX12_share rfl lkL_225 (by first | assumption | rfl) rfl trivial (by decide) (by omega) (by omega) (Nat.le_of_ble_eq_true rfl) ?_
  refine e_X12_share hm (fun w2 mx => ?_)
  refine Go_f2d dL_law_2074 (shr_ok _).2 ?_
  refine Go_dstore (i := 8) dL_law_2075 rfl (Nat.le_of_ble_eq_true rfl) (fun j hj => by have e : j = 7 := (by omega); subst e; rfl) ?_
  refine Go_dload (i := 6) dL_law_2077 rfl ?_
  refine Go_dload (i := 8) dL_law_2079 rfl ?_
  refine Go_dcmp_same dL_law_2081 (shr_nn _) ?_
  refine Go_if_eq (tgt := 2103) dL_law_2082 (by decide) (by constructor <;> omega) (fun h2082 => ?_) (fun h2082 => by omega)
  refine Go_goto (tgt := 2106) dL_law_2103 (by decide) ?_
  exact Go_more (by omega) (by omega) (Go_forget (by repeat' (first | exact Or.inl rfl | exact Or.inr rfl | exact Or.inr (lcg (by omega)) | exact trivial | constructor)) (kn w2 _ _ _ _ (h.frm mx.2.2 (by decide +kernel)) mx.1))
end Law
