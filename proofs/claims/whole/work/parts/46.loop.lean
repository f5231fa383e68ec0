theorem lst1 : ∀ q ∈ L1, q.1 < 68 := by decide
theorem lst2 : ∀ q ∈ L2, q.1 < 84 := by decide
theorem allL1 : (List.range 86).all (fun a => (List.range 20).all (fun k => !((SH a).1 == 1 && (ftl (SH a).2)[k]? == some true) || (L2.contains (a, k) && a != 3))) = true := by decide +kernel
theorem allL6 : (List.range 86).all (fun a => (List.range 6).all (fun k => !((SH a).1 == 6 && decide (k < (SH a).2)) || (L2.contains (a, k) && a != 3))) = true := by decide +kernel
theorem all6 : (List.range 86).all (fun a => !((SH a).1 == 6) || decide ((SH a).2 ≤ 6)) = true := by decide +kernel
theorem ftl_len (ci : Nat) : (ftl ci).length ≤ 20 := by
  unfold ftl
  split <;> decide
theorem RT_RF {a k : Nat} (h : a ≠ 3) : RT a k = RF a k := by unfold RT; rw [if_neg h]
theorem STG.allR {w : Wd} (h : STG L2 true w) : allR w := by
  refine ⟨fun a ci k hs hk => ?_, fun a N k hs hk => ?_⟩
  · have ha := SH_lt hs (by decide)
    have hk2 : k < 20 := Nat.lt_of_lt_of_le (List.getElem?_eq_some_iff.mp hk).1 (ftl_len ci)
    have e := List.all_eq_true.mp (List.all_eq_true.mp allL1 a (List.mem_range.mpr (by have := ha.2; unfold NA at this; omega))) k (List.mem_range.mpr hk2)
    rw [hs] at e
    simp only [hk, beq_self_eq_true, Bool.and_self, Bool.not_true, Bool.false_or, Bool.and_eq_true, List.contains_iff_mem, bne_iff_ne] at e
    rw [← RT_RF e.2]
    exact h.1 _ e.1
  · have ha := SH_lt hs (by decide)
    have ha2 : a < 86 := by have := ha.2; unfold NA at this; omega
    have e6 := List.all_eq_true.mp all6 a (List.mem_range.mpr ha2)
    rw [hs] at e6
    simp only [beq_self_eq_true, Bool.not_true, Bool.false_or, decide_eq_true_eq] at e6
    have e := List.all_eq_true.mp (List.all_eq_true.mp allL6 a (List.mem_range.mpr ha2)) k (List.mem_range.mpr (by omega))
    rw [hs] at e
    simp only [hk, decide_true, beq_self_eq_true, Bool.and_self, Bool.not_true, Bool.false_or, Bool.and_eq_true, List.contains_iff_mem, bne_iff_ne] at e
    rw [← RT_RF e.2]
    exact h.1 _ e.1
theorem OKp_nil : OKp [] := by
  have e : ∀ p, pth [] p = [] := fun p => pth_ge (by simp)
  refine ⟨by decide, fun p hp => by simp at hp, fun p x hx => by rw [e] at hx; simp at hx, fun p => ⟨by rw [e]; exact List.nodup_nil, fun q _ x hx => by rw [e] at hx; simp at hx⟩⟩
theorem STG.z {w : Wd} (h : STG L2 true w) {a k : Nat} (hm : (a, k) ∉ L2) (h4 : a ≠ 4 ∧ a ≠ 5) : w a k = 0 := h.2.1 a k hm (fun _ => h4)
theorem STG.CI {w : Wd} (h : STG L2 true w) : CI w s00 [] (fun _ => none) [] := by
  have e3 : ∀ p, p < 5 → w 3 p = ((6 + 2 * p : Nat) : Int) := fun p hp => by
    have m : ∀ p, p < 5 → (3, p) ∈ L2 := by decide +kernel
    exact h.1 (3, p) (m p hp)
  have eA : ∀ p, p < 5 → tA w p = 6 + 2 * p := fun p hp => by unfold tA; rw [e3 p hp, Int.toNat_natCast]
  refine ⟨⟨⟨⟨h.z (by decide) (by decide), by decide, fun p hp => ⟨?_, ?_⟩, fun p q hp hq e => ?_, fun p hp => absurd hp (by simp [s00])⟩, fun t ht => h.2.2 rfl t ht, h.z (by decide) (by decide)⟩, h.z (by decide) (by decide), h.z (by decide) (by decide), h.z (by decide) (by decide)⟩, OKp_nil, ⟨0, by decide, h.z (by decide) (by decide), h.z (by decide) (by decide), by decide, fun i hi => absurd hi (by simp)⟩, fun i hi => ?_, h.z (by decide) (by decide), by decide, fun j hj => absurd hj (by simp), fun x hx => by simp at hx⟩
  · rw [eA p hp]
    have m : ∀ p, p < 5 → 6 + 2 * p ∈ bts := by decide
    exact m p hp
  · rw [eA p hp]; exact e3 p hp
  · rw [eA p hp, eA q hq] at e; omega
  · have m : ∀ i, i < 2 → (38, i) ∉ L2 := by decide +kernel
    exact h.z (m i hi) (by decide)
theorem STG.MInv {w : Wd} (h : STG L2 true w) : MInv w s00 [] (fun _ => none) [] := by
  refine ⟨⟨OKp_nil, h.z (by decide) (by decide), h.z (by decide) (by decide), h.z (by decide) (by decide), h.z (by decide) (by decide), fun p hp => absurd hp (by simp [s00]), fun p k hp _ => absurd hp (by simp [s00])⟩, ⟨h.z (by decide) (by decide), by decide, fun i hi => absurd hi (by simp)⟩, fun i hi => ?_, h.z (by decide) (by decide), by decide, fun j hj => absurd hj (by simp), fun x hx => by simp at hx⟩
  have m : ∀ i, i < 2 → (72, i) ∉ L2 := by decide +kernel
  exact h.z (m i hi) (by decide)
section Loop
variable {G : Gm} {tb : List (Nat × Nat × Nat × Nat)} {w : Wd} {K : Kt} {X : Xt}
theorem l_law_pick {s : Sta} {sv : List Sta} {g : Nat → Option Sta} {tx : List Nat} {i bn sn : Nat} (hi : i + 4 ≤ GL G) (hL : GL G < 2147483648) (h : CI w s sv g tx) (hm : MInv w s sv g tx) (kn : ∀ v s sv g tx, CI v s sv g tx → MInv v s sv g tx → Go G cL_law (mL_law tb) none 18 bn sn 2106 [some (vr 1000), some (vr 1), some (vr 68), some (vr 84), some (vr 85), some (vi (i : Int)), none, none, none, none] [] v K X) : ∀ j : Nat, j < 64 → Go G cL_law (mL_law tb) none 18 (bn + 8) (sn + 48) 44 [some (vr 1000), some (vr 1), some (vr 68), some (vr 84), some (vr 85), some (vi (i : Int)), none, none, none, none] [vi (j : Int)] w K X
  | 0, _ => Go_tsIn (i := 0) (off := 148) (tgt := 192) dL_law_44 (by decide) ⟨⟨by decide, by decide⟩, by decide⟩ (by decide) (by decide) (l_law_start hi hL h hm kn)
  | 1, _ => Go_tsIn (i := 1) (off := 216) (tgt := 260) dL_law_44 (by decide) ⟨⟨by decide, by decide⟩, by decide⟩ (by decide) (by decide) (l_law_step hi hL h hm kn)
  | 2, _ => Go_tsIn (i := 2) (off := 284) (tgt := 328) dL_law_44 (by decide) ⟨⟨by decide, by decide⟩, by decide⟩ (by decide) (by decide) (l_law_back hi hL h hm kn)
  | 3, _ => Go_tsIn (i := 3) (off := 340) (tgt := 384) dL_law_44 (by decide) ⟨⟨by decide, by decide⟩, by decide⟩ (by decide) (by decide) (l_law_slither hi hL h hm kn)
  | 4, _ => Go_tsIn (i := 4) (off := 408) (tgt := 452) dL_law_44 (by decide) ⟨⟨by decide, by decide⟩, by decide⟩ (by decide) (by decide) (l_law_turn hi hL h hm kn)
  | 5, _ => Go_tsIn (i := 5) (off := 488) (tgt := 532) dL_law_44 (by decide) ⟨⟨by decide, by decide⟩, by decide⟩ (by decide) (by decide) (l_law_reverse hi hL h hm kn)
  | 6, _ => Go_tsIn (i := 6) (off := 544) (tgt := 588) dL_law_44 (by decide) ⟨⟨by decide, by decide⟩, by decide⟩ (by decide) (by decide) (l_law_join hi hL h hm kn)
  | 7, _ => Go_tsIn (i := 7) (off := 612) (tgt := 656) dL_law_44 (by decide) ⟨⟨by decide, by decide⟩, by decide⟩ (by decide) (by decide) (l_law_split hi hL h hm kn)
  | 8, _ => Go_tsIn (i := 8) (off := 680) (tgt := 724) dL_law_44 (by decide) ⟨⟨by decide, by decide⟩, by decide⟩ (by decide) (by decide) (l_law_remove hi hL h hm kn)
  | 9, _ => Go_tsIn (i := 9) (off := 736) (tgt := 780) dL_law_44 (by decide) ⟨⟨by decide, by decide⟩, by decide⟩ (by decide) (by decide) (l_law_append hi hL h hm kn)
  | 10, _ => Go_tsIn (i := 10) (off := 792) (tgt := 836) dL_law_44 (by decide) ⟨⟨by decide, by decide⟩, by decide⟩ (by decide) (by decide) (l_law_clearBuffer hi hL h hm kn)
  | 11, _ => Go_tsIn (i := 11) (off := 805) (tgt := 849) dL_law_44 (by decide) ⟨⟨by decide, by decide⟩, by decide⟩ (by decide) (by decide) (l_law_firstError hi hL h hm kn)
  | 12, _ => Go_tsIn (i := 12) (off := 818) (tgt := 862) dL_law_44 (by decide) ⟨⟨by decide, by decide⟩, by decide⟩ (by decide) (by decide) (l_law_draw hi hL h hm kn)
  | 13, _ => Go_tsIn (i := 13) (off := 862) (tgt := 906) dL_law_44 (by decide) ⟨⟨by decide, by decide⟩, by decide⟩ (by decide) (by decide) (l_law_write hi hL h hm kn)
  | 14, _ => Go_tsIn (i := 14) (off := 918) (tgt := 962) dL_law_44 (by decide) ⟨⟨by decide, by decide⟩, by decide⟩ (by decide) (by decide) (l_law_undo hi hL h hm kn)
  | 15, _ => Go_tsIn (i := 15) (off := 962) (tgt := 1006) dL_law_44 (by decide) ⟨⟨by decide, by decide⟩, by decide⟩ (by decide) (by decide) (l_law_keep hi hL h hm kn)
  | 16, _ => Go_tsIn (i := 16) (off := 1018) (tgt := 1062) dL_law_44 (by decide) ⟨⟨by decide, by decide⟩, by decide⟩ (by decide) (by decide) (l_law_goBack hi hL h hm kn)
  | 17, _ => Go_tsIn (i := 17) (off := 1074) (tgt := 1118) dL_law_44 (by decide) ⟨⟨by decide, by decide⟩, by decide⟩ (by decide) (by decide) (l_law_site hi hL h hm kn)
  | 18, _ => Go_tsIn (i := 18) (off := 1154) (tgt := 1198) dL_law_44 (by decide) ⟨⟨by decide, by decide⟩, by decide⟩ (by decide) (by decide) (l_law_place hi hL h hm kn)
  | 19, _ => Go_tsIn (i := 19) (off := 1222) (tgt := 1266) dL_law_44 (by decide) ⟨⟨by decide, by decide⟩, by decide⟩ (by decide) (by decide) (l_law_path hi hL h hm kn)
  | 20, _ => Go_tsIn (i := 20) (off := 1290) (tgt := 1334) dL_law_44 (by decide) ⟨⟨by decide, by decide⟩, by decide⟩ (by decide) (by decide) (l_law_trapped hi hL h hm kn)
  | 21, _ => Go_tsIn (i := 21) (off := 1303) (tgt := 1347) dL_law_44 (by decide) ⟨⟨by decide, by decide⟩, by decide⟩ (by decide) (by decide) (l_law_touching hi hL h hm kn)
  | 22, _ => Go_tsIn (i := 22) (off := 1371) (tgt := 1415) dL_law_44 (by decide) ⟨⟨by decide, by decide⟩, by decide⟩ (by decide) (by decide) (l_law_shape hi hL h hm kn)
  | 23, _ => Go_tsIn (i := 23) (off := 1439) (tgt := 1483) dL_law_44 (by decide) ⟨⟨by decide, by decide⟩, by decide⟩ (by decide) (by decide) (l_law_isAlike hi hL h hm kn)
  | 24, _ => Go_tsIn (i := 24) (off := 1514) (tgt := 1558) dL_law_44 (by decide) ⟨⟨by decide, by decide⟩, by decide⟩ (by decide) (by decide) (l_law_free hi hL h hm kn)
  | 25, _ => Go_tsIn (i := 25) (off := 1570) (tgt := 1614) dL_law_44 (by decide) ⟨⟨by decide, by decide⟩, by decide⟩ (by decide) (by decide) (l_law_ways hi hL h hm kn)
  | 26, _ => Go_tsIn (i := 26) (off := 1638) (tgt := 1682) dL_law_44 (by decide) ⟨⟨by decide, by decide⟩, by decide⟩ (by decide) (by decide) (l_law_bestStep hi hL h hm kn)
  | 27, _ => Go_tsIn (i := 27) (off := 1694) (tgt := 1738) dL_law_44 (by decide) ⟨⟨by decide, by decide⟩, by decide⟩ (by decide) (by decide) (l_law_reach hi hL h hm kn)
  | 28, _ => Go_tsIn (i := 28) (off := 1750) (tgt := 1794) dL_law_44 (by decide) ⟨⟨by decide, by decide⟩, by decide⟩ (by decide) (by decide) (l_law_ifTurned hi hL h hm kn)
  | 29, _ => Go_tsIn (i := 29) (off := 1830) (tgt := 1874) dL_law_44 (by decide) ⟨⟨by decide, by decide⟩, by decide⟩ (by decide) (by decide) (l_law_turnable hi hL h hm kn)
  | 30, _ => Go_tsIn (i := 30) (off := 1886) (tgt := 1930) dL_law_44 (by decide) ⟨⟨by decide, by decide⟩, by decide⟩ (by decide) (by decide) (l_law_count hi hL h hm kn)
  | 31, _ => Go_tsIn (i := 31) (off := 1942) (tgt := 1986) dL_law_44 (by decide) ⟨⟨by decide, by decide⟩, by decide⟩ (by decide) (by decide) (l_law_spread hi hL h hm kn)
  | 32, _ => Go_tsIn (i := 32) (off := 2019) (tgt := 2063) dL_law_44 (by decide) ⟨⟨by decide, by decide⟩, by decide⟩ (by decide) (by decide) (l_law_share hi hL h hm kn)
  | j + 33, hj => Go_tsOut (tgt := 2106) dL_law_44 (by constructor <;> omega) (Or.inr (by omega)) (by decide) (Go_more (by omega) (by omega) (kn w s sv g tx h hm))
theorem l_law_loop (hL : GL G ≤ 2048) (kr : ∀ w', K (vi 1) none w') : ∀ (m i : Nat), GL G < i + 4 * m + 4 → i < 2147483000 → ∀ (w : Wd) (s : Sta) (sv : List Sta) (g : Nat → Option Sta) (tx : List Nat), CI w s sv g tx → MInv w s sv g tx → Go G cL_law (mL_law tb) none 18 (8 * m) (48 * m) 28 [some (vr 1000), some (vr 1), some (vr 68), some (vr 84), some (vr 85), some (vi (i : Int)), none, none, none, none] [] w K X := by
  have fin : ∀ (i bc bs : Nat) (w : Wd), GL G < i + 4 → i < 2147483000 → Go G cL_law (mL_law tb) none 18 bc bs 28 [some (vr 1000), some (vr 1), some (vr 68), some (vr 84), some (vr 85), some (vi (i : Int)), none, none, none, none] [] w K X := fun i bc bs w h hi => by
    refine Go_ild5 dL_law_28 ?_
    refine Go_ald0 dL_law_30 ?_
    refine Go_xlen dL_law_31 ?_
    refine Go_iconst dL_law_32 ?_
    refine Go_isub dL_law_33 ?_
    refine Go_icmp_gt (tgt := 2112) dL_law_34 (by decide) (by constructor <;> omega) (by constructor <;> omega) (fun _ => ?_) (fun q => by omega)
    refine Go_iconst dL_law_2112 ?_
    exact Go_ireturn dL_law_2113 rfl (by first | rfl | decide | exact nar_b | simp [narrow]) (kr w)
  intro m
  induction m with
  | zero => intro i hi hi2 w s sv g tx h hm; exact fin i _ _ w (by omega) hi2
  | succ m ih =>
    intro i hi hi2 w s sv g tx h hm
    by_cases c : GL G < i + 4
    · exact fin i _ _ w c hi2
    · have kn : ∀ v s sv g tx, CI v s sv g tx → MInv v s sv g tx → Go G cL_law (mL_law tb) none 18 (8 * m) (48 * m) 2106 [some (vr 1000), some (vr 1), some (vr 68), some (vr 84), some (vr 85), some (vi (i : Int)), none, none, none, none] [] v K X := fun v s sv g tx h1 h2 => by
        refine Go_inc5 dL_law_2106 rfl ?_
        refine Go_goto (tgt := 28) dL_law_2109 (by decide) ?_
        rw [show (i : Int) + 4 = ((i + 4 : Nat) : Int) by omega]
        exact ih (i + 4) (by omega) (by omega) v s sv g tx h1 h2
      show Go G cL_law (mL_law tb) none 18 (8 * m + 8) (48 * m + 48) 28 [some (vr 1000), some (vr 1), some (vr 68), some (vr 84), some (vr 85), some (vi (i : Int)), none, none, none, none] [] w K X
      refine Go_ild5 dL_law_28 ?_
      refine Go_ald0 dL_law_30 ?_
      refine Go_xlen dL_law_31 ?_
      refine Go_iconst dL_law_32 ?_
      refine Go_isub dL_law_33 ?_
      refine Go_icmp_gt (tgt := 2112) dL_law_34 (by decide) (by constructor <;> omega) (by constructor <;> omega) (fun q => by omega) (fun _ => ?_)
      refine Go_ald0 dL_law_37 ?_
      refine Go_ild5 dL_law_38 ?_
      refine Go_xld (j := i) dL_law_40 (by omega) (by omega) (by omega) ?_
      refine Go_bipush dL_law_41 (by decide +kernel) ?_
      refine Go_iand63 dL_law_43 (fun j hj => ?_)
      exact l_law_pick (by omega) (by omega) h hm kn j hj
theorem l_law_all (hL : GL G ≤ 2048) (kr : ∀ w', K (vi 1) none w') : Go G cL_law (mL_law tb) (some 1) 18 100000 1000000 0 [some (vr 1000), none, none, none, none, none, none, none, none, none] [] w00 K X := by
  refine Go_new (n := 1) (m := 2) (ci := 10) (T := TX11) dL_law_0 clL_8 itX11 gi_RX11 rfl tyX11 tyX11_ok lys10 df10 rfl rfl (fun _ => rfl) (Nat.le_of_ble_eq_true rfl) (Nat.le_of_ble_eq_true rfl) ?_
  refine Go_dup dL_law_3 ?_
  refine Go_callI (d' := 3) (bc' := 66) (bs' := 2617) rfl dL_law_4 miX11_init rfl lkL_108 (Nat.le_of_ble_eq_true rfl) (by decide) (Nat.le_of_ble_eq_true rfl) (Nat.le_of_ble_eq_true rfl) ?_
  refine e_X11_init (fun w1 g1 => ?_)
  have hz1 : ∀ a k, 68 ≤ a → w1 a k = 0 := fun a k ha => g1.zero a (List.all_eq_true.mpr (fun q hq => by rw [decide_eq_true_eq]; have := lst1 q hq; omega)) (fun _ => by omega) k
  refine Go_ast1 dL_law_7 rfl ?_
  refine Go_new (n := 68) (m := 69) (ci := 11) (T := TX12) dL_law_8 clL_109 itX12 gi_RX12 rfl tyX12 tyX12_ok lys11 df11 rfl rfl (fun k => hz1 _ _ (by decide)) (Nat.le_of_ble_eq_true rfl) (Nat.le_of_ble_eq_true rfl) ?_
  refine Go_dup dL_law_11 ?_
  refine Go_callI (d' := 1) (bc' := 15) (bs' := 3577) rfl dL_law_12 miX12_init rfl lkL_111 (Nat.le_of_ble_eq_true rfl) (by decide) (Nat.le_of_ble_eq_true rfl) (Nat.le_of_ble_eq_true rfl) ?_
  refine e_X12_init (fun a k ha => hz1 _ _ (by omega)) ?_
  have g2 : STG L2 true _ := ((((((((((((((((g1.set_ (a := 68) (k := 1) (b := 69) rfl (by decide)).set_ (a := 68) (k := 2) (b := 70) rfl (by decide)).set_ (a := 68) (k := 4) (b := 71) rfl (by decide)).set_ (a := 68) (k := 5) (b := 72) rfl (by decide)).set_ (a := 68) (k := 6) (b := 73) rfl (by decide)).set_ (a := 68) (k := 8) (b := 74) rfl (by decide)).set_ (a := 68) (k := 9) (b := 75) rfl (by decide)).set_ (a := 68) (k := 10) (b := 76) rfl (by decide)).set_ (a := 68) (k := 11) (b := 77) rfl (by decide)).set_ (a := 68) (k := 13) (b := 78) rfl (by decide)).set_ (a := 68) (k := 15) (b := 79) rfl (by decide)).set_ (a := 68) (k := 16) (b := 80) rfl (by decide)).set_ (a := 68) (k := 17) (b := 81) rfl (by decide)).set_ (a := 68) (k := 18) (b := 82) rfl (by decide)).set_ (a := 68) (k := 19) (b := 83) rfl (by decide)).set0 (a := 68) (k := 3) (by decide) (by decide))
  have hz2 : ∀ a k, 84 ≤ a → _ = (0 : Int) := fun a k ha => g2.zero a (List.all_eq_true.mpr (fun q hq => by rw [decide_eq_true_eq]; have := lst2 q hq; omega)) (fun _ => by omega) k
  refine Go_ast2 dL_law_15 rfl ?_
  refine Go_iconst dL_law_16 ?_
  refine Go_newL (n := 84) (m := 85) (N := 1) dL_law_17 rfl rfl (by decide) (fun k => hz2 _ _ (by decide)) (Nat.le_of_ble_eq_true rfl) (Nat.le_of_ble_eq_true rfl) ?_
  refine Go_ast3 dL_law_19 rfl ?_
  refine Go_iconst dL_law_20 ?_
  refine Go_newD (n := 85) (m := 86) (N := 1) dL_law_21 rfl rfl (by decide) (fun k => hz2 _ _ (by decide)) (Nat.le_of_ble_eq_true rfl) (Nat.le_of_ble_eq_true rfl) ?_
  refine Go_ast4 dL_law_23 rfl ?_
  refine Go_iconst dL_law_25 ?_
  refine Go_ist5 dL_law_26 rfl ?_
  refine Go_all g2.allR ?_
  exact Go_more (bc' := 8 * 512) (bs' := 48 * 512) (Nat.le_of_ble_eq_true rfl) (Nat.le_of_ble_eq_true rfl) (l_law_loop hL kr 512 0 (by omega) (by decide) _ _ _ _ _ g2.CI g2.MInv)
end Loop
