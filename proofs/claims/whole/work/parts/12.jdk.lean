section Jd
variable {G : Gm} {w : Wd} {K : Kt} {X : Xt}
theorem l_J7_fill {a n : Nat} {x : Int} (hs : SH a = (2, n)) (hn : n < 2147483648) (k : ∀ w', frm w w' [a] → (∀ j, j < n → w' a j = x) → K (vi 0) none w') :
    ∀ (m i : Nat) (w1 : Wd), i + m = n → frm w w1 [a] → (∀ j, j < i → w1 a j = x) → Go G cJ7_fill_53178 mJ7_fill_53178 none 0 0 0 5 [some (vr a), some (vi x), some (vi (i : Int)), some (vi (n : Int))] [] w1 K X := by
  intro m
  induction m with
  | zero =>
    intro i w1 him f1 h1
    refine Go_ild2 dJ7_fill_53178_5 ?_
    refine Go_ild3 dJ7_fill_53178_6 ?_
    refine Go_icmp_ge (tgt := 20) dJ7_fill_53178_7 (by decide) (by constructor <;> omega) (by constructor <;> omega) (fun h7 => ?_) (fun h7 => by omega)
    refine Go_return dJ7_fill_53178_20 rfl ?_
    exact k w1 f1 (fun j hj => h1 j (by omega))
  | succ m ih =>
    intro i w1 him f1 h1
    refine Go_ild2 dJ7_fill_53178_5 ?_
    refine Go_ild3 dJ7_fill_53178_6 ?_
    refine Go_icmp_ge (tgt := 20) dJ7_fill_53178_7 (by decide) (by constructor <;> omega) (by constructor <;> omega) (fun h7 => by omega) (fun h7 => ?_)
    refine Go_ald0 dJ7_fill_53178_10 ?_
    refine Go_ild2 dJ7_fill_53178_11 ?_
    refine Go_ild1 dJ7_fill_53178_12 ?_
    refine Go_iast dJ7_fill_53178_13 hs trivial (by omega) (by omega) hn ?_
    refine Go_inc2 dJ7_fill_53178_14 rfl ?_
    refine Go_goto (tgt := 5) dJ7_fill_53178_17 (by decide) ?_
    rw [show (i : Int) + 1 = ((i + 1 : Nat) : Int) by omega]
    refine ih (i + 1) _ (by omega) (f1.up (by simp)) (fun j hj => ?_)
    rw [Int.toNat_natCast]
    by_cases q : j = i
    · subst q; rw [up_s]
    · rw [up_k q]; exact h1 j (by omega)
theorem e_J7_fill_53178 {a n : Nat} {x : Int} (hs : SH a = (2, n)) (hn : n < 2147483648) (k : ∀ w', frm w w' [a] → (∀ j, j < n → w' a j = x) → K (vi 0) none w') : Ev G yJ7_fill_53178 cJ7_fill_53178 4 mJ7_fill_53178 none 0 0 0 [vr a, vi x] w K X := by
  refine Ev_intro msJ7_fill_53178.1 rfl (fun h => by cases h) (allc1 rfl) (Nat.le_of_ble_eq_true rfl) (Or.inl rfl) ?_
  show Go G cJ7_fill_53178 mJ7_fill_53178 none 0 0 0 0 [some (vr a), some (vi x), none, none] [] w K X
  refine Go_iconst dJ7_fill_53178_0 ?_
  refine Go_ist2 dJ7_fill_53178_1 rfl ?_
  refine Go_ald0 dJ7_fill_53178_2 ?_
  refine Go_alen2 dJ7_fill_53178_3 hs trivial ?_
  refine Go_ist3 dJ7_fill_53178_4 rfl ?_
  exact l_J7_fill hs hn k n 0 w (by omega) frm.rfl (fun j hj => absurd hj (by omega))
theorem e_J0_coder (k : K (vi 0) none w) : Ev G yJ0_coder_7d493 cJ0_coder_7d493 1 mJ0_coder_7d493 none 0 0 0 [vr 1003] w K X := by
  refine Ev_intro mvJ0_coder_7d493.1 rfl (fun h => by cases h) (allc1 rfl) (Nat.le_of_ble_eq_true rfl) (Or.inl rfl) ?_
  show Go G cJ0_coder_7d493 mJ0_coder_7d493 none 0 0 0 0 [some (vr 1003)] [] w K X
  refine Go_scom dJ0_coder_7d493_0 rfl ?_
  refine Go_if_eq (tgt := 13) dJ0_coder_7d493_3 (by decide) ⟨by decide, by decide⟩ (fun h => by omega) (fun h => ?_)
  refine Go_ald0 dJ0_coder_7d493_6 ?_
  refine Go_scod dJ0_coder_7d493_7 rfl ?_
  refine Go_goto (tgt := 14) dJ0_coder_7d493_10 (by decide) ?_
  exact Go_ireturn dJ0_coder_7d493_14 rfl (by decide) k
theorem e_J0_isLatin1 (k : K (vi 1) none w) : Ev G yJ0_isLatin1_aae02 cJ0_isLatin1_aae02 1 mJ0_isLatin1_aae02 none 0 0 0 [vr 1003] w K X := by
  refine Ev_intro mvJ0_isLatin1_aae02.1 rfl (fun h => by cases h) (allc1 rfl) (Nat.le_of_ble_eq_true rfl) (Or.inl rfl) ?_
  show Go G cJ0_isLatin1_aae02 mJ0_isLatin1_aae02 none 0 0 0 0 [some (vr 1003)] [] w K X
  refine Go_scom dJ0_isLatin1_aae02_0 rfl ?_
  refine Go_if_eq (tgt := 17) dJ0_isLatin1_aae02_3 (by decide) ⟨by decide, by decide⟩ (fun h => by omega) (fun h => ?_)
  refine Go_ald0 dJ0_isLatin1_aae02_6 ?_
  refine Go_scod dJ0_isLatin1_aae02_7 rfl ?_
  refine Go_if_ne (tgt := 17) dJ0_isLatin1_aae02_10 (by decide) ⟨by decide, by decide⟩ (fun h => absurd rfl h) (fun h => ?_)
  refine Go_iconst dJ0_isLatin1_aae02_13 ?_
  refine Go_goto (tgt := 18) dJ0_isLatin1_aae02_14 (by decide) ?_
  exact Go_ireturn dJ0_isLatin1_aae02_18 rfl (by decide) k
theorem e_J0_length (k : K (vi 4) none w) : Ev G yJ0_length_8abf5 cJ0_length_8abf5 1 mJ0_length_8abf5 none 1 0 0 [vr 1003] w K X := by
  refine Ev_intro mvJ0_length_8abf5.1 rfl (fun h => by cases h) (allc1 rfl) (Nat.le_of_ble_eq_true rfl) (Or.inl rfl) ?_
  show Go G cJ0_length_8abf5 mJ0_length_8abf5 none 1 0 0 0 [some (vr 1003)] [] w K X
  refine Go_ald0 dJ0_length_8abf5_0 ?_
  refine Go_sval dJ0_length_8abf5_1 rfl ?_
  refine Go_slen dJ0_length_8abf5_4 ?_
  refine Go_ald0 dJ0_length_8abf5_5 ?_
  refine Go_callT (d' := 0) (as := []) rfl dJ0_length_8abf5_6 mvJ0_coder_7d493 rfl lkJ0_335 rfl rfl rfl (Nat.le_of_ble_eq_true rfl) (by decide) ?_
  refine e_J0_coder ?_
  refine Go_ishr0 dJ0_length_8abf5_9 ?_
  exact Go_ireturn dJ0_length_8abf5_10 rfl rfl k
theorem e_J3_checkIndex {i n : Int} (h0 : 0 ≤ i) (h1 : i < n) (hn : n < 2147483648) (k : K (vi i) none w) : Ev G yJ3_checkIndex_8e157 cJ3_checkIndex_8e157 3 mJ3_checkIndex_8e157 none 0 0 0 [vi i, vi n, vo] w K X := by
  refine Ev_intro msJ3_checkIndex_8e157.1 rfl (fun h => by cases h) (allc1 rfl) (Nat.le_of_ble_eq_true rfl) (Or.inl rfl) ?_
  show Go G cJ3_checkIndex_8e157 mJ3_checkIndex_8e157 none 0 0 0 0 [some (vi i), some (vi n), some (vo)] [] w K X
  refine Go_ild0 dJ3_checkIndex_8e157_0 ?_
  refine Go_if_lt (tgt := 9) dJ3_checkIndex_8e157_1 (by decide) (by constructor <;> omega) (fun h => by omega) (fun h => ?_)
  refine Go_ild0 dJ3_checkIndex_8e157_4 ?_
  refine Go_ild1 dJ3_checkIndex_8e157_5 ?_
  refine Go_icmp_lt (tgt := 16) dJ3_checkIndex_8e157_6 (by decide) (by constructor <;> omega) (by constructor <;> omega) (fun h => ?_) (fun h => by omega)
  refine Go_ild0 dJ3_checkIndex_8e157_16 ?_
  exact Go_ireturn dJ3_checkIndex_8e157_17 rfl rfl k
theorem e_J0_checkIndex {i n : Int} (h0 : 0 ≤ i) (h1 : i < n) (hn : n < 2147483648) (k : K (vi 0) none w) : Ev G yJ0_checkIndex_df160 cJ0_checkIndex_df160 2 mJ0_checkIndex_df160 none 1 0 0 [vi i, vi n] w K X := by
  refine Ev_intro msJ0_checkIndex_df160.1 rfl (fun h => by cases h) (allc1 rfl) (Nat.le_of_ble_eq_true rfl) (Or.inl rfl) ?_
  show Go G cJ0_checkIndex_df160 mJ0_checkIndex_df160 none 1 0 0 0 [some (vi i), some (vi n)] [] w K X
  refine Go_ild0 dJ0_checkIndex_df160_0 ?_
  refine Go_ild1 dJ0_checkIndex_df160_1 ?_
  refine Go_sfmt dJ0_checkIndex_df160_2 rfl ?_
  refine Go_cS3 (d' := 0) (bc' := 0) (bs' := 0) rfl dJ0_checkIndex_df160_5 msJ3_checkIndex_8e157 rfl lkJ0_1059 (by decide) (by decide) (by decide) (Nat.le_of_ble_eq_true rfl) ?_
  refine e_J3_checkIndex h0 h1 hn ?_
  refine Go_pop dJ0_checkIndex_df160_8 rfl ?_
  exact Go_return dJ0_checkIndex_df160_9 rfl k
theorem e_J1_charAt {i : Int} (h0 : 0 ≤ i) (h1 : i < 4) (k : K (vi (urdlI i.toNat)) none w) : Ev G yJ1_charAt_3b067 cJ1_charAt_3b067 2 mJ1_charAt_3b067 none 2 0 0 [vr 1004, vi i] w K X := by
  have hu : ∀ j, j < 4 → 0 ≤ urdlI j ∧ urdlI j < 128 := by decide +kernel
  have hu := hu i.toNat (by omega)
  refine Ev_intro msJ1_charAt_3b067.1 rfl (fun h => by cases h) (allc1 rfl) (Nat.le_of_ble_eq_true rfl) (Or.inl rfl) ?_
  show Go G cJ1_charAt_3b067 mJ1_charAt_3b067 none 2 0 0 0 [some (vr 1004), some (vi i)] [] w K X
  refine Go_ild1 dJ1_charAt_3b067_0 ?_
  refine Go_ald0 dJ1_charAt_3b067_1 ?_
  refine Go_slen dJ1_charAt_3b067_2 ?_
  refine Go_cSv2 (d' := 1) (bc' := 0) (bs' := 0) rfl dJ1_charAt_3b067_3 msJ0_checkIndex_df160 rfl lkJ1_9 (by decide) (by decide) (by decide) (Nat.le_of_ble_eq_true rfl) ?_
  refine e_J0_checkIndex h0 h1 (by decide) ?_
  refine Go_ald0 dJ1_charAt_3b067_6 ?_
  refine Go_ild1 dJ1_charAt_3b067_7 ?_
  refine Go_sbald dJ1_charAt_3b067_8 h0 h1 ?_
  refine Go_sipush dJ1_charAt_3b067_9 (by decide +kernel) ?_
  refine Go_iand255 dJ1_charAt_3b067_12 (by omega) (by omega) ?_
  refine Go_i2c dJ1_charAt_3b067_13 (by omega) (by omega) ?_
  exact Go_ireturn dJ1_charAt_3b067_14 rfl (by obtain ⟨q, hq⟩ := Int.eq_ofNat_of_zero_le hu.1; rw [hq]; exact (pk_charN (by omega)).1) k
theorem e_J0_charAt {i : Int} (h0 : 0 ≤ i) (h1 : i < 4) (k : K (vi (urdlI i.toNat)) none w) : Ev G yJ0_charAt_5068e cJ0_charAt_5068e 2 mJ0_charAt_5068e none 3 0 0 [vr 1003, vi i] w K X := by
  have hu : ∀ j, j < 4 → 0 ≤ urdlI j ∧ urdlI j < 128 := by decide +kernel
  have hu := hu i.toNat (by omega)
  refine Ev_intro mvJ0_charAt_5068e.1 rfl (fun h => by cases h) (allc1 rfl) (Nat.le_of_ble_eq_true rfl) (Or.inl rfl) ?_
  show Go G cJ0_charAt_5068e mJ0_charAt_5068e none 3 0 0 0 [some (vr 1003), some (vi i)] [] w K X
  refine Go_ald0 dJ0_charAt_5068e_0 ?_
  refine Go_callT (d' := 0) (as := []) rfl dJ0_charAt_5068e_1 mvJ0_isLatin1_aae02 rfl lkJ0_492 rfl rfl rfl (Nat.le_of_ble_eq_true rfl) (by decide) ?_
  refine e_J0_isLatin1 ?_
  refine Go_if_eq (tgt := 16) dJ0_charAt_5068e_4 (by decide) ⟨by decide, by decide⟩ (fun h => by omega) (fun h => ?_)
  refine Go_ald0 dJ0_charAt_5068e_7 ?_
  refine Go_sval dJ0_charAt_5068e_8 rfl ?_
  refine Go_ild1 dJ0_charAt_5068e_11 ?_
  refine Go_cS2 (d' := 2) (bc' := 0) (bs' := 0) rfl dJ0_charAt_5068e_12 msJ1_charAt_3b067 rfl lkJ0_495 (by decide) (by decide) (by decide) (Nat.le_of_ble_eq_true rfl) ?_
  refine e_J1_charAt h0 h1 ?_
  exact Go_ireturn dJ0_charAt_5068e_15 rfl (by obtain ⟨q, hq⟩ := Int.eq_ofNat_of_zero_le hu.1; rw [hq]; exact (pk_charN (by omega)).1) k
theorem e_J1_canEncode {c : Int} (h0 : 0 ≤ c) (h1 : c < 256) (k : K (vi 1) none w) : Ev G yJ1_canEncode_9a6ad cJ1_canEncode_9a6ad 1 mJ1_canEncode_9a6ad none 0 0 0 [vi c] w K X := by
  refine Ev_intro msJ1_canEncode_9a6ad.1 rfl (fun h => by cases h) (allc1 rfl) (Nat.le_of_ble_eq_true rfl) (Or.inl rfl) ?_
  show Go G cJ1_canEncode_9a6ad mJ1_canEncode_9a6ad none 0 0 0 0 [some (vi c)] [] w K X
  refine Go_ild0 dJ1_canEncode_9a6ad_0 ?_
  refine Go_if_lt (tgt := 15) dJ1_canEncode_9a6ad_1 (by decide) (by constructor <;> omega) (fun h1 => by omega) (fun h1 => ?_)
  refine Go_ild0 dJ1_canEncode_9a6ad_4 ?_
  refine Go_sipush dJ1_canEncode_9a6ad_5 (by decide +kernel) ?_
  refine Go_icmp_gt (tgt := 15) dJ1_canEncode_9a6ad_8 (by decide) (by constructor <;> omega) (by constructor <;> omega) (fun h8 => by omega) (fun h8 => ?_)
  refine Go_iconst dJ1_canEncode_9a6ad_11 ?_
  refine Go_goto (tgt := 16) dJ1_canEncode_9a6ad_12 (by decide) ?_
  refine Go_ireturn dJ1_canEncode_9a6ad_16 rfl (by first | rfl | decide | simp [narrow]) ?_
  exact k
/-- the place of a letter -/
def ixI (c : Int) : Int := if c = 85 then 0 else if c = 82 then 1 else if c = 68 then 2 else if c = 76 then 3 else -1
theorem l_J1_indexOfChar {c i : Int} (hc0 : 0 ≤ c) (hc1 : c < 128) (h0 : 0 ≤ i) (h1 : i < 4) (k : c = urdlI i.toNat → K (vi i) none w) (kn : c ≠ urdlI i.toNat → Go G cJ1_indexOfChar_4cfef mJ1_indexOfChar_4cfef none 0 0 0 7 [some (vr 1004), some (vi c), some (vi 0), some (vi 4), some (vi c), some (vi (i + 1))] [] w K X) : Go G cJ1_indexOfChar_4cfef mJ1_indexOfChar_4cfef none 0 0 0 7 [some (vr 1004), some (vi c), some (vi 0), some (vi 4), some (vi c), some (vi i)] [] w K X := by
  have hu : ∀ j, j < 4 → 0 ≤ urdlI j ∧ urdlI j < 128 := by decide +kernel
  have hu := hu i.toNat (by omega)
  refine Go_ild5 dJ1_indexOfChar_4cfef_7 ?_
  refine Go_ild3 dJ1_indexOfChar_4cfef_9 ?_
  refine Go_icmp_ge (tgt := 31) dJ1_indexOfChar_4cfef_10 (by decide) (by constructor <;> omega) (by constructor <;> omega) (fun h10 => by omega) (fun h10 => ?_)
  refine Go_ald0 dJ1_indexOfChar_4cfef_13 ?_
  refine Go_ild5 dJ1_indexOfChar_4cfef_14 ?_
  refine Go_sbald dJ1_indexOfChar_4cfef_16 h0 h1 ?_
  refine Go_ild4 dJ1_indexOfChar_4cfef_17 ?_
  refine Go_icmp_ne (tgt := 25) dJ1_indexOfChar_4cfef_19 (by decide) (by constructor <;> omega) (by constructor <;> omega) (fun h19 => ?_) (fun h19 => ?_)
  · refine Go_inc5 dJ1_indexOfChar_4cfef_25 rfl ?_
    refine Go_goto (tgt := 7) dJ1_indexOfChar_4cfef_28 (by decide) ?_
    exact kn (fun q => h19 q.symm)
  · refine Go_ild5 dJ1_indexOfChar_4cfef_22 ?_
    refine Go_ireturn dJ1_indexOfChar_4cfef_24 rfl (by first | rfl | decide | simp [narrow]) ?_
    exact k h19.symm
theorem e_J1_indexOfChar {c : Int} (hc0 : 0 ≤ c) (hc1 : c < 128) (k : K (vi (ixI c)) none w) : Ev G yJ1_indexOfChar_4cfef cJ1_indexOfChar_4cfef 6 mJ1_indexOfChar_4cfef none 0 0 0 [vr 1004, vi c, vi 0, vi 4] w K X := by
  have k : K (vi (if c = urdlI (Int.toNat 0) then 0 else if c = urdlI (Int.toNat 1) then 1 else if c = urdlI (Int.toNat 2) then 2 else if c = urdlI (Int.toNat 3) then 3 else -1)) none w := k
  refine Ev_intro msJ1_indexOfChar_4cfef.1 rfl (fun h => by cases h) (allc1 rfl) (Nat.le_of_ble_eq_true rfl) (Or.inl rfl) ?_
  show Go G cJ1_indexOfChar_4cfef mJ1_indexOfChar_4cfef none 0 0 0 0 [some (vr 1004), some (vi c), some (vi 0), some (vi 4), none, none] [] w K X
  refine Go_ild1 dJ1_indexOfChar_4cfef_0 ?_
  refine Go_i2b dJ1_indexOfChar_4cfef_1 hc0 hc1 ?_
  refine Go_ist4 dJ1_indexOfChar_4cfef_2 rfl ?_
  refine Go_ild2 dJ1_indexOfChar_4cfef_4 ?_
  refine Go_ist5 dJ1_indexOfChar_4cfef_5 rfl ?_
  refine l_J1_indexOfChar (i := 0) hc0 hc1 (by decide) (by decide) (fun h => by rw [if_pos h] at k; exact k) (fun n0 => ?_)
  show Go G cJ1_indexOfChar_4cfef mJ1_indexOfChar_4cfef none 0 0 0 7 [some (vr 1004), some (vi c), some (vi 0), some (vi 4), some (vi c), some (vi 1)] [] w K X
  refine l_J1_indexOfChar (i := 1) hc0 hc1 (by decide) (by decide) (fun h => by rw [if_neg n0, if_pos h] at k; exact k) (fun n1 => ?_)
  show Go G cJ1_indexOfChar_4cfef mJ1_indexOfChar_4cfef none 0 0 0 7 [some (vr 1004), some (vi c), some (vi 0), some (vi 4), some (vi c), some (vi 2)] [] w K X
  refine l_J1_indexOfChar (i := 2) hc0 hc1 (by decide) (by decide) (fun h => by rw [if_neg n0, if_neg n1, if_pos h] at k; exact k) (fun n2 => ?_)
  show Go G cJ1_indexOfChar_4cfef mJ1_indexOfChar_4cfef none 0 0 0 7 [some (vr 1004), some (vi c), some (vi 0), some (vi 4), some (vi c), some (vi 3)] [] w K X
  refine l_J1_indexOfChar (i := 3) hc0 hc1 (by decide) (by decide) (fun h => by rw [if_neg n0, if_neg n1, if_neg n2, if_pos h] at k; exact k) (fun n3 => ?_)
  show Go G cJ1_indexOfChar_4cfef mJ1_indexOfChar_4cfef none 0 0 0 7 [some (vr 1004), some (vi c), some (vi 0), some (vi 4), some (vi c), some (vi 4)] [] w K X
  rw [if_neg n0, if_neg n1, if_neg n2, if_neg n3] at k
  refine Go_ild5 dJ1_indexOfChar_4cfef_7 ?_
  refine Go_ild3 dJ1_indexOfChar_4cfef_9 ?_
  refine Go_icmp_ge (tgt := 31) dJ1_indexOfChar_4cfef_10 (by decide) (by constructor <;> omega) (by constructor <;> omega) (fun h10 => ?_) (fun h10 => by omega)
  refine Go_iconst dJ1_indexOfChar_4cfef_31 ?_
  refine Go_ireturn dJ1_indexOfChar_4cfef_32 rfl (by first | rfl | decide | simp [narrow]) ?_
  exact k
theorem e_J1_indexOf {c : Int} (hc0 : 0 ≤ c) (hc1 : c < 128) (k : K (vi (ixI c)) none w) : Ev G yJ1_indexOf_4cfef cJ1_indexOf_4cfef 4 mJ1_indexOf_4cfef none 1 0 0 [vr 1004, vi c, vi 0, vi 4] w K X := by
  refine Ev_intro msJ1_indexOf_4cfef.1 rfl (fun h => by cases h) (allc1 rfl) (Nat.le_of_ble_eq_true rfl) (Or.inl rfl) ?_
  show Go G cJ1_indexOf_4cfef mJ1_indexOf_4cfef none 1 0 0 0 [some (vr 1004), some (vi c), some (vi 0), some (vi 4)] [] w K X
  refine Go_ild1 dJ1_indexOf_4cfef_0 ?_
  refine Go_cS1 (d' := 0) (bc' := 0) (bs' := 0) rfl dJ1_indexOf_4cfef_1 msJ1_canEncode_9a6ad rfl lkJ1_88 (by decide) (by decide) (by decide) (Nat.le_of_ble_eq_true rfl) ?_
  refine e_J1_canEncode hc0 (by omega) ?_
  refine Go_if_ne (tgt := 9) dJ1_indexOf_4cfef_4 (by decide) (by constructor <;> omega) (fun h4 => ?_) (fun h4 => by omega)
  refine Go_ild2 dJ1_indexOf_4cfef_9 ?_
  refine Go_iconst dJ1_indexOf_4cfef_10 ?_
  refine Go_mmax dJ1_indexOf_4cfef_11 lkJ1_92 (by decide) (by constructor <;> omega) (by constructor <;> omega) (Nat.le_of_ble_eq_true rfl) ?_
  refine Go_ist2 dJ1_indexOf_4cfef_14 rfl ?_
  refine Go_ild3 dJ1_indexOf_4cfef_15 ?_
  refine Go_ald0 dJ1_indexOf_4cfef_16 ?_
  refine Go_slen dJ1_indexOf_4cfef_17 ?_
  refine Go_mmin dJ1_indexOf_4cfef_18 lkJ1_38 (by decide) ⟨by decide, by decide⟩ ⟨by decide, by decide⟩ (Nat.le_of_ble_eq_true rfl) ?_
  show Go G cJ1_indexOf_4cfef mJ1_indexOf_4cfef none 1 0 0 21 [some (vr 1004), some (vi c), some (vi 0), some (vi 4)] [vi 4] w K X
  refine Go_ist3 dJ1_indexOf_4cfef_21 rfl ?_
  refine Go_ild2 dJ1_indexOf_4cfef_22 ?_
  refine Go_ild3 dJ1_indexOf_4cfef_23 ?_
  refine Go_icmp_lt (tgt := 29) dJ1_indexOf_4cfef_24 (by decide) (by constructor <;> omega) (by constructor <;> omega) (fun h24 => ?_) (fun h24 => by omega)
  refine Go_ald0 dJ1_indexOf_4cfef_29 ?_
  refine Go_ild1 dJ1_indexOf_4cfef_30 ?_
  refine Go_ild2 dJ1_indexOf_4cfef_31 ?_
  refine Go_ild3 dJ1_indexOf_4cfef_32 ?_
  refine Go_cS4 (d' := 0) (bc' := 0) (bs' := 0) rfl dJ1_indexOf_4cfef_33 msJ1_indexOfChar_4cfef rfl lkJ1_95 (by decide) (by decide) (by decide) (Nat.le_of_ble_eq_true rfl) ?_
  refine e_J1_indexOfChar hc0 hc1 ?_
  refine Go_ireturn dJ1_indexOf_4cfef_36 rfl (by first | rfl | decide | simp [narrow]) ?_
  exact k
theorem e_J0_indexOf2 {c : Int} (hc0 : 0 ≤ c) (hc1 : c < 128) (k : K (vi (ixI c)) none w) : Ev G yJ0_indexOf_7cf53 cJ0_indexOf_7cf53 3 mJ0_indexOf_7cf53 none 2 0 0 [vr 1003, vi c, vi 0] w K X := by
  refine Ev_intro mvJ0_indexOf_7cf53.1 rfl (fun h => by cases h) (allc1 rfl) (Nat.le_of_ble_eq_true rfl) (Or.inl rfl) ?_
  show Go G cJ0_indexOf_7cf53 mJ0_indexOf_7cf53 none 2 0 0 0 [some (vr 1003), some (vi c), some (vi 0)] [] w K X
  refine Go_ald0 dJ0_indexOf_7cf53_0 ?_
  refine Go_callT (d' := 0) (as := []) rfl dJ0_indexOf_7cf53_1 mvJ0_isLatin1_aae02 rfl lkJ0_492 rfl rfl rfl (Nat.le_of_ble_eq_true rfl) (by decide) ?_
  refine e_J0_isLatin1 ?_
  refine Go_if_eq (tgt := 23) dJ0_indexOf_7cf53_4 (by decide) ⟨by decide, by decide⟩ (fun h => by omega) (fun h => ?_)
  refine Go_ald0 dJ0_indexOf_7cf53_7 ?_
  refine Go_sval dJ0_indexOf_7cf53_8 rfl ?_
  refine Go_ild1 dJ0_indexOf_7cf53_11 ?_
  refine Go_ild2 dJ0_indexOf_7cf53_12 ?_
  refine Go_ald0 dJ0_indexOf_7cf53_13 ?_
  refine Go_callT (d' := 1) (as := []) rfl dJ0_indexOf_7cf53_14 mvJ0_length_8abf5 rfl lkJ0_505 rfl rfl rfl (Nat.le_of_ble_eq_true rfl) (by decide) ?_
  refine e_J0_length ?_
  refine Go_cS4 (d' := 1) (bc' := 0) (bs' := 0) rfl dJ0_indexOf_7cf53_17 msJ1_indexOf_4cfef rfl lkJ0_637 (by decide) (by decide) (by decide) (Nat.le_of_ble_eq_true rfl) ?_
  refine e_J1_indexOf hc0 hc1 ?_
  refine Go_goto (tgt := 36) dJ0_indexOf_7cf53_20 (by decide) ?_
  refine Go_ireturn dJ0_indexOf_7cf53_36 rfl (by first | rfl | decide | simp [narrow]) ?_
  exact k
theorem e_J0_indexOf {c : Int} (hc0 : 0 ≤ c) (hc1 : c < 128) (k : K (vi (ixI c)) none w) : Ev G yJ0_indexOf_0f7a4 cJ0_indexOf_0f7a4 2 mJ0_indexOf_0f7a4 none 3 0 0 [vr 1003, vi c] w K X := by
  refine Ev_intro mvJ0_indexOf_0f7a4.1 rfl (fun h => by cases h) (allc1 rfl) (Nat.le_of_ble_eq_true rfl) (Or.inl rfl) ?_
  show Go G cJ0_indexOf_0f7a4 mJ0_indexOf_0f7a4 none 3 0 0 0 [some (vr 1003), some (vi c)] [] w K X
  refine Go_ald0 dJ0_indexOf_0f7a4_0 ?_
  refine Go_ild1 dJ0_indexOf_0f7a4_1 ?_
  refine Go_iconst dJ0_indexOf_0f7a4_2 ?_
  refine Go_callT (d' := 2) (as := [vi c, vi 0]) rfl dJ0_indexOf_0f7a4_3 mvJ0_indexOf_7cf53 rfl lkJ0_633 rfl rfl rfl (Nat.le_of_ble_eq_true rfl) (by decide) ?_
  refine e_J0_indexOf2 hc0 hc1 ?_
  exact Go_ireturn dJ0_indexOf_0f7a4_6 rfl rfl k
end Jd
