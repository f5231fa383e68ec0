theorem df0 : ∀ j, j < 8 → defaultValue (tyX0 j) = (match (ftl 0)[j]? with | some false => Value.int 0 | _ => Value.null) := by decide +kernel
theorem df1 : ∀ j, j < 3 → defaultValue (tyX1 j) = (match (ftl 1)[j]? with | some false => Value.int 0 | _ => Value.null) := by decide +kernel
theorem df2 : ∀ j, j < 2 → defaultValue (tyX3 j) = (match (ftl 2)[j]? with | some false => Value.int 0 | _ => Value.null) := by decide +kernel
theorem df3 : ∀ j, j < 5 → defaultValue (tyX4 j) = (match (ftl 3)[j]? with | some false => Value.int 0 | _ => Value.null) := by decide +kernel
theorem df4 : ∀ j, j < 6 → defaultValue (tyX5 j) = (match (ftl 4)[j]? with | some false => Value.int 0 | _ => Value.null) := by decide +kernel
theorem df5 : ∀ j, j < 1 → defaultValue (tyX6 j) = (match (ftl 5)[j]? with | some false => Value.int 0 | _ => Value.null) := by decide +kernel
theorem df6 : ∀ j, j < 5 → defaultValue (tyX7 j) = (match (ftl 6)[j]? with | some false => Value.int 0 | _ => Value.null) := by decide +kernel
theorem df7 : ∀ j, j < 2 → defaultValue (tyX8 j) = (match (ftl 7)[j]? with | some false => Value.int 0 | _ => Value.null) := by decide +kernel
theorem df8 : ∀ j, j < 2 → defaultValue (tyX9 j) = (match (ftl 8)[j]? with | some false => Value.int 0 | _ => Value.null) := by decide +kernel
theorem df9 : ∀ j, j < 1 → defaultValue (tyX10 j) = (match (ftl 9)[j]? with | some false => Value.int 0 | _ => Value.null) := by decide +kernel
theorem df10 : ∀ j, j < 10 → defaultValue (tyX11 j) = (match (ftl 10)[j]? with | some false => Value.int 0 | _ => Value.null) := by decide +kernel
section Ctors
variable {G : Gm} {w : Wd} {K : Kt}
theorem e_X9_init {t : Nat} (hs0 : SH t = (1, 8)) (hs1 : SH (t + 1) = (2, 60)) (hz1 : ∀ k, w (t + 1) k = 0) (k : K (vi 0) (some (t + 2)) (up w t 0 (((t + 1) : Nat) : Int))) : Ev G yX9_init cX9_init 1 mX9_init (some (t + 1)) 1 1 60 [vr t] w K (fun _ _ _ => False) := by
  refine Ev_intro miX9_init.1 rfl (fun _ => rfl) (allc1 rfl) (Nat.le_of_ble_eq_true rfl) (Or.inl rfl) ?_
  show Go G cX9_init mX9_init (some (t + 1)) 1 1 60 0 [some (vr t)] [] w K (fun _ _ _ => False)
  refine Go_ald0 dX9_init_0 ?_
  refine Go_objInit dX9_init_1 lkX9_3 (by decide) (Nat.le_of_ble_eq_true rfl) ?_
  refine Go_ald0 dX9_init_4 ?_
  refine Go_bipush dX9_init_5 (by decide +kernel) ?_
  refine Go_newI (n := (t + 1)) (m := (t + 2)) (N := 60) dX9_init_7 hs1 rfl (by decide) (fun k => by (repeat (rw [up_a (by omega)])); exact hz1 k) (Nat.le_of_ble_eq_true rfl) (Nat.le_of_ble_eq_true rfl) ?_
  refine Go_pfF (k := 0) dX9_init_9 flX9_9 hs0 (by omega) rfl rfl (by omega) (fun r h => by cases h; exact ⟨_, tyX9_ok 0 (by decide), fun _ => ⟨rfl, rfl⟩, rfl, rfl⟩) ?_
  refine Go_return dX9_init_12 rfl ?_
  exact k
theorem e_X5_init {t : Nat} (hs0 : SH t = (1, 4)) (hs1 : SH (t + 1) = (2, 100)) (hs2 : SH (t + 2) = (2, 5)) (hz1 : ∀ k, w (t + 1) k = 0) (hz2 : ∀ k, w (t + 2) k = 0) (k : K (vi 0) (some (t + 3)) (up (up w t 0 (((t + 1) : Nat) : Int)) t 1 (((t + 2) : Nat) : Int))) : Ev G yX5_init cX5_init 1 mX5_init (some (t + 1)) 1 2 105 [vr t] w K (fun _ _ _ => False) := by
  refine Ev_intro miX5_init.1 rfl (fun _ => rfl) (allc1 rfl) (Nat.le_of_ble_eq_true rfl) (Or.inl rfl) ?_
  show Go G cX5_init mX5_init (some (t + 1)) 1 2 105 0 [some (vr t)] [] w K (fun _ _ _ => False)
  refine Go_ald0 dX5_init_0 ?_
  refine Go_objInit dX5_init_1 lkX5_3 (by decide) (Nat.le_of_ble_eq_true rfl) ?_
  refine Go_ald0 dX5_init_4 ?_
  refine Go_bipush dX5_init_5 (by decide +kernel) ?_
  refine Go_newI (n := (t + 1)) (m := (t + 2)) (N := 100) dX5_init_7 hs1 rfl (by decide) (fun k => by (repeat (rw [up_a (by omega)])); exact hz1 k) (Nat.le_of_ble_eq_true rfl) (Nat.le_of_ble_eq_true rfl) ?_
  refine Go_pfF (k := 0) dX5_init_9 flX5_9 hs0 (by omega) rfl rfl (by omega) (fun r h => by cases h; exact ⟨_, tyX5_ok 0 (by decide), fun _ => ⟨rfl, rfl⟩, rfl, rfl⟩) ?_
  refine Go_ald0 dX5_init_12 ?_
  refine Go_iconst dX5_init_13 ?_
  refine Go_newI (n := (t + 2)) (m := (t + 3)) (N := 5) dX5_init_14 hs2 rfl (by decide) (fun k => by (repeat (rw [up_a (by omega)])); exact hz2 k) (Nat.le_of_ble_eq_true rfl) (Nat.le_of_ble_eq_true rfl) ?_
  refine Go_pfF (k := 1) dX5_init_16 flX5_15 hs0 (by omega) rfl rfl (by omega) (fun r h => by cases h; exact ⟨_, tyX5_ok 1 (by decide), fun _ => ⟨rfl, rfl⟩, rfl, rfl⟩) ?_
  refine Go_return dX5_init_19 rfl ?_
  exact k
theorem e_X7_init {t : Nat} (hs0 : SH t = (1, 6)) (hs1 : SH (t + 1) = (2, 60)) (hs2 : SH (t + 2) = (2, 60)) (hs3 : SH (t + 3) = (2, 60)) (hs4 : SH (t + 4) = (2, 60)) (hz1 : ∀ k, w (t + 1) k = 0) (hz2 : ∀ k, w (t + 2) k = 0) (hz3 : ∀ k, w (t + 3) k = 0) (hz4 : ∀ k, w (t + 4) k = 0) (k : K (vi 0) (some (t + 5)) (up (up (up (up w t 0 (((t + 1) : Nat) : Int)) t 1 (((t + 2) : Nat) : Int)) t 2 (((t + 3) : Nat) : Int)) t 3 (((t + 4) : Nat) : Int))) : Ev G yX7_init cX7_init 1 mX7_init (some (t + 1)) 1 4 240 [vr t] w K (fun _ _ _ => False) := by
  refine Ev_intro miX7_init.1 rfl (fun _ => rfl) (allc1 rfl) (Nat.le_of_ble_eq_true rfl) (Or.inl rfl) ?_
  show Go G cX7_init mX7_init (some (t + 1)) 1 4 240 0 [some (vr t)] [] w K (fun _ _ _ => False)
  refine Go_ald0 dX7_init_0 ?_
  refine Go_objInit dX7_init_1 lkX7_3 (by decide) (Nat.le_of_ble_eq_true rfl) ?_
  refine Go_ald0 dX7_init_4 ?_
  refine Go_bipush dX7_init_5 (by decide +kernel) ?_
  refine Go_newI (n := (t + 1)) (m := (t + 2)) (N := 60) dX7_init_7 hs1 rfl (by decide) (fun k => by (repeat (rw [up_a (by omega)])); exact hz1 k) (Nat.le_of_ble_eq_true rfl) (Nat.le_of_ble_eq_true rfl) ?_
  refine Go_pfF (k := 0) dX7_init_9 flX7_9 hs0 (by omega) rfl rfl (by omega) (fun r h => by cases h; exact ⟨_, tyX7_ok 0 (by decide), fun _ => ⟨rfl, rfl⟩, rfl, rfl⟩) ?_
  refine Go_ald0 dX7_init_12 ?_
  refine Go_bipush dX7_init_13 (by decide +kernel) ?_
  refine Go_newI (n := (t + 2)) (m := (t + 3)) (N := 60) dX7_init_15 hs2 rfl (by decide) (fun k => by (repeat (rw [up_a (by omega)])); exact hz2 k) (Nat.le_of_ble_eq_true rfl) (Nat.le_of_ble_eq_true rfl) ?_
  refine Go_pfF (k := 1) dX7_init_17 flX7_15 hs0 (by omega) rfl rfl (by omega) (fun r h => by cases h; exact ⟨_, tyX7_ok 1 (by decide), fun _ => ⟨rfl, rfl⟩, rfl, rfl⟩) ?_
  refine Go_ald0 dX7_init_20 ?_
  refine Go_bipush dX7_init_21 (by decide +kernel) ?_
  refine Go_newI (n := (t + 3)) (m := (t + 4)) (N := 60) dX7_init_23 hs3 rfl (by decide) (fun k => by (repeat (rw [up_a (by omega)])); exact hz3 k) (Nat.le_of_ble_eq_true rfl) (Nat.le_of_ble_eq_true rfl) ?_
  refine Go_pfF (k := 2) dX7_init_25 flX7_18 hs0 (by omega) rfl rfl (by omega) (fun r h => by cases h; exact ⟨_, tyX7_ok 2 (by decide), fun _ => ⟨rfl, rfl⟩, rfl, rfl⟩) ?_
  refine Go_ald0 dX7_init_28 ?_
  refine Go_bipush dX7_init_29 (by decide +kernel) ?_
  refine Go_newI (n := (t + 4)) (m := (t + 5)) (N := 60) dX7_init_31 hs4 rfl (by decide) (fun k => by (repeat (rw [up_a (by omega)])); exact hz4 k) (Nat.le_of_ble_eq_true rfl) (Nat.le_of_ble_eq_true rfl) ?_
  refine Go_pfF (k := 3) dX7_init_33 flX7_21 hs0 (by omega) rfl rfl (by omega) (fun r h => by cases h; exact ⟨_, tyX7_ok 3 (by decide), fun _ => ⟨rfl, rfl⟩, rfl, rfl⟩) ?_
  refine Go_return dX7_init_36 rfl ?_
  exact k
def L0 : List (Nat × Nat) := [(3, 4), (14, 0), (3, 3), (12, 0), (3, 2), (10, 0), (3, 1), (8, 0), (3, 0), (6, 0), (2, 6), (2, 5), (2, 0)]
theorem lst0 : ∀ q ∈ L0, q.1 < 16 := by decide
theorem l_J7_fillN {a n m0 : Nat} {x : Int} {X : Xt} (hs : SH a = (2, n)) (hn : n < 2147483648) (ha : a < m0) (k : ∀ w', frm w w' [a] → (∀ j, j < n → w' a j = x) → K (vi 0) (some m0) w') :
    ∀ (m i : Nat) (w1 : Wd), i + m = n → frm w w1 [a] → (∀ j, j < i → w1 a j = x) → Go G cJ7_fill_53178 mJ7_fill_53178 (some m0) 0 0 0 5 [some (vr a), some (vi x), some (vi (i : Int)), some (vi (n : Int))] [] w1 K X := by
  intro m
  induction m with
  | zero =>
    intro i w1 him f1 h1
    refine Go_ild2 dJ7_fill_53178_5 ?_
    refine Go_ild3 dJ7_fill_53178_6 ?_
    refine Go_icmp_ge (tgt := 20) dJ7_fill_53178_7 (by decide) (by constructor <;> omega) (by constructor <;> omega) (fun h7 => ?_) (fun h7 => by omega)
    refine Go_return dJ7_fill_53178_20 rfl ?_
    exact k w1 f1 (fun j hj => h1 j (by omega))
  | succ m ih =>
    intro i w1 him f1 h1
    refine Go_ild2 dJ7_fill_53178_5 ?_
    refine Go_ild3 dJ7_fill_53178_6 ?_
    refine Go_icmp_ge (tgt := 20) dJ7_fill_53178_7 (by decide) (by constructor <;> omega) (by constructor <;> omega) (fun h7 => by omega) (fun h7 => ?_)
    refine Go_ald0 dJ7_fill_53178_10 ?_
    refine Go_ild2 dJ7_fill_53178_11 ?_
    refine Go_ild1 dJ7_fill_53178_12 ?_
    refine Go_iast dJ7_fill_53178_13 hs ha (by omega) (by omega) hn ?_
    refine Go_inc2 dJ7_fill_53178_14 rfl ?_
    refine Go_goto (tgt := 5) dJ7_fill_53178_17 (by decide) ?_
    rw [show (i : Int) + 1 = ((i + 1 : Nat) : Int) by omega]
    refine ih (i + 1) _ (by omega) (f1.up (by simp)) (fun j hj => ?_)
    rw [Int.toNat_natCast]
    by_cases q : j = i
    · subst q; rw [up_s]
    · rw [up_k q]; exact h1 j (by omega)
theorem e_J7_fillN {a n m0 : Nat} {x : Int} {X : Xt} (hs : SH a = (2, n)) (hn : n < 2147483648) (ha : a < m0) (k : ∀ w', frm w w' [a] → (∀ j, j < n → w' a j = x) → K (vi 0) (some m0) w') : Ev G yJ7_fill_53178 cJ7_fill_53178 4 mJ7_fill_53178 (some m0) 0 0 0 [vr a, vi x] w K X := by
  refine Ev_intro msJ7_fill_53178.1 rfl (fun h => by cases h) (allc1 rfl) (Nat.le_of_ble_eq_true rfl) (Or.inl rfl) ?_
  show Go G cJ7_fill_53178 mJ7_fill_53178 (some m0) 0 0 0 0 [some (vr a), some (vi x), none, none] [] w K X
  refine Go_iconst dJ7_fill_53178_0 ?_
  refine Go_ist2 dJ7_fill_53178_1 rfl ?_
  refine Go_ald0 dJ7_fill_53178_2 ?_
  refine Go_alen2 dJ7_fill_53178_3 hs ha ?_
  refine Go_ist3 dJ7_fill_53178_4 rfl ?_
  exact l_J7_fillN hs hn ha k n 0 w (by omega) frm.rfl (fun j hj => absurd hj (by omega))
theorem e_X0_init (k : ∀ w', STG L0 true w' → K (vi 0) (some 16) w') : Ev G yX0_init cX0_init 2 mX0_init (some 3) 2 13 515 [vr 2] w00 K (fun _ _ _ => False) := by
  refine Ev_intro miX0_init.1 rfl (fun _ => rfl) (allc1 rfl) (Nat.le_of_ble_eq_true rfl) (Or.inl rfl) ?_
  show Go G cX0_init mX0_init (some 3) 2 13 515 0 [some (vr 2), none] [] w00 K (fun _ _ _ => False)
  have hz : ∀ a k : Nat, 3 ≤ a → w00 a k = 0 := fun _ _ _ => rfl
  refine Go_ald0 dX0_init_0 ?_
  refine Go_objInit dX0_init_1 lkX0_3 (by decide) (Nat.le_of_ble_eq_true rfl) ?_
  refine Go_ald0 dX0_init_4 ?_
  refine Go_iconst dX0_init_5 ?_
  refine Go_anew5 (n := 3) (m := 4) (N := 5) dX0_init_6 clX0_9 rfl rfl (by decide) (fun k => by (repeat (rw [up_a (by decide)])); exact hz _ _ (by decide)) (Nat.le_of_ble_eq_true rfl) (Nat.le_of_ble_eq_true rfl) ?_
  refine Go_pfF (k := 0) dX0_init_9 flX0_11 rfl (by decide) rfl rfl (by decide) (fun r h => by cases h; exact ⟨_, tyX0_ok 0 (by decide), fun _ => ⟨rfl, rfl⟩, rfl, rfl⟩) ?_
  refine Go_ald0 dX0_init_12 ?_
  refine Go_bipush dX0_init_13 (by decide +kernel) ?_
  refine Go_newI (n := 4) (m := 5) (N := 100) dX0_init_15 rfl rfl (by decide) (fun k => by (repeat (rw [up_a (by decide)])); exact hz _ _ (by decide)) (Nat.le_of_ble_eq_true rfl) (Nat.le_of_ble_eq_true rfl) ?_
  refine Go_pfF (k := 5) dX0_init_17 flX0_17 rfl (by decide) rfl rfl (by decide) (fun r h => by cases h; exact ⟨_, tyX0_ok 5 (by decide), fun _ => ⟨rfl, rfl⟩, rfl, rfl⟩) ?_
  refine Go_ald0 dX0_init_20 ?_
  refine Go_bipush dX0_init_21 (by decide +kernel) ?_
  refine Go_newI (n := 5) (m := 6) (N := 100) dX0_init_23 rfl rfl (by decide) (fun k => by (repeat (rw [up_a (by decide)])); exact hz _ _ (by decide)) (Nat.le_of_ble_eq_true rfl) (Nat.le_of_ble_eq_true rfl) ?_
  refine Go_pfF (k := 6) dX0_init_25 flX0_21 rfl (by decide) rfl rfl (by decide) (fun r h => by cases h; exact ⟨_, tyX0_ok 6 (by decide), fun _ => ⟨rfl, rfl⟩, rfl, rfl⟩) ?_
  refine Go_iconst dX0_init_28 ?_
  refine Go_ist1 dX0_init_29 rfl ?_
  refine Go_ild1 dX0_init_30 ?_
  refine Go_iconst dX0_init_31 ?_
  refine Go_icmp_ge (tgt := 54) dX0_init_32 (by decide) (by constructor <;> omega) (by constructor <;> omega) (fun hq => by omega) (fun _ => ?_)
  refine Go_ald0 dX0_init_35 ?_
  refine Go_gfR (b := 3) dX0_init_36 flX0_11 rfl (by decide) rfl (by first | (simp [up]; done) | (rw [f1.at (by decide)]; simp [up]; done)) (by decide) ?_
  refine Go_ild1 dX0_init_39 ?_
  refine Go_new (n := 6) (m := 7) (ci := 8) (T := TX9) dX0_init_40 clX0_9 itX9 gi_RX9 rfl tyX9 tyX9_ok lys8 df8 rfl rfl (fun k => by (repeat (rw [up_a (by decide)])); exact hz _ _ (by decide)) (Nat.le_of_ble_eq_true rfl) (Nat.le_of_ble_eq_true rfl) ?_
  refine Go_dup dX0_init_43 ?_
  refine Go_callIN (d' := 1) (bc' := 1) (bs' := 60) rfl dX0_init_44 miX9_init rfl (List.mem_of_getElem? (i := 0) rfl) (Nat.le_of_ble_eq_true rfl) (by decide) (by decide) (by decide) ?_
  refine e_X9_init (t := 6) rfl rfl (fun k => by (repeat (rw [up_a (by decide)])); exact hz _ _ (by decide)) ?_
  refine Go_aast5 dX0_init_47 rfl rfl (show _ < _ by decide) (show _ < _ by decide) (by decide) (by decide) (by decide) ?_
  rw [show (0 : Int).toNat = 0 from rfl]
  refine Go_inc1 dX0_init_48 rfl ?_
  rw [show (0 : Int) + 1 = 1 from rfl]
  refine Go_goto (tgt := 30) dX0_init_51 (by decide) ?_
  refine Go_ild1 dX0_init_30 ?_
  refine Go_iconst dX0_init_31 ?_
  refine Go_icmp_ge (tgt := 54) dX0_init_32 (by decide) (by constructor <;> omega) (by constructor <;> omega) (fun hq => by omega) (fun _ => ?_)
  refine Go_ald0 dX0_init_35 ?_
  refine Go_gfR (b := 3) dX0_init_36 flX0_11 rfl (by decide) rfl (by first | (simp [up]; done) | (rw [f1.at (by decide)]; simp [up]; done)) (by decide) ?_
  refine Go_ild1 dX0_init_39 ?_
  refine Go_new (n := 8) (m := 9) (ci := 8) (T := TX9) dX0_init_40 clX0_9 itX9 gi_RX9 rfl tyX9 tyX9_ok lys8 df8 rfl rfl (fun k => by (repeat (rw [up_a (by decide)])); exact hz _ _ (by decide)) (Nat.le_of_ble_eq_true rfl) (Nat.le_of_ble_eq_true rfl) ?_
  refine Go_dup dX0_init_43 ?_
  refine Go_callIN (d' := 1) (bc' := 1) (bs' := 60) rfl dX0_init_44 miX9_init rfl (List.mem_of_getElem? (i := 0) rfl) (Nat.le_of_ble_eq_true rfl) (by decide) (by decide) (by decide) ?_
  refine e_X9_init (t := 8) rfl rfl (fun k => by (repeat (rw [up_a (by decide)])); exact hz _ _ (by decide)) ?_
  refine Go_aast5 dX0_init_47 rfl rfl (show _ < _ by decide) (show _ < _ by decide) (by decide) (by decide) (by decide) ?_
  rw [show (1 : Int).toNat = 1 from rfl]
  refine Go_inc1 dX0_init_48 rfl ?_
  rw [show (1 : Int) + 1 = 2 from rfl]
  refine Go_goto (tgt := 30) dX0_init_51 (by decide) ?_
  refine Go_ild1 dX0_init_30 ?_
  refine Go_iconst dX0_init_31 ?_
  refine Go_icmp_ge (tgt := 54) dX0_init_32 (by decide) (by constructor <;> omega) (by constructor <;> omega) (fun hq => by omega) (fun _ => ?_)
  refine Go_ald0 dX0_init_35 ?_
  refine Go_gfR (b := 3) dX0_init_36 flX0_11 rfl (by decide) rfl (by first | (simp [up]; done) | (rw [f1.at (by decide)]; simp [up]; done)) (by decide) ?_
  refine Go_ild1 dX0_init_39 ?_
  refine Go_new (n := 10) (m := 11) (ci := 8) (T := TX9) dX0_init_40 clX0_9 itX9 gi_RX9 rfl tyX9 tyX9_ok lys8 df8 rfl rfl (fun k => by (repeat (rw [up_a (by decide)])); exact hz _ _ (by decide)) (Nat.le_of_ble_eq_true rfl) (Nat.le_of_ble_eq_true rfl) ?_
  refine Go_dup dX0_init_43 ?_
  refine Go_callIN (d' := 1) (bc' := 1) (bs' := 60) rfl dX0_init_44 miX9_init rfl (List.mem_of_getElem? (i := 0) rfl) (Nat.le_of_ble_eq_true rfl) (by decide) (by decide) (by decide) ?_
  refine e_X9_init (t := 10) rfl rfl (fun k => by (repeat (rw [up_a (by decide)])); exact hz _ _ (by decide)) ?_
  refine Go_aast5 dX0_init_47 rfl rfl (show _ < _ by decide) (show _ < _ by decide) (by decide) (by decide) (by decide) ?_
  rw [show (2 : Int).toNat = 2 from rfl]
  refine Go_inc1 dX0_init_48 rfl ?_
  rw [show (2 : Int) + 1 = 3 from rfl]
  refine Go_goto (tgt := 30) dX0_init_51 (by decide) ?_
  refine Go_ild1 dX0_init_30 ?_
  refine Go_iconst dX0_init_31 ?_
  refine Go_icmp_ge (tgt := 54) dX0_init_32 (by decide) (by constructor <;> omega) (by constructor <;> omega) (fun hq => by omega) (fun _ => ?_)
  refine Go_ald0 dX0_init_35 ?_
  refine Go_gfR (b := 3) dX0_init_36 flX0_11 rfl (by decide) rfl (by first | (simp [up]; done) | (rw [f1.at (by decide)]; simp [up]; done)) (by decide) ?_
  refine Go_ild1 dX0_init_39 ?_
  refine Go_new (n := 12) (m := 13) (ci := 8) (T := TX9) dX0_init_40 clX0_9 itX9 gi_RX9 rfl tyX9 tyX9_ok lys8 df8 rfl rfl (fun k => by (repeat (rw [up_a (by decide)])); exact hz _ _ (by decide)) (Nat.le_of_ble_eq_true rfl) (Nat.le_of_ble_eq_true rfl) ?_
  refine Go_dup dX0_init_43 ?_
  refine Go_callIN (d' := 1) (bc' := 1) (bs' := 60) rfl dX0_init_44 miX9_init rfl (List.mem_of_getElem? (i := 0) rfl) (Nat.le_of_ble_eq_true rfl) (by decide) (by decide) (by decide) ?_
  refine e_X9_init (t := 12) rfl rfl (fun k => by (repeat (rw [up_a (by decide)])); exact hz _ _ (by decide)) ?_
  refine Go_aast5 dX0_init_47 rfl rfl (show _ < _ by decide) (show _ < _ by decide) (by decide) (by decide) (by decide) ?_
  rw [show (3 : Int).toNat = 3 from rfl]
  refine Go_inc1 dX0_init_48 rfl ?_
  rw [show (3 : Int) + 1 = 4 from rfl]
  refine Go_goto (tgt := 30) dX0_init_51 (by decide) ?_
  refine Go_ild1 dX0_init_30 ?_
  refine Go_iconst dX0_init_31 ?_
  refine Go_icmp_ge (tgt := 54) dX0_init_32 (by decide) (by constructor <;> omega) (by constructor <;> omega) (fun hq => by omega) (fun _ => ?_)
  refine Go_ald0 dX0_init_35 ?_
  refine Go_gfR (b := 3) dX0_init_36 flX0_11 rfl (by decide) rfl (by first | (simp [up]; done) | (rw [f1.at (by decide)]; simp [up]; done)) (by decide) ?_
  refine Go_ild1 dX0_init_39 ?_
  refine Go_new (n := 14) (m := 15) (ci := 8) (T := TX9) dX0_init_40 clX0_9 itX9 gi_RX9 rfl tyX9 tyX9_ok lys8 df8 rfl rfl (fun k => by (repeat (rw [up_a (by decide)])); exact hz _ _ (by decide)) (Nat.le_of_ble_eq_true rfl) (Nat.le_of_ble_eq_true rfl) ?_
  refine Go_dup dX0_init_43 ?_
  refine Go_callIN (d' := 1) (bc' := 1) (bs' := 60) rfl dX0_init_44 miX9_init rfl (List.mem_of_getElem? (i := 0) rfl) (Nat.le_of_ble_eq_true rfl) (by decide) (by decide) (by decide) ?_
  refine e_X9_init (t := 14) rfl rfl (fun k => by (repeat (rw [up_a (by decide)])); exact hz _ _ (by decide)) ?_
  refine Go_aast5 dX0_init_47 rfl rfl (show _ < _ by decide) (show _ < _ by decide) (by decide) (by decide) (by decide) ?_
  rw [show (4 : Int).toNat = 4 from rfl]
  refine Go_inc1 dX0_init_48 rfl ?_
  rw [show (4 : Int) + 1 = 5 from rfl]
  refine Go_goto (tgt := 30) dX0_init_51 (by decide) ?_
  refine Go_ild1 dX0_init_30 ?_
  refine Go_iconst dX0_init_31 ?_
  refine Go_icmp_ge (tgt := 54) dX0_init_32 (by decide) (by constructor <;> omega) (by constructor <;> omega) (fun _ => ?_) (fun hq => by omega)
  refine Go_ald0 dX0_init_54 ?_
  refine Go_gfR (b := 4) dX0_init_55 flX0_17 rfl (by decide) rfl (by first | (simp [up]; done) | (rw [f1.at (by decide)]; simp [up]; done)) (by decide) ?_
  refine Go_iconst dX0_init_58 ?_
  refine Go_cSv2 (d' := 0) (bc' := 0) (bs' := 0) rfl dX0_init_59 msJ7_fill_53178 rfl lkX0_25 (by decide) (by decide) (by decide) (Nat.le_of_ble_eq_true rfl) ?_
  refine e_J7_fillN (n := 100) (m0 := 16) rfl (by decide) (by decide) (fun v1 f1 g1 => ?_)
  refine Go_ald0 dX0_init_62 ?_
  refine Go_gfR (b := 5) dX0_init_63 flX0_21 rfl (by decide) rfl (by first | (simp [up]; done) | (rw [f1.at (by decide)]; simp [up]; done)) (by decide) ?_
  refine Go_iconst dX0_init_66 ?_
  refine Go_cSv2 (d' := 0) (bc' := 0) (bs' := 0) rfl dX0_init_67 msJ7_fill_53178 rfl lkX0_25 (by decide) (by decide) (by decide) (Nat.le_of_ble_eq_true rfl) ?_
  refine e_J7_fillN (n := 100) (m0 := 16) rfl (by decide) (by decide) (fun v2 f2 g2 => ?_)
  refine Go_return dX0_init_70 rfl ?_
  have g0 : STG L0 false _ := (((((((((((((STG.nil.set_ (a := 2) (k := 0) (b := 3) rfl (by decide)).set_ (a := 2) (k := 5) (b := 4) rfl (by decide)).set_ (a := 2) (k := 6) (b := 5) rfl (by decide)).set_ (a := 6) (k := 0) (b := 7) rfl (by decide)).set_ (a := 3) (k := 0) (b := 6) rfl (by decide)).set_ (a := 8) (k := 0) (b := 9) rfl (by decide)).set_ (a := 3) (k := 1) (b := 8) rfl (by decide)).set_ (a := 10) (k := 0) (b := 11) rfl (by decide)).set_ (a := 3) (k := 2) (b := 10) rfl (by decide)).set_ (a := 12) (k := 0) (b := 13) rfl (by decide)).set_ (a := 3) (k := 3) (b := 12) rfl (by decide)).set_ (a := 14) (k := 0) (b := 15) rfl (by decide)).set_ (a := 3) (k := 4) (b := 14) rfl (by decide))
  exact k _ (g0.fill (w' := v2) ((f1.mono (by simp)).trans f2 (by simp)) rfl (fun t ht => ⟨by rw [f2.at (by decide)]; exact g1 t ht, g2 t ht⟩))
theorem e_X1_init (hz : ∀ a k, 17 ≤ a → w a k = 0) (k : K (vi 0) (some 36) (up (up (up (up (up (up (up (up (up (up (up (up (up (up (up (up (up (up (up w 16 0 ((17 : Nat) : Int)) 18 0 ((19 : Nat) : Int)) 18 1 ((20 : Nat) : Int)) 17 0 ((18 : Nat) : Int)) 21 0 ((22 : Nat) : Int)) 21 1 ((23 : Nat) : Int)) 17 1 ((21 : Nat) : Int)) 24 0 ((25 : Nat) : Int)) 24 1 ((26 : Nat) : Int)) 17 2 ((24 : Nat) : Int)) 27 0 ((28 : Nat) : Int)) 27 1 ((29 : Nat) : Int)) 17 3 ((27 : Nat) : Int)) 30 0 ((31 : Nat) : Int)) 30 1 ((32 : Nat) : Int)) 17 4 ((30 : Nat) : Int)) 33 0 ((34 : Nat) : Int)) 33 1 ((35 : Nat) : Int)) 17 5 ((33 : Nat) : Int))) : Ev G yX1_init cX1_init 2 mX1_init (some 17) 2 19 672 [vr 16] w K (fun _ _ _ => False) := by
  refine Ev_intro miX1_init.1 rfl (fun _ => rfl) (allc1 rfl) (Nat.le_of_ble_eq_true rfl) (Or.inl rfl) ?_
  show Go G cX1_init mX1_init (some 17) 2 19 672 0 [some (vr 16), none] [] w K (fun _ _ _ => False)
  refine Go_ald0 dX1_init_0 ?_
  refine Go_objInit dX1_init_1 lkX1_3 (by decide) (Nat.le_of_ble_eq_true rfl) ?_
  refine Go_ald0 dX1_init_4 ?_
  refine Go_bipush dX1_init_5 (by decide +kernel) ?_
  refine Go_anew6 (n := 17) (m := 18) (N := 6) dX1_init_7 clX1_9 rfl rfl (by decide) (fun k => by (repeat (rw [up_a (by decide)])); exact hz _ _ (by decide)) (Nat.le_of_ble_eq_true rfl) (Nat.le_of_ble_eq_true rfl) ?_
  refine Go_pfF (k := 0) dX1_init_10 flX1_11 rfl (by decide) rfl rfl (by decide) (fun r h => by cases h; exact ⟨_, tyX1_ok 0 (by decide), fun _ => ⟨rfl, rfl⟩, rfl, rfl⟩) ?_
  refine Go_iconst dX1_init_13 ?_
  refine Go_ist1 dX1_init_14 rfl ?_
  refine Go_ild1 dX1_init_15 ?_
  refine Go_bipush dX1_init_16 (by decide +kernel) ?_
  refine Go_icmp_ge (tgt := 40) dX1_init_18 (by decide) (by constructor <;> omega) (by constructor <;> omega) (fun hq => by omega) (fun _ => ?_)
  refine Go_ald0 dX1_init_21 ?_
  refine Go_gfR (b := 17) dX1_init_22 flX1_11 rfl (by decide) rfl (by first | (simp [up]; done) | (rw [f1.at (by decide)]; simp [up]; done)) (by decide) ?_
  refine Go_ild1 dX1_init_25 ?_
  refine Go_new (n := 18) (m := 19) (ci := 4) (T := TX5) dX1_init_26 clX1_9 itX5 gi_RX5 rfl tyX5 tyX5_ok lys4 df4 rfl rfl (fun k => by (repeat (rw [up_a (by decide)])); exact hz _ _ (by decide)) (Nat.le_of_ble_eq_true rfl) (Nat.le_of_ble_eq_true rfl) ?_
  refine Go_dup dX1_init_29 ?_
  refine Go_callIN (d' := 1) (bc' := 2) (bs' := 105) rfl dX1_init_30 miX5_init rfl (List.mem_of_getElem? (i := 1) rfl) (Nat.le_of_ble_eq_true rfl) (by decide) (by decide) (by decide) ?_
  refine e_X5_init (t := 18) rfl rfl rfl (fun k => by (repeat (rw [up_a (by decide)])); exact hz _ _ (by decide)) (fun k => by (repeat (rw [up_a (by decide)])); exact hz _ _ (by decide)) ?_
  refine Go_aast6 dX1_init_33 rfl rfl (by decide) (by decide) (by decide) (by decide) (by decide) ?_
  rw [show (0 : Int).toNat = 0 from rfl]
  refine Go_inc1 dX1_init_34 rfl ?_
  rw [show (0 : Int) + 1 = 1 from rfl]
  refine Go_goto (tgt := 15) dX1_init_37 (by decide) ?_
  refine Go_ild1 dX1_init_15 ?_
  refine Go_bipush dX1_init_16 (by decide +kernel) ?_
  refine Go_icmp_ge (tgt := 40) dX1_init_18 (by decide) (by constructor <;> omega) (by constructor <;> omega) (fun hq => by omega) (fun _ => ?_)
  refine Go_ald0 dX1_init_21 ?_
  refine Go_gfR (b := 17) dX1_init_22 flX1_11 rfl (by decide) rfl (by first | (simp [up]; done) | (rw [f1.at (by decide)]; simp [up]; done)) (by decide) ?_
  refine Go_ild1 dX1_init_25 ?_
  refine Go_new (n := 21) (m := 22) (ci := 4) (T := TX5) dX1_init_26 clX1_9 itX5 gi_RX5 rfl tyX5 tyX5_ok lys4 df4 rfl rfl (fun k => by (repeat (rw [up_a (by decide)])); exact hz _ _ (by decide)) (Nat.le_of_ble_eq_true rfl) (Nat.le_of_ble_eq_true rfl) ?_
  refine Go_dup dX1_init_29 ?_
  refine Go_callIN (d' := 1) (bc' := 2) (bs' := 105) rfl dX1_init_30 miX5_init rfl (List.mem_of_getElem? (i := 1) rfl) (Nat.le_of_ble_eq_true rfl) (by decide) (by decide) (by decide) ?_
  refine e_X5_init (t := 21) rfl rfl rfl (fun k => by (repeat (rw [up_a (by decide)])); exact hz _ _ (by decide)) (fun k => by (repeat (rw [up_a (by decide)])); exact hz _ _ (by decide)) ?_
  refine Go_aast6 dX1_init_33 rfl rfl (by decide) (by decide) (by decide) (by decide) (by decide) ?_
  rw [show (1 : Int).toNat = 1 from rfl]
  refine Go_inc1 dX1_init_34 rfl ?_
  rw [show (1 : Int) + 1 = 2 from rfl]
  refine Go_goto (tgt := 15) dX1_init_37 (by decide) ?_
  refine Go_ild1 dX1_init_15 ?_
  refine Go_bipush dX1_init_16 (by decide +kernel) ?_
  refine Go_icmp_ge (tgt := 40) dX1_init_18 (by decide) (by constructor <;> omega) (by constructor <;> omega) (fun hq => by omega) (fun _ => ?_)
  refine Go_ald0 dX1_init_21 ?_
  refine Go_gfR (b := 17) dX1_init_22 flX1_11 rfl (by decide) rfl (by first | (simp [up]; done) | (rw [f1.at (by decide)]; simp [up]; done)) (by decide) ?_
  refine Go_ild1 dX1_init_25 ?_
  refine Go_new (n := 24) (m := 25) (ci := 4) (T := TX5) dX1_init_26 clX1_9 itX5 gi_RX5 rfl tyX5 tyX5_ok lys4 df4 rfl rfl (fun k => by (repeat (rw [up_a (by decide)])); exact hz _ _ (by decide)) (Nat.le_of_ble_eq_true rfl) (Nat.le_of_ble_eq_true rfl) ?_
  refine Go_dup dX1_init_29 ?_
  refine Go_callIN (d' := 1) (bc' := 2) (bs' := 105) rfl dX1_init_30 miX5_init rfl (List.mem_of_getElem? (i := 1) rfl) (Nat.le_of_ble_eq_true rfl) (by decide) (by decide) (by decide) ?_
  refine e_X5_init (t := 24) rfl rfl rfl (fun k => by (repeat (rw [up_a (by decide)])); exact hz _ _ (by decide)) (fun k => by (repeat (rw [up_a (by decide)])); exact hz _ _ (by decide)) ?_
  refine Go_aast6 dX1_init_33 rfl rfl (by decide) (by decide) (by decide) (by decide) (by decide) ?_
  rw [show (2 : Int).toNat = 2 from rfl]
  refine Go_inc1 dX1_init_34 rfl ?_
  rw [show (2 : Int) + 1 = 3 from rfl]
  refine Go_goto (tgt := 15) dX1_init_37 (by decide) ?_
  refine Go_ild1 dX1_init_15 ?_
  refine Go_bipush dX1_init_16 (by decide +kernel) ?_
  refine Go_icmp_ge (tgt := 40) dX1_init_18 (by decide) (by constructor <;> omega) (by constructor <;> omega) (fun hq => by omega) (fun _ => ?_)
  refine Go_ald0 dX1_init_21 ?_
  refine Go_gfR (b := 17) dX1_init_22 flX1_11 rfl (by decide) rfl (by first | (simp [up]; done) | (rw [f1.at (by decide)]; simp [up]; done)) (by decide) ?_
  refine Go_ild1 dX1_init_25 ?_
  refine Go_new (n := 27) (m := 28) (ci := 4) (T := TX5) dX1_init_26 clX1_9 itX5 gi_RX5 rfl tyX5 tyX5_ok lys4 df4 rfl rfl (fun k => by (repeat (rw [up_a (by decide)])); exact hz _ _ (by decide)) (Nat.le_of_ble_eq_true rfl) (Nat.le_of_ble_eq_true rfl) ?_
  refine Go_dup dX1_init_29 ?_
  refine Go_callIN (d' := 1) (bc' := 2) (bs' := 105) rfl dX1_init_30 miX5_init rfl (List.mem_of_getElem? (i := 1) rfl) (Nat.le_of_ble_eq_true rfl) (by decide) (by decide) (by decide) ?_
  refine e_X5_init (t := 27) rfl rfl rfl (fun k => by (repeat (rw [up_a (by decide)])); exact hz _ _ (by decide)) (fun k => by (repeat (rw [up_a (by decide)])); exact hz _ _ (by decide)) ?_
  refine Go_aast6 dX1_init_33 rfl rfl (by decide) (by decide) (by decide) (by decide) (by decide) ?_
  rw [show (3 : Int).toNat = 3 from rfl]
  refine Go_inc1 dX1_init_34 rfl ?_
  rw [show (3 : Int) + 1 = 4 from rfl]
  refine Go_goto (tgt := 15) dX1_init_37 (by decide) ?_
  refine Go_ild1 dX1_init_15 ?_
  refine Go_bipush dX1_init_16 (by decide +kernel) ?_
  refine Go_icmp_ge (tgt := 40) dX1_init_18 (by decide) (by constructor <;> omega) (by constructor <;> omega) (fun hq => by omega) (fun _ => ?_)
  refine Go_ald0 dX1_init_21 ?_
  refine Go_gfR (b := 17) dX1_init_22 flX1_11 rfl (by decide) rfl (by first | (simp [up]; done) | (rw [f1.at (by decide)]; simp [up]; done)) (by decide) ?_
  refine Go_ild1 dX1_init_25 ?_
  refine Go_new (n := 30) (m := 31) (ci := 4) (T := TX5) dX1_init_26 clX1_9 itX5 gi_RX5 rfl tyX5 tyX5_ok lys4 df4 rfl rfl (fun k => by (repeat (rw [up_a (by decide)])); exact hz _ _ (by decide)) (Nat.le_of_ble_eq_true rfl) (Nat.le_of_ble_eq_true rfl) ?_
  refine Go_dup dX1_init_29 ?_
  refine Go_callIN (d' := 1) (bc' := 2) (bs' := 105) rfl dX1_init_30 miX5_init rfl (List.mem_of_getElem? (i := 1) rfl) (Nat.le_of_ble_eq_true rfl) (by decide) (by decide) (by decide) ?_
  refine e_X5_init (t := 30) rfl rfl rfl (fun k => by (repeat (rw [up_a (by decide)])); exact hz _ _ (by decide)) (fun k => by (repeat (rw [up_a (by decide)])); exact hz _ _ (by decide)) ?_
  refine Go_aast6 dX1_init_33 rfl rfl (by decide) (by decide) (by decide) (by decide) (by decide) ?_
  rw [show (4 : Int).toNat = 4 from rfl]
  refine Go_inc1 dX1_init_34 rfl ?_
  rw [show (4 : Int) + 1 = 5 from rfl]
  refine Go_goto (tgt := 15) dX1_init_37 (by decide) ?_
  refine Go_ild1 dX1_init_15 ?_
  refine Go_bipush dX1_init_16 (by decide +kernel) ?_
  refine Go_icmp_ge (tgt := 40) dX1_init_18 (by decide) (by constructor <;> omega) (by constructor <;> omega) (fun hq => by omega) (fun _ => ?_)
  refine Go_ald0 dX1_init_21 ?_
  refine Go_gfR (b := 17) dX1_init_22 flX1_11 rfl (by decide) rfl (by first | (simp [up]; done) | (rw [f1.at (by decide)]; simp [up]; done)) (by decide) ?_
  refine Go_ild1 dX1_init_25 ?_
  refine Go_new (n := 33) (m := 34) (ci := 4) (T := TX5) dX1_init_26 clX1_9 itX5 gi_RX5 rfl tyX5 tyX5_ok lys4 df4 rfl rfl (fun k => by (repeat (rw [up_a (by decide)])); exact hz _ _ (by decide)) (Nat.le_of_ble_eq_true rfl) (Nat.le_of_ble_eq_true rfl) ?_
  refine Go_dup dX1_init_29 ?_
  refine Go_callIN (d' := 1) (bc' := 2) (bs' := 105) rfl dX1_init_30 miX5_init rfl (List.mem_of_getElem? (i := 1) rfl) (Nat.le_of_ble_eq_true rfl) (by decide) (by decide) (by decide) ?_
  refine e_X5_init (t := 33) rfl rfl rfl (fun k => by (repeat (rw [up_a (by decide)])); exact hz _ _ (by decide)) (fun k => by (repeat (rw [up_a (by decide)])); exact hz _ _ (by decide)) ?_
  refine Go_aast6 dX1_init_33 rfl rfl (by decide) (by decide) (by decide) (by decide) (by decide) ?_
  rw [show (5 : Int).toNat = 5 from rfl]
  refine Go_inc1 dX1_init_34 rfl ?_
  rw [show (5 : Int) + 1 = 6 from rfl]
  refine Go_goto (tgt := 15) dX1_init_37 (by decide) ?_
  refine Go_ild1 dX1_init_15 ?_
  refine Go_bipush dX1_init_16 (by decide +kernel) ?_
  refine Go_icmp_ge (tgt := 40) dX1_init_18 (by decide) (by constructor <;> omega) (by constructor <;> omega) (fun _ => ?_) (fun hq => by omega)
  refine Go_return dX1_init_40 rfl ?_
  exact k
theorem e_X8_init (hz : ∀ a k, 37 ≤ a → w a k = 0) (k : K (vi 0) (some 45) (up (up (up (up (up (up (up (up w 36 0 ((37 : Nat) : Int)) 36 1 ((38 : Nat) : Int)) 39 0 ((40 : Nat) : Int)) 39 1 ((41 : Nat) : Int)) 37 0 ((39 : Nat) : Int)) 42 0 ((43 : Nat) : Int)) 42 1 ((44 : Nat) : Int)) 37 1 ((42 : Nat) : Int))) : Ev G yX8_init cX8_init 2 mX8_init (some 37) 2 8 226 [vr 36] w K (fun _ _ _ => False) := by
  refine Ev_intro miX8_init.1 rfl (fun _ => rfl) (allc1 rfl) (Nat.le_of_ble_eq_true rfl) (Or.inl rfl) ?_
  show Go G cX8_init mX8_init (some 37) 2 8 226 0 [some (vr 36), none] [] w K (fun _ _ _ => False)
  refine Go_ald0 dX8_init_0 ?_
  refine Go_objInit dX8_init_1 lkX8_3 (by decide) (Nat.le_of_ble_eq_true rfl) ?_
  refine Go_ald0 dX8_init_4 ?_
  refine Go_iconst dX8_init_5 ?_
  refine Go_anew6 (n := 37) (m := 38) (N := 2) dX8_init_6 clX8_9 rfl rfl (by decide) (fun k => by (repeat (rw [up_a (by decide)])); exact hz _ _ (by decide)) (Nat.le_of_ble_eq_true rfl) (Nat.le_of_ble_eq_true rfl) ?_
  refine Go_pfF (k := 0) dX8_init_9 flX8_11 rfl (by decide) rfl rfl (by decide) (fun r h => by cases h; exact ⟨_, tyX8_ok 0 (by decide), fun _ => ⟨rfl, rfl⟩, rfl, rfl⟩) ?_
  refine Go_ald0 dX8_init_12 ?_
  refine Go_iconst dX8_init_13 ?_
  refine Go_newZ (n := 38) (m := 39) (N := 2) dX8_init_14 rfl rfl (by decide) (fun k => by (repeat (rw [up_a (by decide)])); exact hz _ _ (by decide)) (Nat.le_of_ble_eq_true rfl) (Nat.le_of_ble_eq_true rfl) ?_
  refine Go_pfF (k := 1) dX8_init_16 flX8_17 rfl (by decide) rfl rfl (by decide) (fun r h => by cases h; exact ⟨_, tyX8_ok 1 (by decide), fun _ => ⟨rfl, rfl⟩, rfl, rfl⟩) ?_
  refine Go_iconst dX8_init_19 ?_
  refine Go_ist1 dX8_init_20 rfl ?_
  refine Go_ild1 dX8_init_21 ?_
  refine Go_iconst dX8_init_22 ?_
  refine Go_icmp_ge (tgt := 45) dX8_init_23 (by decide) (by constructor <;> omega) (by constructor <;> omega) (fun hq => by omega) (fun _ => ?_)
  refine Go_ald0 dX8_init_26 ?_
  refine Go_gfR (b := 37) dX8_init_27 flX8_11 rfl (by decide) rfl (by first | (simp [up]; done) | (rw [f1.at (by decide)]; simp [up]; done)) (by decide) ?_
  refine Go_ild1 dX8_init_30 ?_
  refine Go_new (n := 39) (m := 40) (ci := 4) (T := TX5) dX8_init_31 clX8_9 itX5 gi_RX5 rfl tyX5 tyX5_ok lys4 df4 rfl rfl (fun k => by (repeat (rw [up_a (by decide)])); exact hz _ _ (by decide)) (Nat.le_of_ble_eq_true rfl) (Nat.le_of_ble_eq_true rfl) ?_
  refine Go_dup dX8_init_34 ?_
  refine Go_callIN (d' := 1) (bc' := 2) (bs' := 105) rfl dX8_init_35 miX5_init rfl (List.mem_of_getElem? (i := 2) rfl) (Nat.le_of_ble_eq_true rfl) (by decide) (by decide) (by decide) ?_
  refine e_X5_init (t := 39) rfl rfl rfl (fun k => by (repeat (rw [up_a (by decide)])); exact hz _ _ (by decide)) (fun k => by (repeat (rw [up_a (by decide)])); exact hz _ _ (by decide)) ?_
  refine Go_aast6 dX8_init_38 rfl rfl (by decide) (by decide) (by decide) (by decide) (by decide) ?_
  rw [show (0 : Int).toNat = 0 from rfl]
  refine Go_inc1 dX8_init_39 rfl ?_
  rw [show (0 : Int) + 1 = 1 from rfl]
  refine Go_goto (tgt := 21) dX8_init_42 (by decide) ?_
  refine Go_ild1 dX8_init_21 ?_
  refine Go_iconst dX8_init_22 ?_
  refine Go_icmp_ge (tgt := 45) dX8_init_23 (by decide) (by constructor <;> omega) (by constructor <;> omega) (fun hq => by omega) (fun _ => ?_)
  refine Go_ald0 dX8_init_26 ?_
  refine Go_gfR (b := 37) dX8_init_27 flX8_11 rfl (by decide) rfl (by first | (simp [up]; done) | (rw [f1.at (by decide)]; simp [up]; done)) (by decide) ?_
  refine Go_ild1 dX8_init_30 ?_
  refine Go_new (n := 42) (m := 43) (ci := 4) (T := TX5) dX8_init_31 clX8_9 itX5 gi_RX5 rfl tyX5 tyX5_ok lys4 df4 rfl rfl (fun k => by (repeat (rw [up_a (by decide)])); exact hz _ _ (by decide)) (Nat.le_of_ble_eq_true rfl) (Nat.le_of_ble_eq_true rfl) ?_
  refine Go_dup dX8_init_34 ?_
  refine Go_callIN (d' := 1) (bc' := 2) (bs' := 105) rfl dX8_init_35 miX5_init rfl (List.mem_of_getElem? (i := 2) rfl) (Nat.le_of_ble_eq_true rfl) (by decide) (by decide) (by decide) ?_
  refine e_X5_init (t := 42) rfl rfl rfl (fun k => by (repeat (rw [up_a (by decide)])); exact hz _ _ (by decide)) (fun k => by (repeat (rw [up_a (by decide)])); exact hz _ _ (by decide)) ?_
  refine Go_aast6 dX8_init_38 rfl rfl (by decide) (by decide) (by decide) (by decide) (by decide) ?_
  rw [show (1 : Int).toNat = 1 from rfl]
  refine Go_inc1 dX8_init_39 rfl ?_
  rw [show (1 : Int) + 1 = 2 from rfl]
  refine Go_goto (tgt := 21) dX8_init_42 (by decide) ?_
  refine Go_ild1 dX8_init_21 ?_
  refine Go_iconst dX8_init_22 ?_
  refine Go_icmp_ge (tgt := 45) dX8_init_23 (by decide) (by constructor <;> omega) (by constructor <;> omega) (fun _ => ?_) (fun hq => by omega)
  refine Go_return dX8_init_45 rfl ?_
  exact k
theorem e_X3_init (hz : ∀ a k, 46 ≤ a → w a k = 0) (k : K (vi 0) (some 47) (up w 45 0 ((46 : Nat) : Int))) : Ev G yX3_init cX3_init 1 mX3_init (some 46) 1 1 70 [vr 45] w K (fun _ _ _ => False) := by
  refine Ev_intro miX3_init.1 rfl (fun _ => rfl) (allc1 rfl) (Nat.le_of_ble_eq_true rfl) (Or.inl rfl) ?_
  show Go G cX3_init mX3_init (some 46) 1 1 70 0 [some (vr 45)] [] w K (fun _ _ _ => False)
  refine Go_ald0 dX3_init_0 ?_
  refine Go_objInit dX3_init_1 lkX3_3 (by decide) (Nat.le_of_ble_eq_true rfl) ?_
  refine Go_ald0 dX3_init_4 ?_
  refine Go_bipush dX3_init_5 (by decide +kernel) ?_
  refine Go_newC (n := 46) (m := 47) (N := 70) dX3_init_7 rfl rfl (by decide) (fun k => by (repeat (rw [up_a (by decide)])); exact hz _ _ (by decide)) (Nat.le_of_ble_eq_true rfl) (Nat.le_of_ble_eq_true rfl) ?_
  refine Go_pfF (k := 0) dX3_init_9 flX3_9 rfl (by decide) rfl rfl (by decide) (fun r h => by cases h; exact ⟨_, tyX3_ok 0 (by decide), fun _ => ⟨rfl, rfl⟩, rfl, rfl⟩) ?_
  refine Go_return dX3_init_12 rfl ?_
  exact k
theorem e_X10_init (hz : ∀ a k, 50 ≤ a → w a k = 0) (k : K (vi 0) (some 51) (up w 49 0 ((50 : Nat) : Int))) : Ev G yX10_init cX10_init 1 mX10_init (some 50) 1 1 60 [vr 49] w K (fun _ _ _ => False) := by
  refine Ev_intro miX10_init.1 rfl (fun _ => rfl) (allc1 rfl) (Nat.le_of_ble_eq_true rfl) (Or.inl rfl) ?_
  show Go G cX10_init mX10_init (some 50) 1 1 60 0 [some (vr 49)] [] w K (fun _ _ _ => False)
  refine Go_ald0 dX10_init_0 ?_
  refine Go_objInit dX10_init_1 lkX10_3 (by decide) (Nat.le_of_ble_eq_true rfl) ?_
  refine Go_ald0 dX10_init_4 ?_
  refine Go_bipush dX10_init_5 (by decide +kernel) ?_
  refine Go_newI (n := 50) (m := 51) (N := 60) dX10_init_7 rfl rfl (by decide) (fun k => by (repeat (rw [up_a (by decide)])); exact hz _ _ (by decide)) (Nat.le_of_ble_eq_true rfl) (Nat.le_of_ble_eq_true rfl) ?_
  refine Go_pfF (k := 0) dX10_init_9 flX10_9 rfl (by decide) rfl rfl (by decide) (fun r h => by cases h; exact ⟨_, tyX10_ok 0 (by decide), fun _ => ⟨rfl, rfl⟩, rfl, rfl⟩) ?_
  refine Go_return dX10_init_12 rfl ?_
  exact k
theorem e_X6_init (hz : ∀ a k, 52 ≤ a → w a k = 0) (k : K (vi 0) (some 53) (up w 51 0 ((52 : Nat) : Int))) : Ev G yX6_init cX6_init 1 mX6_init (some 52) 1 1 100 [vr 51] w K (fun _ _ _ => False) := by
  refine Ev_intro miX6_init.1 rfl (fun _ => rfl) (allc1 rfl) (Nat.le_of_ble_eq_true rfl) (Or.inl rfl) ?_
  show Go G cX6_init mX6_init (some 52) 1 1 100 0 [some (vr 51)] [] w K (fun _ _ _ => False)
  refine Go_ald0 dX6_init_0 ?_
  refine Go_objInit dX6_init_1 lkX6_3 (by decide) (Nat.le_of_ble_eq_true rfl) ?_
  refine Go_ald0 dX6_init_4 ?_
  refine Go_bipush dX6_init_5 (by decide +kernel) ?_
  refine Go_newZ (n := 52) (m := 53) (N := 100) dX6_init_7 rfl rfl (by decide) (fun k => by (repeat (rw [up_a (by decide)])); exact hz _ _ (by decide)) (Nat.le_of_ble_eq_true rfl) (Nat.le_of_ble_eq_true rfl) ?_
  refine Go_pfF (k := 0) dX6_init_9 flX6_9 rfl (by decide) rfl rfl (by decide) (fun r h => by cases h; exact ⟨_, tyX6_ok 0 (by decide), fun _ => ⟨rfl, rfl⟩, rfl, rfl⟩) ?_
  refine Go_return dX6_init_12 rfl ?_
  exact k
theorem e_X4_init (hz : ∀ a k, 54 ≤ a → w a k = 0) (k : K (vi 0) (some 58) (up (up (up (up w 53 0 ((54 : Nat) : Int)) 53 1 ((55 : Nat) : Int)) 53 2 ((56 : Nat) : Int)) 53 3 ((57 : Nat) : Int))) : Ev G yX4_init cX4_init 1 mX4_init (some 54) 1 4 400 [vr 53] w K (fun _ _ _ => False) := by
  refine Ev_intro miX4_init.1 rfl (fun _ => rfl) (allc1 rfl) (Nat.le_of_ble_eq_true rfl) (Or.inl rfl) ?_
  show Go G cX4_init mX4_init (some 54) 1 4 400 0 [some (vr 53)] [] w K (fun _ _ _ => False)
  refine Go_ald0 dX4_init_0 ?_
  refine Go_objInit dX4_init_1 lkX4_3 (by decide) (Nat.le_of_ble_eq_true rfl) ?_
  refine Go_ald0 dX4_init_4 ?_
  refine Go_bipush dX4_init_5 (by decide +kernel) ?_
  refine Go_newI (n := 54) (m := 55) (N := 100) dX4_init_7 rfl rfl (by decide) (fun k => by (repeat (rw [up_a (by decide)])); exact hz _ _ (by decide)) (Nat.le_of_ble_eq_true rfl) (Nat.le_of_ble_eq_true rfl) ?_
  refine Go_pfF (k := 0) dX4_init_9 flX4_9 rfl (by decide) rfl rfl (by decide) (fun r h => by cases h; exact ⟨_, tyX4_ok 0 (by decide), fun _ => ⟨rfl, rfl⟩, rfl, rfl⟩) ?_
  refine Go_ald0 dX4_init_12 ?_
  refine Go_bipush dX4_init_13 (by decide +kernel) ?_
  refine Go_newI (n := 55) (m := 56) (N := 100) dX4_init_15 rfl rfl (by decide) (fun k => by (repeat (rw [up_a (by decide)])); exact hz _ _ (by decide)) (Nat.le_of_ble_eq_true rfl) (Nat.le_of_ble_eq_true rfl) ?_
  refine Go_pfF (k := 1) dX4_init_17 flX4_15 rfl (by decide) rfl rfl (by decide) (fun r h => by cases h; exact ⟨_, tyX4_ok 1 (by decide), fun _ => ⟨rfl, rfl⟩, rfl, rfl⟩) ?_
  refine Go_ald0 dX4_init_20 ?_
  refine Go_bipush dX4_init_21 (by decide +kernel) ?_
  refine Go_newZ (n := 56) (m := 57) (N := 100) dX4_init_23 rfl rfl (by decide) (fun k => by (repeat (rw [up_a (by decide)])); exact hz _ _ (by decide)) (Nat.le_of_ble_eq_true rfl) (Nat.le_of_ble_eq_true rfl) ?_
  refine Go_pfF (k := 2) dX4_init_25 flX4_18 rfl (by decide) rfl rfl (by decide) (fun r h => by cases h; exact ⟨_, tyX4_ok 2 (by decide), fun _ => ⟨rfl, rfl⟩, rfl, rfl⟩) ?_
  refine Go_ald0 dX4_init_28 ?_
  refine Go_bipush dX4_init_29 (by decide +kernel) ?_
  refine Go_newI (n := 57) (m := 58) (N := 100) dX4_init_31 rfl rfl (by decide) (fun k => by (repeat (rw [up_a (by decide)])); exact hz _ _ (by decide)) (Nat.le_of_ble_eq_true rfl) (Nat.le_of_ble_eq_true rfl) ?_
  refine Go_pfF (k := 3) dX4_init_33 flX4_22 rfl (by decide) rfl rfl (by decide) (fun r h => by cases h; exact ⟨_, tyX4_ok 3 (by decide), fun _ => ⟨rfl, rfl⟩, rfl, rfl⟩) ?_
  refine Go_return dX4_init_36 rfl ?_
  exact k
def L1 : List (Nat × Nat) := [(1, 9), (63, 3), (63, 2), (63, 1), (63, 0), (1, 8), (58, 3), (58, 2), (58, 1), (58, 0), (1, 7), (53, 3), (53, 2), (53, 1), (53, 0), (1, 6), (51, 0), (1, 5), (49, 0), (1, 4), (47, 0), (1, 3), (45, 0), (1, 2), (37, 1), (42, 1), (42, 0), (37, 0), (39, 1), (39, 0), (36, 1), (36, 0), (1, 1), (17, 5), (33, 1), (33, 0), (17, 4), (30, 1), (30, 0), (17, 3), (27, 1), (27, 0), (17, 2), (24, 1), (24, 0), (17, 1), (21, 1), (21, 0), (17, 0), (18, 1), (18, 0), (16, 0), (1, 0)] ++ L0
theorem e_X11_init (k : ∀ w', STG L1 true w' → K (vi 0) (some 68) w') : Ev G yX11_init cX11_init 1 mX11_init (some 2) 3 66 2617 [vr 1] w00 K (fun _ _ _ => False) := by
  refine Ev_intro miX11_init.1 rfl (fun _ => rfl) (allc1 rfl) (Nat.le_of_ble_eq_true rfl) (Or.inl rfl) ?_
  show Go G cX11_init mX11_init (some 2) 3 66 2617 0 [some (vr 1)] [] w00 K (fun _ _ _ => False)
  have hz : ∀ a k : Nat, 2 ≤ a → w00 a k = 0 := fun _ _ _ => rfl
  refine Go_ald0 dX11_init_0 ?_
  refine Go_objInit dX11_init_1 lkX11_3 (by decide) (Nat.le_of_ble_eq_true rfl) ?_
  refine Go_ald0 dX11_init_4 ?_
  refine Go_new (n := 2) (m := 3) (ci := 0) (T := TX0) dX11_init_5 clX11_9 itX0 gi_RX0 rfl tyX0 tyX0_ok lys0 df0 rfl rfl (fun k => by (repeat (rw [up_a (by decide)])); exact hz _ _ (by decide)) (Nat.le_of_ble_eq_true rfl) (Nat.le_of_ble_eq_true rfl) ?_
  refine Go_dup dX11_init_8 ?_
  refine Go_callI (d' := 2) (bc' := 13) (bs' := 515) rfl dX11_init_9 miX0_init rfl lkX11_11 (Nat.le_of_ble_eq_true rfl) (by decide) (by decide) (by decide) ?_
  refine e_X0_init (fun w1 g1 => ?_)
  have hz : ∀ a k, 16 ≤ a → w1 a k = 0 := fun a k ha => g1.zero a (List.all_eq_true.mpr (fun q hq => by rw [decide_eq_true_eq]; have := lst0 q hq; omega)) (fun _ => by omega) k
  refine Go_pfF (k := 0) dX11_init_12 flX11_12 rfl (by decide) rfl rfl (by decide) (fun r h => by cases h; exact ⟨_, tyX11_ok 0 (by decide), fun _ => ⟨rfl, rfl⟩, rfl, rfl⟩) ?_
  refine Go_ald0 dX11_init_15 ?_
  refine Go_new (n := 16) (m := 17) (ci := 1) (T := TX1) dX11_init_16 clX11_16 itX1 gi_RX1 rfl tyX1 tyX1_ok lys1 df1 rfl rfl (fun k => by (repeat (rw [up_a (by decide)])); exact hz _ _ (by decide)) (Nat.le_of_ble_eq_true rfl) (Nat.le_of_ble_eq_true rfl) ?_
  refine Go_dup dX11_init_19 ?_
  refine Go_callI (d' := 2) (bc' := 19) (bs' := 672) rfl dX11_init_20 miX1_init rfl lkX11_18 (Nat.le_of_ble_eq_true rfl) (by decide) (by decide) (by decide) ?_
  refine e_X1_init (fun a k ha => by (repeat (rw [up_a (by omega)])); exact hz _ _ (by omega)) ?_
  refine Go_pfF (k := 1) dX11_init_23 flX11_19 rfl (by decide) rfl rfl (by decide) (fun r h => by cases h; exact ⟨_, tyX11_ok 1 (by decide), fun _ => ⟨rfl, rfl⟩, rfl, rfl⟩) ?_
  refine Go_ald0 dX11_init_26 ?_
  refine Go_new (n := 36) (m := 37) (ci := 7) (T := TX8) dX11_init_27 clX11_23 itX8 gi_RX8 rfl tyX8 tyX8_ok lys7 df7 rfl rfl (fun k => by (repeat (rw [up_a (by decide)])); exact hz _ _ (by decide)) (Nat.le_of_ble_eq_true rfl) (Nat.le_of_ble_eq_true rfl) ?_
  refine Go_dup dX11_init_30 ?_
  refine Go_callI (d' := 2) (bc' := 8) (bs' := 226) rfl dX11_init_31 miX8_init rfl lkX11_25 (Nat.le_of_ble_eq_true rfl) (by decide) (by decide) (by decide) ?_
  refine e_X8_init (fun a k ha => by (repeat (rw [up_a (by omega)])); exact hz _ _ (by omega)) ?_
  refine Go_pfF (k := 2) dX11_init_34 flX11_26 rfl (by decide) rfl rfl (by decide) (fun r h => by cases h; exact ⟨_, tyX11_ok 2 (by decide), fun _ => ⟨rfl, rfl⟩, rfl, rfl⟩) ?_
  refine Go_ald0 dX11_init_37 ?_
  refine Go_new (n := 45) (m := 46) (ci := 2) (T := TX3) dX11_init_38 clX11_30 itX3 gi_RX3 rfl tyX3 tyX3_ok lys2 df2 rfl rfl (fun k => by (repeat (rw [up_a (by decide)])); exact hz _ _ (by decide)) (Nat.le_of_ble_eq_true rfl) (Nat.le_of_ble_eq_true rfl) ?_
  refine Go_dup dX11_init_41 ?_
  refine Go_callIN (d' := 1) (bc' := 1) (bs' := 70) rfl dX11_init_42 miX3_init rfl (List.mem_of_getElem? (i := 3) rfl) (Nat.le_of_ble_eq_true rfl) (by decide) (by decide) (by decide) ?_
  refine e_X3_init (fun a k ha => by (repeat (rw [up_a (by omega)])); exact hz _ _ (by omega)) ?_
  refine Go_pfF (k := 3) dX11_init_45 flX11_33 rfl (by decide) rfl rfl (by decide) (fun r h => by cases h; exact ⟨_, tyX11_ok 3 (by decide), fun _ => ⟨rfl, rfl⟩, rfl, rfl⟩) ?_
  refine Go_ald0 dX11_init_48 ?_
  refine Go_new (n := 47) (m := 48) (ci := 8) (T := TX9) dX11_init_49 clX11_37 itX9 gi_RX9 rfl tyX9 tyX9_ok lys8 df8 rfl rfl (fun k => by (repeat (rw [up_a (by decide)])); exact hz _ _ (by decide)) (Nat.le_of_ble_eq_true rfl) (Nat.le_of_ble_eq_true rfl) ?_
  refine Go_dup dX11_init_52 ?_
  refine Go_callIN (d' := 1) (bc' := 1) (bs' := 60) rfl dX11_init_53 miX9_init rfl (List.mem_of_getElem? (i := 4) rfl) (Nat.le_of_ble_eq_true rfl) (by decide) (by decide) (by decide) ?_
  refine e_X9_init (t := 47) rfl rfl (fun k => by (repeat (rw [up_a (by decide)])); exact hz _ _ (by decide)) ?_
  refine Go_pfF (k := 4) dX11_init_56 flX11_40 rfl (by decide) rfl rfl (by decide) (fun r h => by cases h; exact ⟨_, tyX11_ok 4 (by decide), fun _ => ⟨rfl, rfl⟩, rfl, rfl⟩) ?_
  refine Go_ald0 dX11_init_59 ?_
  refine Go_new (n := 49) (m := 50) (ci := 9) (T := TX10) dX11_init_60 clX11_44 itX10 gi_RX10 rfl tyX10 tyX10_ok lys9 df9 rfl rfl (fun k => by (repeat (rw [up_a (by decide)])); exact hz _ _ (by decide)) (Nat.le_of_ble_eq_true rfl) (Nat.le_of_ble_eq_true rfl) ?_
  refine Go_dup dX11_init_63 ?_
  refine Go_callIN (d' := 1) (bc' := 1) (bs' := 60) rfl dX11_init_64 miX10_init rfl (List.mem_of_getElem? (i := 5) rfl) (Nat.le_of_ble_eq_true rfl) (by decide) (by decide) (by decide) ?_
  refine e_X10_init (fun a k ha => by (repeat (rw [up_a (by omega)])); exact hz _ _ (by omega)) ?_
  refine Go_pfF (k := 5) dX11_init_67 flX11_47 rfl (by decide) rfl rfl (by decide) (fun r h => by cases h; exact ⟨_, tyX11_ok 5 (by decide), fun _ => ⟨rfl, rfl⟩, rfl, rfl⟩) ?_
  refine Go_ald0 dX11_init_70 ?_
  refine Go_new (n := 51) (m := 52) (ci := 5) (T := TX6) dX11_init_71 clX11_51 itX6 gi_RX6 rfl tyX6 tyX6_ok lys5 df5 rfl rfl (fun k => by (repeat (rw [up_a (by decide)])); exact hz _ _ (by decide)) (Nat.le_of_ble_eq_true rfl) (Nat.le_of_ble_eq_true rfl) ?_
  refine Go_dup dX11_init_74 ?_
  refine Go_callIN (d' := 1) (bc' := 1) (bs' := 100) rfl dX11_init_75 miX6_init rfl (List.mem_of_getElem? (i := 6) rfl) (Nat.le_of_ble_eq_true rfl) (by decide) (by decide) (by decide) ?_
  refine e_X6_init (fun a k ha => by (repeat (rw [up_a (by omega)])); exact hz _ _ (by omega)) ?_
  refine Go_pfF (k := 6) dX11_init_78 flX11_54 rfl (by decide) rfl rfl (by decide) (fun r h => by cases h; exact ⟨_, tyX11_ok 6 (by decide), fun _ => ⟨rfl, rfl⟩, rfl, rfl⟩) ?_
  refine Go_ald0 dX11_init_81 ?_
  refine Go_new (n := 53) (m := 54) (ci := 3) (T := TX4) dX11_init_82 clX11_58 itX4 gi_RX4 rfl tyX4 tyX4_ok lys3 df3 rfl rfl (fun k => by (repeat (rw [up_a (by decide)])); exact hz _ _ (by decide)) (Nat.le_of_ble_eq_true rfl) (Nat.le_of_ble_eq_true rfl) ?_
  refine Go_dup dX11_init_85 ?_
  refine Go_callIN (d' := 1) (bc' := 4) (bs' := 400) rfl dX11_init_86 miX4_init rfl (List.mem_of_getElem? (i := 7) rfl) (Nat.le_of_ble_eq_true rfl) (by decide) (by decide) (by decide) ?_
  refine e_X4_init (fun a k ha => by (repeat (rw [up_a (by omega)])); exact hz _ _ (by omega)) ?_
  refine Go_pfF (k := 7) dX11_init_89 flX11_61 rfl (by decide) rfl rfl (by decide) (fun r h => by cases h; exact ⟨_, tyX11_ok 7 (by decide), fun _ => ⟨rfl, rfl⟩, rfl, rfl⟩) ?_
  refine Go_ald0 dX11_init_92 ?_
  refine Go_new (n := 58) (m := 59) (ci := 6) (T := TX7) dX11_init_93 clX11_65 itX7 gi_RX7 rfl tyX7 tyX7_ok lys6 df6 rfl rfl (fun k => by (repeat (rw [up_a (by decide)])); exact hz _ _ (by decide)) (Nat.le_of_ble_eq_true rfl) (Nat.le_of_ble_eq_true rfl) ?_
  refine Go_dup dX11_init_96 ?_
  refine Go_callIN (d' := 1) (bc' := 4) (bs' := 240) rfl dX11_init_97 miX7_init rfl (List.mem_of_getElem? (i := 8) rfl) (Nat.le_of_ble_eq_true rfl) (by decide) (by decide) (by decide) ?_
  refine e_X7_init (t := 58) rfl rfl rfl rfl rfl (fun k => by (repeat (rw [up_a (by decide)])); exact hz _ _ (by decide)) (fun k => by (repeat (rw [up_a (by decide)])); exact hz _ _ (by decide)) (fun k => by (repeat (rw [up_a (by decide)])); exact hz _ _ (by decide)) (fun k => by (repeat (rw [up_a (by decide)])); exact hz _ _ (by decide)) ?_
  refine Go_pfF (k := 8) dX11_init_100 flX11_68 rfl (by decide) rfl rfl (by decide) (fun r h => by cases h; exact ⟨_, tyX11_ok 8 (by decide), fun _ => ⟨rfl, rfl⟩, rfl, rfl⟩) ?_
  refine Go_ald0 dX11_init_103 ?_
  refine Go_new (n := 63) (m := 64) (ci := 6) (T := TX7) dX11_init_104 clX11_65 itX7 gi_RX7 rfl tyX7 tyX7_ok lys6 df6 rfl rfl (fun k => by (repeat (rw [up_a (by decide)])); exact hz _ _ (by decide)) (Nat.le_of_ble_eq_true rfl) (Nat.le_of_ble_eq_true rfl) ?_
  refine Go_dup dX11_init_107 ?_
  refine Go_callIN (d' := 1) (bc' := 4) (bs' := 240) rfl dX11_init_108 miX7_init rfl (List.mem_of_getElem? (i := 8) rfl) (Nat.le_of_ble_eq_true rfl) (by decide) (by decide) (by decide) ?_
  refine e_X7_init (t := 63) rfl rfl rfl rfl rfl (fun k => by (repeat (rw [up_a (by decide)])); exact hz _ _ (by decide)) (fun k => by (repeat (rw [up_a (by decide)])); exact hz _ _ (by decide)) (fun k => by (repeat (rw [up_a (by decide)])); exact hz _ _ (by decide)) (fun k => by (repeat (rw [up_a (by decide)])); exact hz _ _ (by decide)) ?_
  refine Go_pfF (k := 9) dX11_init_111 flX11_72 rfl (by decide) rfl rfl (by decide) (fun r h => by cases h; exact ⟨_, tyX11_ok 9 (by decide), fun _ => ⟨rfl, rfl⟩, rfl, rfl⟩) ?_
  refine Go_return dX11_init_114 rfl ?_
  exact k _ (((((((((((((((((((((((((((((((((((((((((((((((((((((g1.set_ (a := 1) (k := 0) (b := 2) rfl (by decide)).set_ (a := 16) (k := 0) (b := 17) rfl (by decide)).set_ (a := 18) (k := 0) (b := 19) rfl (by decide)).set_ (a := 18) (k := 1) (b := 20) rfl (by decide)).set_ (a := 17) (k := 0) (b := 18) rfl (by decide)).set_ (a := 21) (k := 0) (b := 22) rfl (by decide)).set_ (a := 21) (k := 1) (b := 23) rfl (by decide)).set_ (a := 17) (k := 1) (b := 21) rfl (by decide)).set_ (a := 24) (k := 0) (b := 25) rfl (by decide)).set_ (a := 24) (k := 1) (b := 26) rfl (by decide)).set_ (a := 17) (k := 2) (b := 24) rfl (by decide)).set_ (a := 27) (k := 0) (b := 28) rfl (by decide)).set_ (a := 27) (k := 1) (b := 29) rfl (by decide)).set_ (a := 17) (k := 3) (b := 27) rfl (by decide)).set_ (a := 30) (k := 0) (b := 31) rfl (by decide)).set_ (a := 30) (k := 1) (b := 32) rfl (by decide)).set_ (a := 17) (k := 4) (b := 30) rfl (by decide)).set_ (a := 33) (k := 0) (b := 34) rfl (by decide)).set_ (a := 33) (k := 1) (b := 35) rfl (by decide)).set_ (a := 17) (k := 5) (b := 33) rfl (by decide)).set_ (a := 1) (k := 1) (b := 16) rfl (by decide)).set_ (a := 36) (k := 0) (b := 37) rfl (by decide)).set_ (a := 36) (k := 1) (b := 38) rfl (by decide)).set_ (a := 39) (k := 0) (b := 40) rfl (by decide)).set_ (a := 39) (k := 1) (b := 41) rfl (by decide)).set_ (a := 37) (k := 0) (b := 39) rfl (by decide)).set_ (a := 42) (k := 0) (b := 43) rfl (by decide)).set_ (a := 42) (k := 1) (b := 44) rfl (by decide)).set_ (a := 37) (k := 1) (b := 42) rfl (by decide)).set_ (a := 1) (k := 2) (b := 36) rfl (by decide)).set_ (a := 45) (k := 0) (b := 46) rfl (by decide)).set_ (a := 1) (k := 3) (b := 45) rfl (by decide)).set_ (a := 47) (k := 0) (b := 48) rfl (by decide)).set_ (a := 1) (k := 4) (b := 47) rfl (by decide)).set_ (a := 49) (k := 0) (b := 50) rfl (by decide)).set_ (a := 1) (k := 5) (b := 49) rfl (by decide)).set_ (a := 51) (k := 0) (b := 52) rfl (by decide)).set_ (a := 1) (k := 6) (b := 51) rfl (by decide)).set_ (a := 53) (k := 0) (b := 54) rfl (by decide)).set_ (a := 53) (k := 1) (b := 55) rfl (by decide)).set_ (a := 53) (k := 2) (b := 56) rfl (by decide)).set_ (a := 53) (k := 3) (b := 57) rfl (by decide)).set_ (a := 1) (k := 7) (b := 53) rfl (by decide)).set_ (a := 58) (k := 0) (b := 59) rfl (by decide)).set_ (a := 58) (k := 1) (b := 60) rfl (by decide)).set_ (a := 58) (k := 2) (b := 61) rfl (by decide)).set_ (a := 58) (k := 3) (b := 62) rfl (by decide)).set_ (a := 1) (k := 8) (b := 58) rfl (by decide)).set_ (a := 63) (k := 0) (b := 64) rfl (by decide)).set_ (a := 63) (k := 1) (b := 65) rfl (by decide)).set_ (a := 63) (k := 2) (b := 66) rfl (by decide)).set_ (a := 63) (k := 3) (b := 67) rfl (by decide)).set_ (a := 1) (k := 9) (b := 63) rfl (by decide))
end Ctors
