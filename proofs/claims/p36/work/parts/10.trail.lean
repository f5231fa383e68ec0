section Lat
variable {G : Gm} {w : Wd} {K : Kt} {X : Xt}
set_option maxRecDepth 20000 in
theorem e_X2_number {c r : Int} (hc : inR c) (hr : inR r) (k : K (vi (numI c r)) none w) : Ev G yX2_number cX2_number 2 mX2_number none 0 0 0 [vi c, vi r] w K X := by
  have a1 := hc.1
  have a2 := hc.2
  have a3 := hr.1
  have a4 := hr.2
  unfold numI at k
  refine Ev_intro msX2_number.1 rfl (fun h => by cases h) (allc1 rfl) (Nat.le_of_ble_eq_true rfl) (Or.inl rfl) ?_
  show Go G cX2_number mX2_number none 0 0 0 0 [some (vi c), some (vi r)] [] w K X
  refine Go_ild0 dX2_number_0 ?_
  refine Go_if_lt (tgt := 20) dX2_number_1 (by decide) (by constructor <;> omega) (fun h1 => ?_) (fun h1 => ?_)
  · refine Go_iconst dX2_number_20 ?_
    refine Go_ireturn dX2_number_21 rfl (by first | rfl | decide | exact nar_b | simp [narrow]) ?_
    first | (refine kI (Eq.symm (if_neg (by omega))) k) | (refine kI ?_ k; rw [if_pos (by omega)])
  · refine Go_ild0 dX2_number_4 ?_
    refine Go_bipush dX2_number_5 (by decide +kernel) ?_
    refine Go_icmp_ge (tgt := 20) dX2_number_7 (by decide) (by constructor <;> omega) (by constructor <;> omega) (fun h7 => ?_) (fun h7 => ?_)
    · refine Go_iconst dX2_number_20 ?_
      refine Go_ireturn dX2_number_21 rfl (by first | rfl | decide | exact nar_b | simp [narrow]) ?_
      first | (refine kI (Eq.symm (if_neg (by omega))) k) | (refine kI ?_ k; rw [if_pos (by omega)])
    · refine Go_ild1 dX2_number_10 ?_
      refine Go_if_lt (tgt := 20) dX2_number_11 (by decide) (by constructor <;> omega) (fun h11 => ?_) (fun h11 => ?_)
      · refine Go_iconst dX2_number_20 ?_
        refine Go_ireturn dX2_number_21 rfl (by first | rfl | decide | exact nar_b | simp [narrow]) ?_
        first | (refine kI (Eq.symm (if_neg (by omega))) k) | (refine kI ?_ k; rw [if_pos (by omega)])
      · refine Go_ild1 dX2_number_14 ?_
        refine Go_bipush dX2_number_15 (by decide +kernel) ?_
        refine Go_icmp_lt (tgt := 22) dX2_number_17 (by decide) (by constructor <;> omega) (by constructor <;> omega) (fun h17 => ?_) (fun h17 => ?_)
        · refine Go_bipush dX2_number_22 (by decide +kernel) ?_
          refine Go_ild1 dX2_number_24 ?_
          refine Go_imul dX2_number_25 ?_
          refine Go_ild0 dX2_number_26 ?_
          refine Go_iadd dX2_number_27 ?_
          refine Go_ireturn dX2_number_28 rfl (by first | rfl | decide | exact nar_b | simp [narrow]) ?_
          first | (refine kI (Eq.symm (if_neg (by omega))) k) | (refine kI ?_ k; rw [if_pos (by omega)])
        · refine Go_iconst dX2_number_20 ?_
          refine Go_ireturn dX2_number_21 rfl (by first | rfl | decide | exact nar_b | simp [narrow]) ?_
          first | (refine kI (Eq.symm (if_neg (by omega))) k) | (refine kI ?_ k; rw [if_pos (by omega)])
theorem e_X2_isSite {s : Int} (hs : inR s) (k : K (vi (if 0 ≤ s ∧ s < 100 then 1 else 0)) none w) : Ev G yX2_isSite cX2_isSite 1 mX2_isSite none 0 0 0 [vi s] w K X := by
  have a1 := hs.1
  have a2 := hs.2
  refine Ev_intro msX2_isSite.1 rfl (fun h => by cases h) (allc1 rfl) (Nat.le_of_ble_eq_true rfl) (Or.inl rfl) ?_
  show Go G cX2_isSite mX2_isSite none 0 0 0 0 [some (vi s)] [] w K X
  refine Go_ild0 dX2_isSite_0 ?_
  refine Go_if_lt (tgt := 14) dX2_isSite_1 (by decide) (by constructor <;> omega) (fun h1 => ?_) (fun h1 => ?_)
  · refine Go_iconst dX2_isSite_14 ?_
    refine Go_ireturn dX2_isSite_15 rfl (by first | rfl | decide | exact nar_b | simp [narrow]) ?_
    first | (refine kI (Eq.symm (if_neg (by omega))) k) | (refine kI (Eq.symm (if_pos (by omega))) k)
  · refine Go_ild0 dX2_isSite_4 ?_
    refine Go_bipush dX2_isSite_5 (by decide +kernel) ?_
    refine Go_icmp_ge (tgt := 14) dX2_isSite_7 (by decide) (by constructor <;> omega) (by constructor <;> omega) (fun h7 => ?_) (fun h7 => ?_)
    · refine Go_iconst dX2_isSite_14 ?_
      refine Go_ireturn dX2_isSite_15 rfl (by first | rfl | decide | exact nar_b | simp [narrow]) ?_
      first | (refine kI (Eq.symm (if_neg (by omega))) k) | (refine kI (Eq.symm (if_pos (by omega))) k)
    · refine Go_iconst dX2_isSite_10 ?_
      refine Go_goto (tgt := 15) dX2_isSite_11 (by decide) ?_
      refine Go_ireturn dX2_isSite_15 rfl (by first | rfl | decide | exact nar_b | simp [narrow]) ?_
      first | (refine kI (Eq.symm (if_neg (by omega))) k) | (refine kI (Eq.symm (if_pos (by omega))) k)
theorem e_X2_column {s : Int} (h0 : 0 ≤ s) (h1 : s < 2147483648) (k : K (vi (s % 10)) none w) : Ev G yX2_column cX2_column 1 mX2_column none 0 0 0 [vi s] w K X := by
  refine Ev_intro msX2_column.1 rfl (fun h => by cases h) (allc1 rfl) (Nat.le_of_ble_eq_true rfl) (Or.inl rfl) ?_
  show Go G cX2_column mX2_column none 0 0 0 0 [some (vi s)] [] w K X
  refine Go_ild0 dX2_column_0 ?_
  refine Go_bipush dX2_column_1 (by decide +kernel) ?_
  refine Go_irem dX2_column_3 (by omega) (by omega) (by omega) (by omega) ?_
  refine Go_ireturn dX2_column_4 rfl (by first | rfl | decide | exact nar_b | simp [narrow]) ?_
  exact k
theorem e_X2_row {s : Int} (h0 : 0 ≤ s) (h1 : s < 2147483648) (k : K (vi (s / 10)) none w) : Ev G yX2_row cX2_row 1 mX2_row none 0 0 0 [vi s] w K X := by
  refine Ev_intro msX2_row.1 rfl (fun h => by cases h) (allc1 rfl) (Nat.le_of_ble_eq_true rfl) (Or.inl rfl) ?_
  show Go G cX2_row mX2_row none 0 0 0 0 [some (vi s)] [] w K X
  refine Go_ild0 dX2_row_0 ?_
  refine Go_bipush dX2_row_1 (by decide +kernel) ?_
  refine Go_idiv dX2_row_3 (by omega) (by omega) (by omega) (by omega) ?_
  refine Go_ireturn dX2_row_4 rfl (by first | rfl | decide | exact nar_b | simp [narrow]) ?_
  exact k
theorem e_X2_neighbour {s n : Int} (h0 : 0 ≤ s) (h1 : s < 100) (hn : inR n) (k : K (vi (nbI s n)) none w) : Ev G yX2_neighbour cX2_neighbour 2 mX2_neighbour none 1 0 0 [vi s, vi n] w K X := by
  have a1 := hn.1
  have a2 := hn.2
  have b1 := tabA_in n.toNat
  have b2 := tabB_in n.toNat
  refine Ev_intro msX2_neighbour.1 rfl (fun h => by cases h) (allc1 rfl) (Nat.le_of_ble_eq_true rfl) (Or.inl rfl) ?_
  show Go G cX2_neighbour mX2_neighbour none 1 0 0 0 [some (vi s), some (vi n)] [] w K X
  refine Go_ild1 dX2_neighbour_0 ?_
  refine Go_if_lt (tgt := 9) dX2_neighbour_1 (by decide) (by constructor <;> omega) (fun h1 => ?_) (fun h1 => ?_)
  · refine Go_iconst dX2_neighbour_9 ?_
    refine Go_ireturn dX2_neighbour_10 rfl (by first | rfl | decide | exact nar_b | simp [narrow]) ?_
    refine kI (Eq.symm (if_neg (by omega))) k
  · refine Go_ild1 dX2_neighbour_4 ?_
    refine Go_iconst dX2_neighbour_5 ?_
    refine Go_icmp_lt (tgt := 11) dX2_neighbour_6 (by decide) (by constructor <;> omega) (by constructor <;> omega) (fun h6 => ?_) (fun h6 => ?_)
    · refine Go_ild0 dX2_neighbour_11 ?_
      refine Go_cS1 (d' := 0) (bc' := 0) (bs' := 0) rfl dX2_neighbour_12 msX2_column rfl lkX2_9 (by decide) (by decide) (by decide) (Nat.le_of_ble_eq_true rfl) ?_
      refine e_X2_column h0 (by omega) ?_
      refine Go_getA dX2_neighbour_15 rfl ?_
      refine Go_ild1 dX2_neighbour_18 ?_
      refine Go_saldA dX2_neighbour_19 (by omega) (by omega) ?_
      refine Go_iadd dX2_neighbour_20 ?_
      refine Go_ild0 dX2_neighbour_21 ?_
      refine Go_cS1 (d' := 0) (bc' := 0) (bs' := 0) rfl dX2_neighbour_22 msX2_row rfl lkX2_19 (by decide) (by decide) (by decide) (Nat.le_of_ble_eq_true rfl) ?_
      refine e_X2_row h0 (by omega) ?_
      refine Go_getB dX2_neighbour_25 rfl ?_
      refine Go_ild1 dX2_neighbour_28 ?_
      refine Go_saldB dX2_neighbour_29 (by omega) (by omega) ?_
      refine Go_iadd dX2_neighbour_30 ?_
      refine Go_cS2 (d' := 0) (bc' := 0) (bs' := 0) rfl dX2_neighbour_31 msX2_number rfl lkX2_25 (by decide) (by decide) (by decide) (Nat.le_of_ble_eq_true rfl) ?_
      refine e_X2_number (by constructor <;> omega) (by constructor <;> omega) ?_
      refine Go_ireturn dX2_neighbour_34 rfl (by first | rfl | decide | exact nar_b | simp [narrow]) ?_
      refine kI (Eq.symm (if_pos (by omega))) k
    · refine Go_iconst dX2_neighbour_9 ?_
      refine Go_ireturn dX2_neighbour_10 rfl (by first | rfl | decide | exact nar_b | simp [narrow]) ?_
      refine kI (Eq.symm (if_neg (by omega))) k
theorem l_X2_direction {a b i : Int} (h0 : 0 ≤ a) (h1 : a < 100) (hb : inR b) (i0 : 0 ≤ i) (i1 : i < 3) (k : nbI a i = b → K (vi i) none w) (kn : nbI a i ≠ b → Go G cX2_direction mX2_direction none 2 0 0 2 [some (vi a), some (vi b), some (vi (i + 1))] [] w K X) : Go G cX2_direction mX2_direction none 2 0 0 2 [some (vi a), some (vi b), some (vi i)] [] w K X := by
  have b1 := nbI_in a i
  have a1 := hb.1
  have a2 := hb.2
  refine Go_ild2 dX2_direction_2 ?_
  refine Go_iconst dX2_direction_3 ?_
  refine Go_icmp_ge (tgt := 24) dX2_direction_4 (by decide) (by constructor <;> omega) (by constructor <;> omega) (fun h4 => by omega) (fun h4 => ?_)
  refine Go_ild0 dX2_direction_7 ?_
  refine Go_ild2 dX2_direction_8 ?_
  refine Go_cS2 (d' := 1) (bc' := 0) (bs' := 0) rfl dX2_direction_9 msX2_neighbour rfl lkX2_29 (by decide) (by decide) (by decide) (Nat.le_of_ble_eq_true rfl) ?_
  refine e_X2_neighbour h0 h1 (by constructor <;> omega) ?_
  refine Go_ild1 dX2_direction_12 ?_
  refine Go_icmp_ne (tgt := 18) dX2_direction_13 (by decide) (by constructor <;> omega) (by constructor <;> omega) (fun h13 => ?_) (fun h13 => ?_)
  · refine Go_inc2 dX2_direction_18 rfl ?_
    refine Go_goto (tgt := 2) dX2_direction_21 (by decide) ?_
    exact kn h13
  · refine Go_ild2 dX2_direction_16 ?_
    refine Go_ireturn dX2_direction_17 rfl (by first | rfl | decide | exact nar_b | simp [narrow]) ?_
    exact k h13
theorem e_X2_direction {a b : Int} (h0 : 0 ≤ a) (h1 : a < 100) (hb : inR b) (k : K (vi (dirI a b)) none w) : Ev G yX2_direction cX2_direction 3 mX2_direction none 2 0 0 [vi a, vi b] w K X := by
  unfold dirI at k
  refine Ev_intro msX2_direction.1 rfl (fun h => by cases h) (allc1 rfl) (Nat.le_of_ble_eq_true rfl) (Or.inl rfl) ?_
  show Go G cX2_direction mX2_direction none 2 0 0 0 [some (vi a), some (vi b), none] [] w K X
  refine Go_iconst dX2_direction_0 ?_
  refine Go_ist2 dX2_direction_1 rfl ?_
  refine l_X2_direction (i := 0) h0 h1 hb (by decide) (by decide) (fun h => by rw [if_pos h] at k; exact k) (fun n0 => ?_)
  show Go G cX2_direction mX2_direction none 2 0 0 2 [some (vi a), some (vi b), some (vi 1)] [] w K X
  refine l_X2_direction (i := 1) h0 h1 hb (by decide) (by decide) (fun h => by rw [if_neg n0, if_pos h] at k; exact k) (fun n1 => ?_)
  show Go G cX2_direction mX2_direction none 2 0 0 2 [some (vi a), some (vi b), some (vi 2)] [] w K X
  refine l_X2_direction (i := 2) h0 h1 hb (by decide) (by decide) (fun h => by rw [if_neg n0, if_neg n1, if_pos h] at k; exact k) (fun n2 => ?_)
  show Go G cX2_direction mX2_direction none 2 0 0 2 [some (vi a), some (vi b), some (vi 3)] [] w K X
  rw [if_neg n0, if_neg n1, if_neg n2] at k
  refine Go_ild2 dX2_direction_2 ?_
  refine Go_iconst dX2_direction_3 ?_
  refine Go_icmp_ge (tgt := 24) dX2_direction_4 (by decide) (by constructor <;> omega) (by constructor <;> omega) (fun h4 => ?_) (fun h4 => by omega)
  refine Go_iconst dX2_direction_24 ?_
  refine Go_ireturn dX2_direction_25 rfl (by first | rfl | decide | exact nar_b | simp [narrow]) ?_
  exact k
theorem e_X2_squaredDistance {a b : Int} (a0 : 0 ≤ a) (a1 : a < 100) (b0 : 0 ≤ b) (b1 : b < 100) (k : K (vi ((a % 10 - b % 10) * (a % 10 - b % 10) + (a / 10 - b / 10) * (a / 10 - b / 10))) none w) : Ev G yX2_squaredDistance cX2_squaredDistance 4 mX2_squaredDistance none 1 0 0 [vi a, vi b] w K X := by
  refine Ev_intro msX2_squaredDistance.1 rfl (fun h => by cases h) (allc1 rfl) (Nat.le_of_ble_eq_true rfl) (Or.inl rfl) ?_
  show Go G cX2_squaredDistance mX2_squaredDistance none 1 0 0 0 [some (vi a), some (vi b), none, none] [] w K X
  refine Go_ild0 dX2_squaredDistance_0 ?_
  refine Go_cS1 (d' := 0) (bc' := 0) (bs' := 0) rfl dX2_squaredDistance_1 msX2_column rfl lkX2_9 (by decide) (by decide) (by decide) (Nat.le_of_ble_eq_true rfl) ?_
  refine e_X2_column a0 (by omega) ?_
  refine Go_ild1 dX2_squaredDistance_4 ?_
  refine Go_cS1 (d' := 0) (bc' := 0) (bs' := 0) rfl dX2_squaredDistance_5 msX2_column rfl lkX2_9 (by decide) (by decide) (by decide) (Nat.le_of_ble_eq_true rfl) ?_
  refine e_X2_column b0 (by omega) ?_
  refine Go_isub dX2_squaredDistance_8 ?_
  refine Go_ist2 dX2_squaredDistance_9 rfl ?_
  refine Go_ild0 dX2_squaredDistance_10 ?_
  refine Go_cS1 (d' := 0) (bc' := 0) (bs' := 0) rfl dX2_squaredDistance_11 msX2_row rfl lkX2_19 (by decide) (by decide) (by decide) (Nat.le_of_ble_eq_true rfl) ?_
  refine e_X2_row a0 (by omega) ?_
  refine Go_ild1 dX2_squaredDistance_14 ?_
  refine Go_cS1 (d' := 0) (bc' := 0) (bs' := 0) rfl dX2_squaredDistance_15 msX2_row rfl lkX2_19 (by decide) (by decide) (by decide) (Nat.le_of_ble_eq_true rfl) ?_
  refine e_X2_row b0 (by omega) ?_
  refine Go_isub dX2_squaredDistance_18 ?_
  refine Go_ist3 dX2_squaredDistance_19 rfl ?_
  refine Go_ild2 dX2_squaredDistance_20 ?_
  refine Go_ild2 dX2_squaredDistance_21 ?_
  refine Go_imul dX2_squaredDistance_22 ?_
  refine Go_ild3 dX2_squaredDistance_23 ?_
  refine Go_ild3 dX2_squaredDistance_24 ?_
  refine Go_imul dX2_squaredDistance_25 ?_
  refine Go_iadd dX2_squaredDistance_26 ?_
  refine Go_ireturn dX2_squaredDistance_27 rfl (by first | rfl | decide | exact nar_b | simp [narrow]) ?_
  exact k
def sqD (a b : Int) : Int := (a % 10 - b % 10) * (a % 10 - b % 10) + (a / 10 - b / 10) * (a / 10 - b / 10)
theorem sq_le {x : Int} (h1 : -9 ≤ x) (h2 : x ≤ 9) : 0 ≤ x * x ∧ x * x ≤ 81 := by
  have key : ∀ n : Fin 19, 0 ≤ ((n.val : Int) - 9) * ((n.val : Int) - 9) ∧ ((n.val : Int) - 9) * ((n.val : Int) - 9) ≤ 81 := by decide +kernel
  have := key ⟨(x + 9).toNat, by omega⟩
  rw [show (((x + 9).toNat : Nat) : Int) - 9 = x by omega] at this
  exact this
theorem sqD_in {a b : Int} (a0 : 0 ≤ a) (a1 : a < 100) (b0 : 0 ≤ b) (b1 : b < 100) : 0 ≤ sqD a b ∧ sqD a b ≤ 162 := by
  have h1 := sq_le (x := a % 10 - b % 10) (by omega) (by omega)
  have h2 := sq_le (x := a / 10 - b / 10) (by omega) (by omega)
  unfold sqD
  omega
theorem e_X2_areNeighbours {a b : Int} (a0 : 0 ≤ a) (a1 : a < 100) (b0 : 0 ≤ b) (b1 : b < 100) (k : K (vi (if sqD a b = 1 then 1 else 0)) none w) : Ev G yX2_areNeighbours cX2_areNeighbours 2 mX2_areNeighbours none 2 0 0 [vi a, vi b] w K X := by
  have hs := sqD_in a0 a1 b0 b1
  refine Ev_intro msX2_areNeighbours.1 rfl (fun h => by cases h) (allc1 rfl) (Nat.le_of_ble_eq_true rfl) (Or.inl rfl) ?_
  show Go G cX2_areNeighbours mX2_areNeighbours none 2 0 0 0 [some (vi a), some (vi b)] [] w K X
  refine Go_ild0 dX2_areNeighbours_0 ?_
  refine Go_ild1 dX2_areNeighbours_1 ?_
  refine Go_cS2 (d' := 1) (bc' := 0) (bs' := 0) rfl dX2_areNeighbours_2 msX2_squaredDistance rfl lkX2_32 (by decide) (by decide) (by decide) (Nat.le_of_ble_eq_true rfl) ?_
  refine e_X2_squaredDistance a0 a1 b0 b1 ?_
  show Go G cX2_areNeighbours mX2_areNeighbours none 2 0 0 5 [some (vi a), some (vi b)] [vi (sqD a b)] w K X
  refine Go_iconst dX2_areNeighbours_5 ?_
  refine Go_icmp_ne (tgt := 13) dX2_areNeighbours_6 (by decide) (by constructor <;> omega) (by constructor <;> omega) (fun h6 => ?_) (fun h6 => ?_)
  · refine Go_iconst dX2_areNeighbours_13 ?_
    refine Go_ireturn dX2_areNeighbours_14 rfl (by first | rfl | decide | exact nar_b | simp [narrow]) ?_
    first | (refine kI (Eq.symm (if_neg (by assumption))) k) | (refine kI (Eq.symm (if_pos (by assumption))) k)
  · refine Go_iconst dX2_areNeighbours_9 ?_
    refine Go_goto (tgt := 14) dX2_areNeighbours_10 (by decide) ?_
    refine Go_ireturn dX2_areNeighbours_14 rfl (by first | rfl | decide | exact nar_b | simp [narrow]) ?_
    first | (refine kI (Eq.symm (if_neg (by assumption))) k) | (refine kI (Eq.symm (if_pos (by assumption))) k)
end Lat
section Tra
variable {G : Gm} {w : Wd} {K : Kt} {X : Xt} {t : Nat} {l : List Nat}
theorem e_X9_length (h : TR w t l) (k : K (vi l.length) none w) : Ev G yX9_length cX9_length 1 mX9_length none 0 0 0 [vr t] w K X := by
  obtain ⟨ht, hn, hl, hj⟩ := h
  refine Ev_intro mvX9_length.1 rfl (fun h => by cases h) (allc1 rfl) (Nat.le_of_ble_eq_true rfl) (Or.inl rfl) ?_
  show Go G cX9_length mX9_length none 0 0 0 0 [some (vr t)] [] w K X
  refine Go_ald0 dX9_length_0 ?_
  refine gf8_1 dX9_length_1 flX9_15 (by first | assumption | rfl) ?_
  refine Go_ireturn dX9_length_4 rfl (by first | rfl | decide | exact nar_b | simp [narrow]) ?_
  exact kI hn k
theorem e_X9_isFull (h : TR w t l) (k : K (vi (if l.length = 60 then 1 else 0)) none w) : Ev G yX9_isFull cX9_isFull 1 mX9_isFull none 0 0 0 [vr t] w K X := by
  obtain ⟨ht, hn, hl, hj⟩ := h
  refine Ev_intro mvX9_isFull.1 rfl (fun h => by cases h) (allc1 rfl) (Nat.le_of_ble_eq_true rfl) (Or.inl rfl) ?_
  show Go G cX9_isFull mX9_isFull none 0 0 0 0 [some (vr t)] [] w K X
  refine Go_ald0 dX9_isFull_0 ?_
  refine gf8_1 dX9_isFull_1 flX9_15 (by first | assumption | rfl) ?_
  refine Go_bipush dX9_isFull_4 (by decide +kernel) ?_
  refine Go_icmp_lt (tgt := 13) dX9_isFull_6 (by decide) (by constructor <;> omega) (by constructor <;> omega) (fun h6 => ?_) (fun h6 => ?_)
  · refine Go_iconst dX9_isFull_13 ?_
    refine Go_ireturn dX9_isFull_14 rfl (by first | rfl | decide | exact nar_b | simp [narrow]) ?_
    first | (refine kI (Eq.symm (if_neg (by omega))) k) | (refine kI (Eq.symm (if_pos (by omega))) k)
  · refine Go_iconst dX9_isFull_9 ?_
    refine Go_goto (tgt := 14) dX9_isFull_10 (by decide) ?_
    refine Go_ireturn dX9_isFull_14 rfl (by first | rfl | decide | exact nar_b | simp [narrow]) ?_
    first | (refine kI (Eq.symm (if_neg (by omega))) k) | (refine kI (Eq.symm (if_pos (by omega))) k)
theorem e_X9_has {z : Int} (h : TR w t l) (hz : inR z) (k : K (vi (if 0 ≤ z ∧ z < l.length then 1 else 0)) none w) : Ev G yX9_has cX9_has 2 mX9_has none 0 0 0 [vr t, vi z] w K X := by
  obtain ⟨ht, hn, hl, hj⟩ := h
  have a1 := hz.1
  have a2 := hz.2
  refine Ev_intro mvX9_has.1 rfl (fun h => by cases h) (allc1 rfl) (Nat.le_of_ble_eq_true rfl) (Or.inl rfl) ?_
  show Go G cX9_has mX9_has none 0 0 0 0 [some (vr t), some (vi z)] [] w K X
  refine Go_ild1 dX9_has_0 ?_
  refine Go_if_lt (tgt := 16) dX9_has_1 (by decide) (by constructor <;> omega) (fun h1 => ?_) (fun h1 => ?_)
  · refine Go_iconst dX9_has_16 ?_
    refine Go_ireturn dX9_has_17 rfl (by first | rfl | decide | exact nar_b | simp [narrow]) ?_
    first | (refine kI (Eq.symm (if_neg (by omega))) k) | (refine kI (Eq.symm (if_pos (by omega))) k)
  · refine Go_ild1 dX9_has_4 ?_
    refine Go_ald0 dX9_has_5 ?_
    refine gf8_1 dX9_has_6 flX9_15 (by first | assumption | rfl) ?_
    refine Go_icmp_ge (tgt := 16) dX9_has_9 (by decide) (by constructor <;> omega) (by constructor <;> omega) (fun h9 => ?_) (fun h9 => ?_)
    · refine Go_iconst dX9_has_16 ?_
      refine Go_ireturn dX9_has_17 rfl (by first | rfl | decide | exact nar_b | simp [narrow]) ?_
      first | (refine kI (Eq.symm (if_neg (by omega))) k) | (refine kI (Eq.symm (if_pos (by omega))) k)
    · refine Go_iconst dX9_has_12 ?_
      refine Go_goto (tgt := 17) dX9_has_13 (by decide) ?_
      refine Go_ireturn dX9_has_17 rfl (by first | rfl | decide | exact nar_b | simp [narrow]) ?_
      first | (refine kI (Eq.symm (if_neg (by omega))) k) | (refine kI (Eq.symm (if_pos (by omega))) k)
theorem e_X9_at {z : Int} (h : TR w t l) (hz : inR z) (k : K (vi (atI l z)) none w) : Ev G yX9_at cX9_at 2 mX9_at none 1 0 0 [vr t, vi z] w K X := by
  have h9 := h
  obtain ⟨ht, hn, hl, hj⟩ := h
  have ht1 := sh_t1 ht
  unfold atI at k
  refine Ev_intro mvX9_at.1 rfl (fun h => by cases h) (allc1 rfl) (Nat.le_of_ble_eq_true rfl) (Or.inl rfl) ?_
  show Go G cX9_at mX9_at none 1 0 0 0 [some (vr t), some (vi z)] [] w K X
  refine Go_ald0 dX9_at_0 ?_
  refine Go_ild1 dX9_at_1 ?_
  refine Go_cV1 (d' := 0) (bc' := 0) (bs' := 0) rfl dX9_at_2 mvX9_has rfl lkX9_19 (by first | assumption | rfl) rfl trivial (by decide) (by decide) (by decide) (Nat.le_of_ble_eq_true rfl) ?_
  refine e_X9_has h9 hz ?_
  refine Go_ifb_eq (tgt := 17) dX9_at_5 (by decide)  (fun h5 => ?_) (fun h5 => ?_)
  · refine Go_iconst dX9_at_17 ?_
    refine Go_ireturn dX9_at_18 rfl (by first | rfl | decide | exact nar_b | simp [narrow]) ?_
    first | (refine kI (Eq.symm (if_neg (by assumption))) k) | (rw [if_pos h5] at k; exact kI (hj _ (by omega)) k)
  · refine Go_ald0 dX9_at_8 ?_
    refine gf8_0 dX9_at_9 flX9_9 (by first | assumption | rfl) ?_
    refine Go_ild1 dX9_at_12 ?_
    refine Go_iald dX9_at_13 ht1 trivial (by omega) (by omega) (by decide) ?_
    refine Go_goto (tgt := 18) dX9_at_14 (by decide) ?_
    refine Go_ireturn dX9_at_18 rfl (by first | rfl | decide | exact nar_b | simp [narrow]) ?_
    first | (refine kI (Eq.symm (if_neg (by assumption))) k) | (rw [if_pos h5] at k; exact kI (hj _ (by omega)) k)
theorem e_X9_tail (h : TR w t l) (k : K (vi (atI l 0)) none w) : Ev G yX9_tail cX9_tail 1 mX9_tail none 2 0 0 [vr t] w K X := by
  have h9 := h
  refine Ev_intro mvX9_tail.1 rfl (fun h => by cases h) (allc1 rfl) (Nat.le_of_ble_eq_true rfl) (Or.inl rfl) ?_
  show Go G cX9_tail mX9_tail none 2 0 0 0 [some (vr t)] [] w K X
  refine Go_ald0 dX9_tail_0 ?_
  refine Go_iconst dX9_tail_1 ?_
  refine Go_cV1 (d' := 1) (bc' := 0) (bs' := 0) rfl dX9_tail_2 mvX9_at rfl lkX9_23 h.1 rfl trivial (by decide) (by decide) (by decide) (Nat.le_of_ble_eq_true rfl) ?_
  refine e_X9_at h9 ⟨by decide, by decide⟩ ?_
  refine Go_ireturn dX9_tail_5 rfl (by first | rfl | decide | exact nar_b | simp [narrow]) ?_
  exact k
theorem e_X9_head (h : TR w t l) (k : K (vi (atI l (l.length - 1))) none w) : Ev G yX9_head cX9_head 1 mX9_head none 2 0 0 [vr t] w K X := by
  have h9 := h
  obtain ⟨ht, hn, hl, hj⟩ := h
  rw [← hn] at k
  refine Ev_intro mvX9_head.1 rfl (fun h => by cases h) (allc1 rfl) (Nat.le_of_ble_eq_true rfl) (Or.inl rfl) ?_
  show Go G cX9_head mX9_head none 2 0 0 0 [some (vr t)] [] w K X
  refine Go_ald0 dX9_head_0 ?_
  refine Go_ald0 dX9_head_1 ?_
  refine gf8_1 dX9_head_2 flX9_15 (by first | assumption | rfl) ?_
  refine Go_iconst dX9_head_5 ?_
  refine Go_isub dX9_head_6 ?_
  refine Go_cV1 (d' := 1) (bc' := 0) (bs' := 0) rfl dX9_head_7 mvX9_at rfl lkX9_23 (by first | assumption | rfl) rfl trivial (by decide) (by decide) (by decide) (Nat.le_of_ble_eq_true rfl) ?_
  refine e_X9_at h9 (by constructor <;> omega) ?_
  refine Go_ireturn dX9_head_10 rfl (by first | rfl | decide | exact nar_b | simp [narrow]) ?_
  exact k
theorem e_X9_steps (h : TR w t l) (k : K (vi ((l.length : Int) - 1)) none w) : Ev G yX9_steps cX9_steps 1 mX9_steps none 0 0 0 [vr t] w K X := by
  obtain ⟨ht, hn, hl, hj⟩ := h
  rw [← hn] at k
  refine Ev_intro mvX9_steps.1 rfl (fun h => by cases h) (allc1 rfl) (Nat.le_of_ble_eq_true rfl) (Or.inl rfl) ?_
  show Go G cX9_steps mX9_steps none 0 0 0 0 [some (vr t)] [] w K X
  refine Go_ald0 dX9_steps_0 ?_
  refine gf8_1 dX9_steps_1 flX9_15 (by first | assumption | rfl) ?_
  refine Go_iconst dX9_steps_4 ?_
  refine Go_isub dX9_steps_5 ?_
  refine Go_ireturn dX9_steps_6 rfl (by first | rfl | decide | exact nar_b | simp [narrow]) ?_
  exact k
end Tra
