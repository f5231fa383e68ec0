/-! what is told of a state -/
def cnA (s : Sta) (n : Nat) : Int := cntA s [] [] (n : Int)
theorem cnA_eq {s : Sta} {sv : List Sta} {tx : List Nat} {n : Nat} (h : n < 5) : cntA s sv tx (n : Int) = cnA s n := by
  have c : n = 0 ∨ n = 1 ∨ n = 2 ∨ n = 3 ∨ n = 4 := by omega
  rcases c with rfl | rfl | rfl | rfl | rfl <;> rfl
def tC (s : Sta) : Nat → Int
  | 0 => 71
  | n + 1 => 31 * tC s n + nz (cnA s n)
def tS (s : Sta) : Nat → Int
  | 0 => tC s 5
  | n + 1 => 31 * tS s n + 100 * nz (ow s.1 n) + nz (plc s.1 n)
theorem numI_k {k : Nat} (hk : k < 100) : numI ((k : Int) % 10) ((k : Int) / 10) = (k : Int) := by
  unfold numI
  rw [if_pos (by omega)]
  omega
section Told
variable {G : Gm} {w : Wd} {K : Kt} {X : Xt} {s : Sta} {sv : List Sta} {g : Nat → Option Sta} {tx : List Nat}
theorem e_L_told (h : CI w s sv g tx) (k : K (vl (tS s 100)) none w) : Ev G yL_told cL_told 4 mL_told none 9 405 2430 [vr 1] w K X := by
  refine Ev_intro msL_told.1 rfl (fun h => by cases h) (allc1 rfl) (Nat.le_of_ble_eq_true rfl) (Or.inl rfl) ?_
  show Go G cL_told mL_told none 9 405 2430 0 [some (vr 1), none, none, none] [] w K X
  refine Go_ldcL (z := 71) dL_told_0 (by decide) cqL_83 ?_
  refine Go_lstore_n (i := 1) dL_told_3 rfl rfl (Nat.le_of_ble_eq_true rfl) (fun j hj => by have e : j = 0 := (by omega); subst e; rfl) ?_
  refine Go_iconst dL_told_4 ?_
  refine Go_ist3 dL_told_5 rfl ?_
  refine Go_more (bc' := 400 + (5) * 1) (bs' := 6 * (400) + (5) * (6 * 1)) (by omega) (by omega) ?_
  refine Go_upToB (n := 5) (b := 1) (sl := 6 * 1) (L := fun i => [some (vr 1), some (vl (tC s i)), none, some (vi (i : Int))]) (P := fun i v => v = w) (by repeat' (first | exact Or.inl rfl | exact Or.inr rfl | exact Or.inr (lcg (by omega)) | exact trivial | constructor)) (rfl) (fun i v B S hi hP kn => ?_) (fun v hP => ?_)
  · try dsimp only at hP kn
    try dsimp only
    subst hP
    have e : 31 * tC s i + nz (cnA s i) = tC s (i + 1) := rfl
    refine Go_ild3 dL_told_6 ?_
    refine Go_iconst dL_told_7 ?_
    refine Go_icmp_ge (tgt := 30) dL_told_8 (by decide) (by constructor <;> omega) (by constructor <;> omega) (fun h8 => by omega) (fun h8 => ?_)
    refine Go_ldcL (z := 31) dL_told_11 (by decide) cqL_85 ?_
    refine Go_lload_n (i := 1) dL_told_14 rfl rfl ?_
    refine Go_lmul dL_told_15 ?_
    refine Go_ald0 dL_told_16 ?_
    refine Go_ild3 dL_told_17 ?_
    refine Go_cSW2 (d' := 8) (bc' := 1) (bs' := 6) rfl dL_told_18 msL_count rfl lkL_87 (by decide) (by omega) (by omega) (Nat.le_of_ble_eq_true rfl) ?_
    refine e_L_count h (by constructor <;> omega) (fun _ _ => ?_) (fun q => absurd ⟨by omega, by omega⟩ q)
    rw [cnA_eq hi]
    refine Go_i2lN dL_told_21 ?_
    refine Go_ladd dL_told_22 ?_
    rw [e]
    refine Go_lstore_n (i := 1) dL_told_23 rfl rfl (Nat.le_of_ble_eq_true rfl) (fun j hj => by have e : j = 0 := (by omega); subst e; rfl) ?_
    refine Go_inc3 dL_told_24 rfl ?_
    refine Go_goto (tgt := 6) dL_told_27 (by decide) ?_
    exact Go_more (by omega) (by omega) (Go_forget (by repeat' (first | exact Or.inl rfl | exact Or.inr rfl | exact Or.inr (lcg (by omega)) | exact trivial | constructor)) (kn _ rfl))
  · try dsimp only at hP
    try dsimp only
    subst hP
    refine Go_ild3 dL_told_6 ?_
    refine Go_iconst dL_told_7 ?_
    refine Go_icmp_ge (tgt := 30) dL_told_8 (by decide) (by constructor <;> omega) (by constructor <;> omega) (fun h8 => ?_) (fun h8 => by omega)
    refine Go_iconst dL_told_30 ?_
    refine Go_ist3 dL_told_31 rfl ?_
    refine Go_more (bc' := 0 + (100) * 4) (bs' := 6 * (0) + (100) * (6 * 4)) (by omega) (by omega) ?_
    refine Go_upToB (n := 100) (b := 4) (sl := 6 * 4) (L := fun i2 => [some (vr 1), some (vl (tS s i2)), none, some (vi (i2 : Int))]) (P := fun i2 v2 => v2 = v) (by repeat' (first | exact Or.inl rfl | exact Or.inr rfl | exact Or.inr (lcg (by omega)) | exact trivial | constructor)) (rfl) (fun i2 v2 B2 S2 hi2 hP2 kn2 => ?_) (fun v2 hP2 => ?_)
    · try dsimp only at hP2 kn2
      try dsimp only
      subst hP2
      have e : 31 * tS s i2 + 100 * nz (ow s.1 i2) + nz (plc s.1 i2) = tS s (i2 + 1) := rfl
      have en := numI_k hi2
      refine Go_ild3 dL_told_32 ?_
      refine Go_bipush dL_told_33 (by decide +kernel) ?_
      refine Go_icmp_ge (tgt := 84) dL_told_35 (by decide) (by constructor <;> omega) (by constructor <;> omega) (fun h35 => by omega) (fun h35 => ?_)
      refine Go_ldcL (z := 31) dL_told_38 (by decide) cqL_85 ?_
      refine Go_lload_n (i := 1) dL_told_41 rfl rfl ?_
      refine Go_lmul dL_told_42 ?_
      refine Go_ldcL (z := 100) dL_told_43 (by decide) cqL_90 ?_
      refine Go_ald0 dL_told_46 ?_
      refine Go_ild3 dL_told_47 ?_
      refine Go_bipush dL_told_48 (by decide +kernel) ?_
      refine Go_irem dL_told_50 (by omega) (by omega) (by omega) (by omega) ?_
      refine Go_ild3 dL_told_51 ?_
      refine Go_bipush dL_told_52 (by decide +kernel) ?_
      refine Go_idiv dL_told_54 (by omega) (by omega) (by omega) (by omega) ?_
      refine Go_iconst dL_told_55 ?_
      refine Go_cSW4 (d' := 8) (bc' := 2) (bs' := 12) rfl dL_told_56 msL_site rfl lkL_92 (by decide) (by omega) (by omega) (Nat.le_of_ble_eq_true rfl) ?_
      refine e_L_site h (by constructor <;> omega) (by constructor <;> omega) (by constructor <;> omega) (fun x ex hx _ _ => ?_) (fun q => by omega) (fun _ q => absurd ⟨by omega, by omega⟩ q)
      obtain rfl : x = i2 := by omega
      rw [if_pos rfl]
      refine Go_i2lN dL_told_59 ?_
      refine Go_lmul dL_told_60 ?_
      refine Go_ladd dL_told_61 ?_
      refine Go_ald0 dL_told_62 ?_
      refine Go_ild3 dL_told_63 ?_
      refine Go_bipush dL_told_64 (by decide +kernel) ?_
      refine Go_irem dL_told_66 (by omega) (by omega) (by omega) (by omega) ?_
      refine Go_ild3 dL_told_67 ?_
      refine Go_bipush dL_told_68 (by decide +kernel) ?_
      refine Go_idiv dL_told_70 (by omega) (by omega) (by omega) (by omega) ?_
      refine Go_iconst dL_told_71 ?_
      refine Go_cSW4 (d' := 8) (bc' := 2) (bs' := 12) rfl dL_told_72 msL_site rfl lkL_92 (by decide) (by omega) (by omega) (Nat.le_of_ble_eq_true rfl) ?_
      refine e_L_site h (by constructor <;> omega) (by constructor <;> omega) (by constructor <;> omega) (fun y ey hy _ _ => ?_) (fun q => by omega) (fun _ q => absurd ⟨by omega, by omega⟩ q)
      obtain rfl : y = x := by omega
      rw [if_neg (by decide), if_pos rfl]
      refine Go_i2lN dL_told_75 ?_
      refine Go_ladd dL_told_76 ?_
      rw [e]
      refine Go_lstore_n (i := 1) dL_told_77 rfl rfl (Nat.le_of_ble_eq_true rfl) (fun j hj => by have e : j = 0 := (by omega); subst e; rfl) ?_
      refine Go_inc3 dL_told_78 rfl ?_
      refine Go_goto (tgt := 32) dL_told_81 (by decide) ?_
      exact Go_more (by omega) (by omega) (Go_forget (by repeat' (first | exact Or.inl rfl | exact Or.inr rfl | exact Or.inr (lcg (by omega)) | exact trivial | constructor)) (kn2 _ rfl))
    · try dsimp only at hP2
      try dsimp only
      subst hP2
      refine Go_ild3 dL_told_32 ?_
      refine Go_bipush dL_told_33 (by decide +kernel) ?_
      refine Go_icmp_ge (tgt := 84) dL_told_35 (by decide) (by constructor <;> omega) (by constructor <;> omega) (fun h35 => ?_) (fun h35 => by omega)
      refine Go_lload_n (i := 1) dL_told_84 rfl rfl ?_
      refine Go_lreturn dL_told_85 rfl ?_
      exact k
end Told
