theorem shr_fn (n : Nat) : FP.Core.fIsNaN (shrF n) = false := by
  have z : ¬ FP.Core.FZero 1120403456 := fun q => by
    have := FP.Core.zero_iff32.mpr q
    revert this
    decide +kernel
  have f : FP.Core.FFin 1120403456 := by
    have e : FP.Core.val32 1120403456 = .fin false 13107200 (-17) := by decide +kernel
    exact ⟨_, _, _, e⟩
  exact FP.Core.fdiv_out (FP.Core.i2f_fin (Int32.ofInt (n : Int))).notNaN f z
theorem fr_iff {ps : List (List Nat)} {x : Nat} : frD ps x = 0 ↔ ¬ hasF (fun d : Nat => if 0 ≤ nbI (x : Int) (d : Int) ∧ ow ps (nbI (x : Int) (d : Int)).toNat = -1 then 1 else 0) 1 4 = 1 := by
  unfold frD
  rw [orF_0, hasF_iff]
  constructor
  · rintro h ⟨d, hd, e⟩
    have hd0 := h d hd
    have b := nbI_in (x : Int) (d : Int)
    have e : (if 0 ≤ nbI (x : Int) (d : Int) ∧ ow ps (nbI (x : Int) (d : Int)).toNat = -1 then (1 : Int) else 0) = 1 := e
    by_cases c : 0 ≤ nbI (x : Int) (d : Int) ∧ ow ps (nbI (x : Int) (d : Int)).toNat = -1
    · unfold frDF at hd0
      rw [if_pos ⟨c.1, b.2, c.2⟩] at hd0
      have := Nat.two_pow_pos d
      omega
    · rw [if_neg c] at e
      exact absurd e (by decide)
  · intro h d hd
    unfold frDF
    rw [if_neg]
    rintro ⟨c1, -, c3⟩
    exact h ⟨d, hd, by show (if 0 ≤ nbI (x : Int) (d : Int) ∧ ow ps (nbI (x : Int) (d : Int)).toNat = -1 then (1 : Int) else 0) = 1; rw [if_pos ⟨c1, c3⟩]⟩
section So
variable {G : Gm} {w : Wd} {K : Kt} {X : Xt} {s : Sta} {sv : List Sta} {g : Nat → Option Sta} {tx : List Nat} {xx : Int}
/-- behind the first checks: one path, two paths, a turn -/
theorem l_so_tail {z4 z5 z6 z7 z8 z9 : Int} (h : CI w s sv g tx) (hr : RS w s) (k : ∀ w', CI w' s sv g tx → frm w w' ccs → K (vi 1) none w') : Go G cL_isSo mL_isSo none 10 88 528 356 [some (vr 1), some (vi xx), some (vr 68), some (vr 69), some (vi z4), some (vi z5), some (vi z6), some (vi z7), some (vi z8), some (vi z9), none, none, none, none, none, none, none, none] [vi 1] w K X := by
  have ho := h.2.1
  have h5 := ho.1
  have hN : w 68 5 = (s.1.length : Int) := hr.1.2.1
  by_cases c0 : s.1.length = 0
  · skip
    refine Go_ist9 dL_isSo_356 rfl ?_
    refine Go_ild9 dL_isSo_358 ?_
    refine Go_if_eq (tgt := 369) dL_isSo_360 (by decide) (by constructor <;> omega) (fun h360 => by omega) (fun h360 => ?_)
    refine Go_ald2 dL_isSo_363 ?_
    refine Go_iconst dL_isSo_364 ?_
    refine Go_iald dL_isSo_365 (by first | rfl | assumption) trivial (by omega) (by omega) (by decide) ?_
    rw [show (5 : Int).toNat = 5 from rfl, hN]
    refine Go_if_ne (tgt := 372) dL_isSo_366 (by decide) (by constructor <;> omega) (fun h366 => by omega) (fun h366 => ?_)
    refine Go_ild9 dL_isSo_369 ?_
    refine Go_ireturn dL_isSo_371 rfl (by first | rfl | decide | exact nar_b | simp [narrow]) ?_
    exact k w h frm.rfl
  refine Go_ist9 dL_isSo_356 rfl ?_
  refine Go_ild9 dL_isSo_358 ?_
  refine Go_if_eq (tgt := 369) dL_isSo_360 (by decide) (by constructor <;> omega) (fun h360 => by omega) (fun h360 => ?_)
  refine Go_ald2 dL_isSo_363 ?_
  refine Go_iconst dL_isSo_364 ?_
  refine Go_iald dL_isSo_365 (by first | rfl | assumption) trivial (by omega) (by omega) (by decide) ?_
  rw [show (5 : Int).toNat = 5 from rfl, hN]
  refine Go_if_ne (tgt := 372) dL_isSo_366 (by decide) (by constructor <;> omega) (fun h366 => ?_) (fun h366 => by omega)
  refine Go_ild1 dL_isSo_372 ?_
  refine Go_bipush dL_isSo_373 (by decide +kernel) ?_
  refine Go_ishrA dL_isSo_375 (fun v1 r1 => ?_)
  refine Go_ald2 dL_isSo_376 ?_
  refine Go_iconst dL_isSo_377 ?_
  refine Go_iald dL_isSo_378 (by first | rfl | assumption) trivial (by omega) (by omega) (by decide) ?_
  rw [show (5 : Int).toNat = 5 from rfl, hN]
  refine Go_cS2 (d' := 0) (bc' := 0) (bs' := 0) rfl dL_isSo_379 msL_low rfl lkL_151 (by decide) (by omega) (by omega) (Nat.le_of_ble_eq_true rfl) ?_
  refine e_L_low (by omega) (by omega) (fun a ha => ?_)
  refine Go_ist10 dL_isSo_382 rfl ?_
  refine Go_ild1 dL_isSo_384 ?_
  refine Go_bipush dL_isSo_385 (by decide +kernel) ?_
  refine Go_ishrA dL_isSo_387 (fun v2 r2 => ?_)
  refine Go_ald2 dL_isSo_388 ?_
  refine Go_iconst dL_isSo_389 ?_
  refine Go_iald dL_isSo_390 (by first | rfl | assumption) trivial (by omega) (by omega) (by decide) ?_
  rw [show (5 : Int).toNat = 5 from rfl, hN]
  refine Go_cS2 (d' := 0) (bc' := 0) (bs' := 0) rfl dL_isSo_391 msL_low rfl lkL_151 (by decide) (by omega) (by omega) (Nat.le_of_ble_eq_true rfl) ?_
  refine e_L_low (by omega) (by omega) (fun b hb => ?_)
  have ha : a < s.1.length := by omega
  have hb : b < s.1.length := by omega
  have hA := hr.1.2.2 a ha
  have hla := ho.len ha
  have hlen : w 68 (Int.toNat (a : Int)) = ((pth s.1 a).length : Int) := hA.1
  refine Go_ist11 dL_isSo_394 rfl ?_
  refine Go_ild1 dL_isSo_396 ?_
  refine Go_bipush dL_isSo_397 (by decide +kernel) ?_
  refine Go_ishrA dL_isSo_399 (fun v3 r3 => ?_)
  refine Go_ald2 dL_isSo_400 ?_
  refine Go_ild10 dL_isSo_401 ?_
  refine Go_iald dL_isSo_403 (by first | rfl | assumption) trivial (by omega) (by omega) (by decide) ?_
  rw [hlen]
  refine Go_cS2 (d' := 0) (bc' := 0) (bs' := 0) rfl dL_isSo_404 msL_low rfl lkL_151 (by decide) (by omega) (by omega) (Nat.le_of_ble_eq_true rfl) ?_
  refine e_L_low (by omega) (by omega) (fun j hj => ?_)
  have hj : j < (pth s.1 a).length := by omega
  refine Go_ist12 dL_isSo_407 rfl ?_
  refine Go_iconst dL_isSo_409 ?_
  refine Go_ild1 dL_isSo_410 ?_
  refine Go_bipush dL_isSo_411 (by decide +kernel) ?_
  refine Go_ishrA dL_isSo_413 (fun v4 r4 => ?_)
  refine Go_iconst dL_isSo_414 ?_
  refine Go_cS2 (d' := 0) (bc' := 0) (bs' := 0) rfl dL_isSo_415 msL_low rfl lkL_151 (by decide) (by omega) (by omega) (Nat.le_of_ble_eq_true rfl) ?_
  refine e_L_low (by omega) (by omega) (fun q0 hq0 => ?_)
  refine Go_iadd dL_isSo_418 ?_
  rw [show 1 + (q0 : Int) = ((1 + q0 : Nat) : Int) by omega]
  obtain ⟨q, hq⟩ : ∃ q : Nat, q = 1 + q0 := ⟨_, rfl⟩
  rw [← hq]
  have q13 : 1 ≤ q ∧ q ≤ 3 := by omega
  refine Go_ist13 dL_isSo_419 rfl ?_
  refine Go_iconst dL_isSo_421 ?_
  refine Go_ist14 dL_isSo_422 rfl ?_
  refine Go_iconst dL_isSo_424 ?_
  refine Go_ist15 dL_isSo_425 rfl ?_
  refine Go_upTo (n := (pth s.1 a).length) (L := fun i => [some (vr 1), some (vi xx), some (vr 68), some (vr 69), some (vi z4), some (vi z5), some (vi z6), some (vi z7), some (vi z8), some (vi 1), some (vi (a : Int)), some (vi (b : Int)), some (vi (j : Int)), some (vi (q : Int)), some (vi (smF (fun k => nbN s.1 ((pth s.1 a).getD k 0) b) i)), some (vi (i : Int)), none, none]) (P := fun i v => v = w) (by repeat' (first | exact Or.inl rfl | exact Or.inr rfl | exact Or.inr (lcg (by omega)) | exact trivial | constructor)) (rfl) (fun i v hi hP kn => ?_) (fun v hP => ?_)
  · try dsimp only at hP kn
    try dsimp only
    subst hP
    have bi := (ho.lt a).at i
    have z0 : smF (nbF s.1 ((pth s.1 a).getD i 0) b) 0 = 0 := rfl
    refine Go_ild15 dL_isSo_427 ?_
    refine Go_ald2 dL_isSo_429 ?_
    refine Go_ild10 dL_isSo_430 ?_
    refine Go_iald dL_isSo_432 (by first | rfl | assumption) trivial (by omega) (by omega) (by decide) ?_
    rw [hlen]
    refine Go_icmp_ge (tgt := 522) dL_isSo_433 (by decide) (by constructor <;> omega) (by constructor <;> omega) (fun h433 => by omega) (fun h433 => ?_)
    refine Go_iconst dL_isSo_436 ?_
    refine Go_ist16 dL_isSo_437 rfl ?_
    refine Go_upTo (n := 4) (L := fun i2 => [some (vr 1), some (vi xx), some (vr 68), some (vr 69), some (vi z4), some (vi z5), some (vi z6), some (vi z7), some (vi z8), some (vi 1), some (vi (a : Int)), some (vi (b : Int)), some (vi (j : Int)), some (vi (q : Int)), some (vi (smF (fun k => nbN s.1 ((pth s.1 a).getD k 0) b) i + smF (nbF s.1 ((pth s.1 a).getD i 0) b) i2)), some (vi (i : Int)), some (vi (i2 : Int)), none]) (P := fun i2 v2 => v2 = v) (by repeat' (first | exact Or.inl rfl | exact Or.inr rfl | exact Or.inr (lcg (by omega)) | exact trivial | constructor)) (rfl) (fun i2 v2 hi2 hP2 kn2 => ?_) (fun v2 hP2 => ?_)
    · try dsimp only at hP2 kn2
      try dsimp only
      subst hP2
      obtain ⟨t, ht⟩ : ∃ t : Int, t = nbI ((pth s.1 a).getD i 0 : Int) (i2 : Int) := ⟨_, rfl⟩
      have bt : -1 ≤ t ∧ t < 100 := by rw [ht]; exact nbI_in _ _
      have td := whI_dec ho t.toNat
      have ti := whI_in ho t.toNat
      have to := ow_in s.1 t.toNat
      have en : nbF s.1 ((pth s.1 a).getD i 0) b i2 = if (if 0 ≤ t ∧ t < 100 then ow s.1 t.toNat else -1) = (b : Int) then 1 else 0 := by rw [ht]; rfl
      have es : smF (nbF s.1 ((pth s.1 a).getD i 0) b) (i2 + 1) = smF (nbF s.1 ((pth s.1 a).getD i 0) b) i2 + nbF s.1 ((pth s.1 a).getD i 0) b i2 := rfl
      have k507 : ∀ z W : Int, z = nbF s.1 ((pth s.1 a).getD i 0) b i2 → Go G cL_isSo mL_isSo none 10 88 528 507 [some (vr 1), some (vi xx), some (vr 68), some (vr 69), some (vi z4), some (vi z5), some (vi z6), some (vi z7), some (vi z8), some (vi 1), some (vi (a : Int)), some (vi (b : Int)), some (vi (j : Int)), some (vi (q : Int)), some (vi (smF (fun k => nbN s.1 ((pth s.1 a).getD k 0) b) i + smF (nbF s.1 ((pth s.1 a).getD i 0) b) i2)), some (vi (i : Int)), some (vi (i2 : Int)), some (vi W)] [vi z, vi (smF (fun k => nbN s.1 ((pth s.1 a).getD k 0) b) i + smF (nbF s.1 ((pth s.1 a).getD i 0) b) i2)] v2 K X := fun z W hz => by
        subst hz
        refine Go_iadd dL_isSo_507 ?_
        refine Go_ist14 dL_isSo_508 rfl ?_
        refine Go_inc16 dL_isSo_510 rfl ?_
        refine Go_goto (tgt := 439) dL_isSo_513 (by decide) ?_
        refine Go_forget (ls' := _) ?_ (kn2 _ rfl)
        rw [es, ← Int.add_assoc]
        exact (by repeat' (first | exact Or.inl rfl | exact Or.inr rfl | exact Or.inr (lcg (by omega)) | exact trivial | constructor))
      have k483 : ∀ W : Int, (t = -1 ∧ W = -1 ∨ 0 ≤ t ∧ W = whI s.1 t.toNat) → Go G cL_isSo mL_isSo none 10 88 528 483 [some (vr 1), some (vi xx), some (vr 68), some (vr 69), some (vi z4), some (vi z5), some (vi z6), some (vi z7), some (vi z8), some (vi 1), some (vi (a : Int)), some (vi (b : Int)), some (vi (j : Int)), some (vi (q : Int)), some (vi (smF (fun k => nbN s.1 ((pth s.1 a).getD k 0) b) i + smF (nbF s.1 ((pth s.1 a).getD i 0) b) i2)), some (vi (i : Int)), some (vi (i2 : Int)), none] [vi W] v2 K X := fun W hW => by
        refine Go_ist17 dL_isSo_483 rfl ?_
        refine Go_ild14 dL_isSo_485 ?_
        refine Go_ild17 dL_isSo_487 ?_
        refine Go_if_lt (tgt := 506) dL_isSo_489 (by decide) (by constructor <;> omega) (fun h489 => ?_) (fun h489 => ?_)
        · refine Go_iconst dL_isSo_506 ?_
          refine k507 _ _ ?_
          rw [en]
          (repeat' split) <;> omega
        · refine Go_ild17 dL_isSo_492 ?_
          refine Go_bipush dL_isSo_494 (by decide +kernel) ?_
          refine Go_idiv dL_isSo_496 (by omega) (by omega) (by omega) (by omega) ?_
          refine Go_ild11 dL_isSo_497 ?_
          refine Go_icmp_ne (tgt := 506) dL_isSo_499 (by decide) (by constructor <;> omega) (by constructor <;> omega) (fun h499 => ?_) (fun h499 => ?_)
          · refine Go_iconst dL_isSo_506 ?_
            refine k507 _ _ ?_
            rw [en]
            (repeat' split) <;> omega
          · refine Go_iconst dL_isSo_502 ?_
            refine Go_goto (tgt := 507) dL_isSo_503 (by decide) ?_
            refine k507 _ _ ?_
            rw [en]
            (repeat' split) <;> omega
      refine Go_ild16 dL_isSo_439 ?_
      refine Go_iconst dL_isSo_441 ?_
      refine Go_icmp_ge (tgt := 516) dL_isSo_442 (by decide) (by constructor <;> omega) (by constructor <;> omega) (fun h442 => by omega) (fun h442 => ?_)
      refine Go_ild10 dL_isSo_445 ?_
      refine Go_ild15 dL_isSo_447 ?_
      refine Go_ald3 dL_isSo_449 ?_
      refine Go_cS3 (d' := 0) (bc' := 0) (bs' := 0) rfl dL_isSo_450 msL_at rfl lkL_70 (by decide) (by omega) (by omega) (Nat.le_of_ble_eq_true rfl) ?_
      refine e_L_at hr.1.1 (by omega) (by omega) ?_
      rw [hA.2.2 _ (by omega)]
      refine Go_ild16 dL_isSo_453 ?_
      refine Go_cS2 (d' := 0) (bc' := 0) (bs' := 0) rfl dL_isSo_455 msL_go rfl lkL_114 (by decide) (by omega) (by omega) (Nat.le_of_ble_eq_true rfl) ?_
      refine e_L_go bi hi2 ?_
      rw [← ht]
      refine Go_if_ge (tgt := 465) dL_isSo_458 (by decide) (by constructor <;> omega) (fun h458 => ?_) (fun h458 => ?_)
      · refine Go_ild10 dL_isSo_465 ?_
        refine Go_ild15 dL_isSo_467 ?_
        refine Go_ald3 dL_isSo_469 ?_
        refine Go_cS3 (d' := 0) (bc' := 0) (bs' := 0) rfl dL_isSo_470 msL_at rfl lkL_70 (by decide) (by omega) (by omega) (Nat.le_of_ble_eq_true rfl) ?_
        refine e_L_at hr.1.1 (by omega) (by omega) ?_
        rw [hA.2.2 _ (by omega)]
        refine Go_ild16 dL_isSo_473 ?_
        refine Go_cS2 (d' := 0) (bc' := 0) (bs' := 0) rfl dL_isSo_475 msL_go rfl lkL_114 (by decide) (by omega) (by omega) (Nat.le_of_ble_eq_true rfl) ?_
        refine e_L_go bi hi2 ?_
        rw [← ht]
        refine Go_ald2 dL_isSo_478 ?_
        refine Go_ald3 dL_isSo_479 ?_
        refine Go_cS3 (d' := 1) (bc' := 0) (bs' := 0) rfl dL_isSo_480 msL_whose rfl lkL_76 (by decide) (by omega) (by omega) (Nat.le_of_ble_eq_true rfl) ?_
        refine e_L_whoseI hr.1 ho (by omega) (by omega) ?_
        exact k483 _ (by omega)
      · refine Go_iconst dL_isSo_461 ?_
        refine Go_goto (tgt := 483) dL_isSo_462 (by decide) ?_
        exact k483 _ (by omega)
    · try dsimp only at hP2
      try dsimp only
      subst hP2
      refine Go_ild16 dL_isSo_439 ?_
      refine Go_iconst dL_isSo_441 ?_
      refine Go_icmp_ge (tgt := 516) dL_isSo_442 (by decide) (by constructor <;> omega) (by constructor <;> omega) (fun h442 => ?_) (fun h442 => by omega)
      refine Go_inc15 dL_isSo_516 rfl ?_
      refine Go_goto (tgt := 427) dL_isSo_519 (by decide) ?_
      exact Go_forget (by repeat' (first | exact Or.inl rfl | exact Or.inr rfl | exact Or.inr (lcg (by omega)) | exact trivial | constructor)) (kn _ rfl)
  · try dsimp only at hP
    try dsimp only
    subst hP
    have ra : inR (a : Int) := by constructor <;> omega
    have rb : inR (b : Int) := by constructor <;> omega
    have rj : inR (j : Int) := by constructor <;> omega
    have rq : inR (q : Int) := by constructor <;> omega
    have rN : inR (s.1.length : Int) := by constructor <;> omega
    have fin : Go G cL_isSo mL_isSo none 10 5 30 558 [some (vr 1), some (vi xx), some (vr 68), some (vr 69), some (vi z4), some (vi z5), some (vi z6), some (vi z7), some (vi z8), some (vi 1), some (vi (a : Int)), some (vi (b : Int)), some (vi (j : Int)), some (vi (q : Int)), none, none, none, none] [] v K X := by
      refine Go_ald0 dL_isSo_558 ?_
      refine Go_ild10 dL_isSo_559 ?_
      refine Go_ild12 dL_isSo_561 ?_
      refine Go_ild13 dL_isSo_563 ?_
      refine Go_cSW4 (d' := 9) (bc' := 3) (bs' := 18) rfl dL_isSo_565 msL_ifTurned rfl lkL_168 (by decide) (by omega) (by omega) (Nat.le_of_ble_eq_true rfl) ?_
      refine e_L_ifTurned h ra rj rq (fun w1 p1 j1 q1 e1 e2 e3 e4 e5 e6 e7 c1 f1 => ?_) (fun e1 => absurd hj (e1 a j rfl ha rfl)) (fun p1 j1 e1 e2 e3 e4 e5 => absurd ⟨by omega, by omega⟩ e5)
      have ep : p1 = a := by omega
      have ej : j1 = j := by omega
      have eq : q1 = q := by omega
      rw [ep, ej, eq]
      have r1 : RS w1 s := hr.frm f1 (by decide +kernel) (by decide +kernel)
      refine Go_ild10 dL_isSo_568 ?_
      refine Go_ild12 dL_isSo_570 ?_
      refine Go_ild13 dL_isSo_572 ?_
      refine Go_ald2 dL_isSo_574 ?_
      refine Go_ald3 dL_isSo_575 ?_
      refine Go_cS5 (d' := 2) (bc' := 0) (bs' := 0) rfl dL_isSo_576 msL_whyNotTurned rfl lkL_125 (by decide) (by omega) (by omega) (Nat.le_of_ble_eq_true rfl) ?_
      refine e_L_whyNotTurned r1.1 ho ha hj q13.1 q13.2 ?_
      refine Go_icmpN_ne 599 dL_isSo_579 (by decide) ?_
      refine Go_ald0 dL_isSo_582 ?_
      refine Go_ald2 dL_isSo_583 ?_
      refine Go_iconst dL_isSo_584 ?_
      refine Go_iald dL_isSo_585 (by first | rfl | assumption) trivial (by omega) (by omega) (by decide) ?_
      rw [show (5 : Int).toNat = 5 from rfl, r1.1.2.1]
      refine Go_iconst dL_isSo_586 ?_
      refine Go_cSW3 (d' := 8) (bc' := 2) (bs' := 12) rfl dL_isSo_587 msL_path rfl lkL_145 (by decide) (by omega) (by omega) (Nat.le_of_ble_eq_true rfl) ?_
      refine e_L_path c1 rN (by constructor <;> omega) (fun p2 e8 e9 _ _ => by omega) (fun _ => ?_) (fun e8 e9 => by omega)
      refine Go_bipush dL_isSo_590 (by decide +kernel) ?_
      refine Go_icmpN_ne 599 dL_isSo_592 (by decide) ?_
      refine Go_iconst dL_isSo_595 ?_
      refine Go_goto (tgt := 600) dL_isSo_596 (by decide) ?_
      refine Go_ireturn dL_isSo_600 rfl (by first | rfl | decide | exact nar_b | simp [narrow]) ?_
      exact k w1 c1 f1
    by_cases cab : a = b
    · skip
      refine Go_ild15 dL_isSo_427 ?_
      refine Go_ald2 dL_isSo_429 ?_
      refine Go_ild10 dL_isSo_430 ?_
      refine Go_iald dL_isSo_432 (by first | rfl | assumption) trivial (by omega) (by omega) (by decide) ?_
      rw [hlen]
      refine Go_icmp_ge (tgt := 522) dL_isSo_433 (by decide) (by constructor <;> omega) (by constructor <;> omega) (fun h433 => ?_) (fun h433 => by omega)
      refine Go_ald0 dL_isSo_522 ?_
      refine Go_ild10 dL_isSo_523 ?_
      refine Go_ald2 dL_isSo_525 ?_
      refine Go_ald3 dL_isSo_526 ?_
      refine Go_cS4 (d' := 9) (bc' := 80) (bs' := 480) rfl dL_isSo_527 msL_isPath rfl lkL_162 (by decide) (by omega) (by omega) (Nat.le_of_ble_eq_true rfl) ?_
      refine e_L_isPath h hr ha ?_
      refine Go_if_eq (tgt := 599) dL_isSo_530 (by decide) (by constructor <;> omega) (fun h530 => by omega) (fun h530 => ?_)
      refine Go_ald0 dL_isSo_533 ?_
      refine Go_ild10 dL_isSo_534 ?_
      refine Go_ild11 dL_isSo_536 ?_
      refine Go_cSW3 (d' := 9) (bc' := 3) (bs' := 18) rfl dL_isSo_538 msL_touching rfl lkL_166 (by decide) (by omega) (by omega) (Nat.le_of_ble_eq_true rfl) ?_
      refine e_L_touching h ra rb (fun p1 o1 e1 e2 e3 e4 e5 => by omega) (fun e1 => absurd ⟨by omega, by omega, by omega, by omega⟩ e1) (fun _ _ _ => ?_)
      refine Go_ild10 dL_isSo_541 ?_
      refine Go_ild11 dL_isSo_543 ?_
      refine Go_icmp_ne (tgt := 553) dL_isSo_545 (by decide) (by constructor <;> omega) (by constructor <;> omega) (fun h545 => by omega) (fun h545 => ?_)
      refine Go_bipush dL_isSo_548 (by decide +kernel) ?_
      refine Go_goto (tgt := 555) dL_isSo_550 (by decide) ?_
      refine Go_icmpN_ne 599 dL_isSo_555 (by decide) ?_
      exact Go_more (by omega) (by omega) (Go_forget (by repeat' (first | exact Or.inl rfl | exact Or.inr rfl | exact Or.inr (lcg (by omega)) | exact trivial | constructor)) fin)
    · skip
      refine Go_ild15 dL_isSo_427 ?_
      refine Go_ald2 dL_isSo_429 ?_
      refine Go_ild10 dL_isSo_430 ?_
      refine Go_iald dL_isSo_432 (by first | rfl | assumption) trivial (by omega) (by omega) (by decide) ?_
      rw [hlen]
      refine Go_icmp_ge (tgt := 522) dL_isSo_433 (by decide) (by constructor <;> omega) (by constructor <;> omega) (fun h433 => ?_) (fun h433 => by omega)
      refine Go_ald0 dL_isSo_522 ?_
      refine Go_ild10 dL_isSo_523 ?_
      refine Go_ald2 dL_isSo_525 ?_
      refine Go_ald3 dL_isSo_526 ?_
      refine Go_cS4 (d' := 9) (bc' := 80) (bs' := 480) rfl dL_isSo_527 msL_isPath rfl lkL_162 (by decide) (by omega) (by omega) (Nat.le_of_ble_eq_true rfl) ?_
      refine e_L_isPath h hr ha ?_
      refine Go_if_eq (tgt := 599) dL_isSo_530 (by decide) (by constructor <;> omega) (fun h530 => by omega) (fun h530 => ?_)
      refine Go_ald0 dL_isSo_533 ?_
      refine Go_ild10 dL_isSo_534 ?_
      refine Go_ild11 dL_isSo_536 ?_
      refine Go_cSW3 (d' := 9) (bc' := 3) (bs' := 18) rfl dL_isSo_538 msL_touching rfl lkL_166 (by decide) (by omega) (by omega) (Nat.le_of_ble_eq_true rfl) ?_
      refine e_L_touching h ra rb (fun p1 o1 e1 e2 e3 e4 e5 => ?_) (fun e1 => absurd ⟨by omega, by omega, by omega, by omega⟩ e1) (fun _ _ e1 => absurd (by omega) cab)
      rw [show p1 = a by omega, show o1 = b by omega, show toC s.1 a b = smF (fun k => nbN s.1 ((pth s.1 a).getD k 0) b) (pth s.1 a).length from rfl]
      refine Go_ild10 dL_isSo_541 ?_
      refine Go_ild11 dL_isSo_543 ?_
      refine Go_icmp_ne (tgt := 553) dL_isSo_545 (by decide) (by constructor <;> omega) (by constructor <;> omega) (fun h545 => ?_) (fun h545 => by omega)
      refine Go_ild14 dL_isSo_553 ?_
      refine Go_icmpN_ne 599 dL_isSo_555 (by decide) ?_
      exact Go_more (by omega) (by omega) (Go_forget (by repeat' (first | exact Or.inl rfl | exact Or.inr rfl | exact Or.inr (lcg (by omega)) | exact trivial | constructor)) fin)
theorem e_L_isSo (h : CI w s sv g tx) (hr : RS w s) (k : ∀ w', CI w' s sv g tx → frm w w' ccs → K (vi 1) none w') : Ev G yL_isSo cL_isSo 18 mL_isSo none 10 99 594 [vr 1, vi xx, vr 68, vr 69] w K X := by
  have ho := h.2.1
  have h5 := ho.1
  have hN : w 68 5 = (s.1.length : Int) := hr.1.2.1
  have tl := orF_lt (f := trpF s.1) (n := s.1.length) (m := 5) (fun i hi => by
    unfold trpF
    split
    · exact Nat.pow_lt_pow_right (by decide) (by omega)
    · exact Nat.two_pow_pos 5)
  refine Ev_intro msL_isSo.1 rfl (fun h => by cases h) (allc1 rfl) (Nat.le_of_ble_eq_true rfl) (Or.inl rfl) ?_
  show Go G cL_isSo mL_isSo none 10 99 594 0 [some (vr 1), some (vi xx), some (vr 68), some (vr 69), none, none, none, none, none, none, none, none, none, none, none, none, none, none] [] w K X
  refine Go_iconst dL_isSo_0 ?_
  refine Go_ist4 dL_isSo_1 rfl ?_
  refine Go_iconst dL_isSo_3 ?_
  refine Go_ist5 dL_isSo_4 rfl ?_
  refine Go_iconst dL_isSo_6 ?_
  refine Go_ist6 dL_isSo_7 rfl ?_
  refine Go_upTo (n := s.1.length) (L := fun i => [some (vr 1), some (vi xx), some (vr 68), some (vr 69), some (vi (smF (fun p => ((pth s.1 p).length : Int)) i)), some (vi ((orF (trpF s.1) i : Nat) : Int)), some (vi (i : Int)), none, none, none, none, none, none, none, none, none, none, none]) (P := fun i v => v = w) (by repeat' (first | exact Or.inl rfl | exact Or.inr rfl | exact Or.inr (lcg (by omega)) | exact trivial | constructor)) (rfl) (fun i v hi hP kn => ?_) (fun v hP => ?_)
  · try dsimp only at hP kn
    try dsimp only
    subst hP
    have hA := hr.1.2.2 i hi
    have hlen : v 68 (Int.toNat (i : Int)) = ((pth s.1 i).length : Int) := hA.1
    have hli := ho.len hi
    have bh : hdL (pth s.1 i) < 100 := (ho.lt i).at _
    have hh : (pth s.1 i).getD ((pth s.1 i).length - 1) 0 = hdL (pth s.1 i) := rfl
    obtain ⟨f, hf⟩ : ∃ f : Nat → Int, f = fun d : Nat => if 0 ≤ nbI (hdL (pth s.1 i) : Int) (d : Int) ∧ ow s.1 (nbI (hdL (pth s.1 i) : Int) (d : Int)).toNat = -1 then 1 else 0 := ⟨_, rfl⟩
    have fr := fr_iff (ps := s.1) (x := hdL (pth s.1 i))
    rw [← hf] at fr
    have e1 : smF (fun p => ((pth s.1 p).length : Int)) (i + 1) = smF (fun p => ((pth s.1 p).length : Int)) i + ((pth s.1 i).length : Int) := rfl
    have e2 : orF (trpF s.1) (i + 1) = orF (trpF s.1) i ||| trpF s.1 i := rfl
    have e3 : trpF s.1 i = if frD s.1 (hdL (pth s.1 i)) = 0 then 2 ^ i else 0 := rfl
    refine Go_ild6 dL_isSo_9 ?_
    refine Go_ald2 dL_isSo_11 ?_
    refine Go_iconst dL_isSo_12 ?_
    refine Go_iald dL_isSo_13 (by first | rfl | assumption) trivial (by omega) (by omega) (by decide) ?_
    rw [show (5 : Int).toNat = 5 from rfl, hN]
    refine Go_icmp_ge (tgt := 114) dL_isSo_14 (by decide) (by constructor <;> omega) (by constructor <;> omega) (fun h14 => by omega) (fun h14 => ?_)
    refine Go_ild4 dL_isSo_17 ?_
    refine Go_ald2 dL_isSo_19 ?_
    refine Go_ild6 dL_isSo_20 ?_
    refine Go_iald dL_isSo_22 (by first | rfl | assumption) trivial (by omega) (by omega) (by decide) ?_
    rw [hlen]
    refine Go_iadd dL_isSo_23 ?_
    refine Go_ist4 dL_isSo_24 rfl ?_
    refine Go_iconst dL_isSo_26 ?_
    refine Go_ist7 dL_isSo_27 rfl ?_
    refine Go_iconst dL_isSo_29 ?_
    refine Go_ist8 dL_isSo_30 rfl ?_
    refine Go_upTo (n := 4) (L := fun i2 => [some (vr 1), some (vi xx), some (vr 68), some (vr 69), some (vi (smF (fun p => ((pth s.1 p).length : Int)) (i + 1))), some (vi ((orF (trpF s.1) i : Nat) : Int)), some (vi (i : Int)), some (vi (hasF f 1 i2)), some (vi (i2 : Int)), none, none, none, none, none, none, none, none, none]) (P := fun i2 v2 => v2 = v) (by repeat' (first | exact Or.inl rfl | exact Or.inr rfl | exact Or.inr (lcg (by omega)) | exact trivial | constructor)) (rfl) (fun i2 v2 hi2 hP2 kn2 => ?_) (fun v2 hP2 => ?_)
    · try dsimp only at hP2 kn2
      try dsimp only
      subst hP2
      obtain ⟨t, ht⟩ : ∃ t : Int, t = nbI (hdL (pth s.1 i) : Int) (i2 : Int) := ⟨_, rfl⟩
      have bt : -1 ≤ t ∧ t < 100 := by rw [ht]; exact nbI_in _ _
      have td := whI_dec ho t.toNat
      have ti := whI_in ho t.toNat
      have h3i := hasF_in f 1 i2
      have he : hasF f 1 (i2 + 1) = if hasF f 1 i2 = 1 ∨ f i2 = 1 then 1 else 0 := rfl
      have hfi : f i2 = if 0 ≤ t ∧ ow s.1 t.toNat = -1 then 1 else 0 := by rw [hf, ht]
      have k82 : ∀ z : Int, z = hasF f 1 (i2 + 1) → Go G cL_isSo mL_isSo none 10 99 594 82 [some (vr 1), some (vi xx), some (vr 68), some (vr 69), some (vi (smF (fun p => ((pth s.1 p).length : Int)) (i + 1))), some (vi ((orF (trpF s.1) i : Nat) : Int)), some (vi (i : Int)), some (vi (hasF f 1 i2)), some (vi (i2 : Int)), some (vi t), none, none, none, none, none, none, none, none] [vi z] v2 K X := fun z hz => by
        subst hz
        refine Go_ist7 dL_isSo_82 rfl ?_
        refine Go_inc8 dL_isSo_84 rfl ?_
        refine Go_goto (tgt := 32) dL_isSo_87 (by decide) ?_
        exact Go_forget (by repeat' (first | exact Or.inl rfl | exact Or.inr rfl | exact Or.inr (lcg (by omega)) | exact trivial | constructor)) (kn2 _ rfl)
      refine Go_ild8 dL_isSo_32 ?_
      refine Go_iconst dL_isSo_34 ?_
      refine Go_icmp_ge (tgt := 90) dL_isSo_35 (by decide) (by constructor <;> omega) (by constructor <;> omega) (fun h35 => by omega) (fun h35 => ?_)
      refine Go_ild6 dL_isSo_38 ?_
      refine Go_ald2 dL_isSo_40 ?_
      refine Go_ild6 dL_isSo_41 ?_
      refine Go_iald dL_isSo_43 (by first | rfl | assumption) trivial (by omega) (by omega) (by decide) ?_
      refine Go_iconst dL_isSo_44 ?_
      refine Go_isub dL_isSo_45 ?_
      refine Go_ald3 dL_isSo_46 ?_
      rw [hlen, show ((pth s.1 i).length : Int) - 1 = (((pth s.1 i).length - 1 : Nat) : Int) by omega]
      refine Go_cS3 (d' := 0) (bc' := 0) (bs' := 0) rfl dL_isSo_47 msL_at rfl lkL_70 (by decide) (by omega) (by omega) (Nat.le_of_ble_eq_true rfl) ?_
      refine e_L_at hr.1.1 (by omega) (by omega) ?_
      rw [hA.2.2 _ (by omega), hh]
      refine Go_ild8 dL_isSo_50 ?_
      refine Go_cS2 (d' := 0) (bc' := 0) (bs' := 0) rfl dL_isSo_52 msL_go rfl lkL_114 (by decide) (by omega) (by omega) (Nat.le_of_ble_eq_true rfl) ?_
      refine e_L_go bh hi2 ?_
      rw [← ht]
      refine Go_ist9 dL_isSo_55 rfl ?_
      refine Go_ild7 dL_isSo_57 ?_
      refine Go_if_ne (tgt := 77) dL_isSo_59 (by decide) (by constructor <;> omega) (fun h59 => ?_) (fun h59 => ?_)
      · refine Go_iconst dL_isSo_77 ?_
        refine Go_goto (tgt := 82) dL_isSo_78 (by decide) ?_
        refine k82 _ ?_
        rw [he, hfi]
        (repeat' split) <;> omega
      · refine Go_ild9 dL_isSo_62 ?_
        refine Go_if_lt (tgt := 81) dL_isSo_64 (by decide) (by constructor <;> omega) (fun h64 => ?_) (fun h64 => ?_)
        · refine Go_iconst dL_isSo_81 ?_
          refine k82 _ ?_
          rw [he, hfi]
          (repeat' split) <;> omega
        · refine Go_ild9 dL_isSo_67 ?_
          refine Go_ald2 dL_isSo_69 ?_
          refine Go_ald3 dL_isSo_70 ?_
          refine Go_cS3 (d' := 1) (bc' := 0) (bs' := 0) rfl dL_isSo_71 msL_whose rfl lkL_76 (by decide) (by omega) (by omega) (Nat.le_of_ble_eq_true rfl) ?_
          refine e_L_whoseI hr.1 ho (by omega) (by omega) ?_
          refine Go_if_ge (tgt := 81) dL_isSo_74 (by decide) (by constructor <;> omega) (fun h74 => ?_) (fun h74 => ?_)
          · refine Go_iconst dL_isSo_81 ?_
            refine k82 _ ?_
            rw [he, hfi]
            (repeat' split) <;> omega
          · refine Go_iconst dL_isSo_77 ?_
            refine Go_goto (tgt := 82) dL_isSo_78 (by decide) ?_
            refine k82 _ ?_
            rw [he, hfi]
            (repeat' split) <;> omega
    · try dsimp only at hP2
      try dsimp only
      subst hP2
      have h3i := hasF_in f 1 4
      have k105 : ∀ m : Nat, m = trpF s.1 i → Go G cL_isSo mL_isSo none 10 99 594 105 [some (vr 1), some (vi xx), some (vr 68), some (vr 69), some (vi (smF (fun p => ((pth s.1 p).length : Int)) (i + 1))), some (vi ((orF (trpF s.1) i : Nat) : Int)), some (vi (i : Int)), none, none, none, none, none, none, none, none, none, none, none] [vi (m : Int), vi ((orF (trpF s.1) i : Nat) : Int)] v2 K X := fun z hz => by
        subst hz
        refine Go_ior dL_isSo_105 ?_
        refine Go_ist5 dL_isSo_106 rfl ?_
        refine Go_inc6 dL_isSo_108 rfl ?_
        refine Go_goto (tgt := 9) dL_isSo_111 (by decide) ?_
        exact Go_forget (by repeat' (first | exact Or.inl rfl | exact Or.inr rfl | exact Or.inr (lcg (by omega)) | exact trivial | constructor)) (kn _ rfl)
      refine Go_ild8 dL_isSo_32 ?_
      refine Go_iconst dL_isSo_34 ?_
      refine Go_icmp_ge (tgt := 90) dL_isSo_35 (by decide) (by constructor <;> omega) (by constructor <;> omega) (fun h35 => ?_) (fun h35 => by omega)
      refine Go_ild5 dL_isSo_90 ?_
      refine Go_ild7 dL_isSo_92 ?_
      refine Go_if_eq (tgt := 101) dL_isSo_94 (by decide) (by constructor <;> omega) (fun h94 => ?_) (fun h94 => ?_)
      · refine Go_iconst dL_isSo_101 ?_
        refine Go_ild6 dL_isSo_102 ?_
        refine Go_ishl dL_isSo_104 (by omega) (by omega) ?_
        first | exact Go_forget (by repeat' (first | exact Or.inl rfl | exact Or.inr rfl | exact Or.inr (lcg (by omega)) | exact trivial | constructor)) (k105 0 (by rw [e3, if_neg (by rw [fr]; omega)])) | exact Go_forget (by repeat' (first | exact Or.inl rfl | exact Or.inr rfl | exact Or.inr (lcg (by omega)) | exact trivial | constructor)) (k105 (2 ^ (i : Int).toNat) (by rw [e3, if_pos (by rw [fr]; omega), Int.toNat_natCast]))
      · refine Go_iconst dL_isSo_97 ?_
        refine Go_goto (tgt := 105) dL_isSo_98 (by decide) ?_
        first | exact Go_forget (by repeat' (first | exact Or.inl rfl | exact Or.inr rfl | exact Or.inr (lcg (by omega)) | exact trivial | constructor)) (k105 0 (by rw [e3, if_neg (by rw [fr]; omega)])) | exact Go_forget (by repeat' (first | exact Or.inl rfl | exact Or.inr rfl | exact Or.inr (lcg (by omega)) | exact trivial | constructor)) (k105 (2 ^ (i : Int).toNat) (by rw [e3, if_pos (by rw [fr]; omega), Int.toNat_natCast]))
  · try dsimp only at hP
    try dsimp only
    subst hP
    rw [← tot_sm]
    refine Go_ild6 dL_isSo_9 ?_
    refine Go_ald2 dL_isSo_11 ?_
    refine Go_iconst dL_isSo_12 ?_
    refine Go_iald dL_isSo_13 (by first | rfl | assumption) trivial (by omega) (by omega) (by decide) ?_
    rw [show (5 : Int).toNat = 5 from rfl, hN]
    refine Go_icmp_ge (tgt := 114) dL_isSo_14 (by decide) (by constructor <;> omega) (by constructor <;> omega) (fun h14 => ?_) (fun h14 => by omega)
    refine Go_ild1 dL_isSo_114 ?_
    refine Go_bipush dL_isSo_115 (by decide +kernel) ?_
    refine Go_cS2 (d' := 0) (bc' := 0) (bs' := 0) rfl dL_isSo_117 msL_low rfl lkL_151 (by decide) (by omega) (by omega) (Nat.le_of_ble_eq_true rfl) ?_
    refine e_L_low (by omega) (by omega) (fun j hj => ?_)
    have hj : j < 100 := by omega
    have wi := whI_in ho j
    have wd := whI_dec ho j
    have oi := ow_in s.1 j
    have pi := ho.plc j
    refine Go_ist6 dL_isSo_120 rfl ?_
    refine Go_ild6 dL_isSo_122 ?_
    refine Go_ald2 dL_isSo_124 ?_
    refine Go_ald3 dL_isSo_125 ?_
    refine Go_cS3 (d' := 1) (bc' := 0) (bs' := 0) rfl dL_isSo_126 msL_whose rfl lkL_76 (by decide) (by omega) (by omega) (Nat.le_of_ble_eq_true rfl) ?_
    refine e_L_whose hr.1 ho hj ?_
    refine Go_ist7 dL_isSo_129 rfl ?_
    refine Go_iconst dL_isSo_131 ?_
    refine Go_ist8 dL_isSo_132 rfl ?_
    refine Go_iconst dL_isSo_134 ?_
    refine Go_ist9 dL_isSo_135 rfl ?_
    refine Go_upTo (n := 4) (L := fun i2 => [some (vr 1), some (vi xx), some (vr 68), some (vr 69), some (vi (tot s.1 : Int)), some (vi ((orF (trpF s.1) s.1.length : Nat) : Int)), some (vi (j : Int)), some (vi (whI s.1 j)), some (vi ((orF (frDF s.1 j) i2 : Nat) : Int)), some (vi (i2 : Int)), none, none, none, none, none, none, none, none]) (P := fun i2 v2 => v2 = v) (by repeat' (first | exact Or.inl rfl | exact Or.inr rfl | exact Or.inr (lcg (by omega)) | exact trivial | constructor)) (rfl) (fun i2 v2 hi2 hP2 kn2 => ?_) (fun v2 hP2 => ?_)
    · try dsimp only at hP2 kn2
      try dsimp only
      subst hP2
      obtain ⟨t, ht⟩ : ∃ t : Int, t = nbI (j : Int) (i2 : Int) := ⟨_, rfl⟩
      have bt : -1 ≤ t ∧ t < 100 := by rw [ht]; exact nbI_in _ _
      have td := whI_dec ho t.toNat
      have ti := whI_in ho t.toNat
      have e3 : frDF s.1 j i2 = if 0 ≤ t ∧ t < 100 ∧ ow s.1 t.toNat = -1 then 2 ^ i2 else 0 := by rw [ht]; rfl
      have k178 : ∀ m : Nat, m = frDF s.1 j i2 → Go G cL_isSo mL_isSo none 10 99 594 178 [some (vr 1), some (vi xx), some (vr 68), some (vr 69), some (vi (tot s.1 : Int)), some (vi ((orF (trpF s.1) s.1.length : Nat) : Int)), some (vi (j : Int)), some (vi (whI s.1 j)), some (vi ((orF (frDF s.1 j) i2 : Nat) : Int)), some (vi (i2 : Int)), none, none, none, none, none, none, none, none] [vi (m : Int), vi ((orF (frDF s.1 j) i2 : Nat) : Int)] v2 K X := fun z hz => by
        subst hz
        refine Go_ior dL_isSo_178 ?_
        refine Go_ist8 dL_isSo_179 rfl ?_
        refine Go_inc9 dL_isSo_181 rfl ?_
        refine Go_goto (tgt := 137) dL_isSo_184 (by decide) ?_
        exact Go_forget (by repeat' (first | exact Or.inl rfl | exact Or.inr rfl | exact Or.inr (lcg (by omega)) | exact trivial | constructor)) (kn2 _ rfl)
      refine Go_ild9 dL_isSo_137 ?_
      refine Go_iconst dL_isSo_139 ?_
      refine Go_icmp_ge (tgt := 187) dL_isSo_140 (by decide) (by constructor <;> omega) (by constructor <;> omega) (fun h140 => by omega) (fun h140 => ?_)
      refine Go_ild8 dL_isSo_143 ?_
      refine Go_ild6 dL_isSo_145 ?_
      refine Go_ild9 dL_isSo_147 ?_
      refine Go_cS2 (d' := 0) (bc' := 0) (bs' := 0) rfl dL_isSo_149 msL_go rfl lkL_114 (by decide) (by omega) (by omega) (Nat.le_of_ble_eq_true rfl) ?_
      refine e_L_go hj hi2 ?_
      rw [← ht]
      refine Go_if_lt (tgt := 177) dL_isSo_152 (by decide) (by constructor <;> omega) (fun h152 => ?_) (fun h152 => ?_)
      · refine Go_iconst dL_isSo_177 ?_
        first | exact k178 0 (by rw [e3, if_neg (by omega)]) | exact k178 (2 ^ (i2 : Int).toNat) (by rw [e3, if_pos (by omega), Int.toNat_natCast])
      · refine Go_ild6 dL_isSo_155 ?_
        refine Go_ild9 dL_isSo_157 ?_
        refine Go_cS2 (d' := 0) (bc' := 0) (bs' := 0) rfl dL_isSo_159 msL_go rfl lkL_114 (by decide) (by omega) (by omega) (Nat.le_of_ble_eq_true rfl) ?_
        refine e_L_go hj hi2 ?_
        rw [← ht]
        refine Go_ald2 dL_isSo_162 ?_
        refine Go_ald3 dL_isSo_163 ?_
        refine Go_cS3 (d' := 1) (bc' := 0) (bs' := 0) rfl dL_isSo_164 msL_whose rfl lkL_76 (by decide) (by omega) (by omega) (Nat.le_of_ble_eq_true rfl) ?_
        refine e_L_whoseI hr.1 ho (by omega) (by omega) ?_
        refine Go_if_ge (tgt := 177) dL_isSo_167 (by decide) (by constructor <;> omega) (fun h167 => ?_) (fun h167 => ?_)
        · refine Go_iconst dL_isSo_177 ?_
          first | exact k178 0 (by rw [e3, if_neg (by omega)]) | exact k178 (2 ^ (i2 : Int).toNat) (by rw [e3, if_pos (by omega), Int.toNat_natCast])
        · refine Go_iconst dL_isSo_170 ?_
          refine Go_ild9 dL_isSo_171 ?_
          refine Go_ishl dL_isSo_173 (by omega) (by omega) ?_
          refine Go_goto (tgt := 178) dL_isSo_174 (by decide) ?_
          first | exact k178 0 (by rw [e3, if_neg (by omega)]) | exact k178 (2 ^ (i2 : Int).toNat) (by rw [e3, if_pos (by omega), Int.toNat_natCast])
    · try dsimp only at hP2
      try dsimp only
      subst hP2
      have en := numI_k hj
      have bf := frD_lt s.1 j
      have ef : orF (frDF s.1 j) 4 = frD s.1 j := rfl
      have c0 : cntA s sv tx 0 = (s.1.length : Int) := rfl
      have c1 : cntA s sv tx 1 = (tot s.1 : Int) := rfl
      have c2 : cntA s sv tx 2 = s.2.1 := rfl
      have c3 : cntA s sv tx 3 = s.2.2.1 := rfl
      have c4 : cntA s sv tx 4 = s.2.2.2 := rfl
      rw [ef]
      have k328 : ∀ z : Int, z = plc s.1 j → Go G cL_isSo mL_isSo none 10 90 540 328 [some (vr 1), some (vi xx), some (vr 68), some (vr 69), some (vi (tot s.1 : Int)), some (vi ((orF (trpF s.1) s.1.length : Nat) : Int)), some (vi (j : Int)), some (vi (whI s.1 j)), some (vi ((frD s.1 j : Nat) : Int)), some (vi 4), none, none, none, none, none, none, none, none] [vi z, vi (plc s.1 j)] v2 K X := fun z hz => by
        subst hz
        refine Go_icmpN_ne 355 dL_isSo_328 (by decide) ?_
        refine Go_ald0 dL_isSo_331 ?_
        refine Go_ild6 dL_isSo_332 ?_
        refine Go_bipush dL_isSo_334 (by decide +kernel) ?_
        refine Go_irem dL_isSo_336 (by omega) (by omega) (by omega) (by omega) ?_
        refine Go_ild6 dL_isSo_337 ?_
        refine Go_bipush dL_isSo_339 (by decide +kernel) ?_
        refine Go_idiv dL_isSo_341 (by omega) (by omega) (by omega) (by omega) ?_
        refine Go_iconst dL_isSo_342 ?_
        refine Go_cSW4 (d' := 8) (bc' := 2) (bs' := 12) rfl dL_isSo_343 msL_site rfl lkL_92 (by decide) (by omega) (by omega) (Nat.le_of_ble_eq_true rfl) ?_
        refine e_L_site h (by constructor <;> omega) (by constructor <;> omega) (by constructor <;> omega) (fun x ex hx' _ _ => ?_) (fun q => by omega) (fun _ q => absurd ⟨by omega, by omega⟩ q)
        rw [show x = j by omega, if_neg (by decide), if_neg (by decide)]
        refine Go_ild8 dL_isSo_346 ?_
        refine Go_icmpN_ne 355 dL_isSo_348 (by decide) ?_
        refine Go_iconst dL_isSo_351 ?_
        refine Go_goto (tgt := 356) dL_isSo_352 (by decide) ?_
        exact Go_more (by omega) (by omega) (Go_forget (by repeat' (first | exact Or.inl rfl | exact Or.inr rfl | exact Or.inr (lcg (by omega)) | exact trivial | constructor)) (l_so_tail h hr k))
      have k296 : ∀ z : Int, z = ow s.1 j → Go G cL_isSo mL_isSo none 10 92 552 296 [some (vr 1), some (vi xx), some (vr 68), some (vr 69), some (vi (tot s.1 : Int)), some (vi ((orF (trpF s.1) s.1.length : Nat) : Int)), some (vi (j : Int)), some (vi (whI s.1 j)), some (vi ((frD s.1 j : Nat) : Int)), some (vi 4), none, none, none, none, none, none, none, none] [vi z, vi (ow s.1 j)] v2 K X := fun z hz => by
        subst hz
        refine Go_icmpN_ne 355 dL_isSo_296 (by decide) ?_
        refine Go_ald0 dL_isSo_299 ?_
        refine Go_ild6 dL_isSo_300 ?_
        refine Go_bipush dL_isSo_302 (by decide +kernel) ?_
        refine Go_irem dL_isSo_304 (by omega) (by omega) (by omega) (by omega) ?_
        refine Go_ild6 dL_isSo_305 ?_
        refine Go_bipush dL_isSo_307 (by decide +kernel) ?_
        refine Go_idiv dL_isSo_309 (by omega) (by omega) (by omega) (by omega) ?_
        refine Go_iconst dL_isSo_310 ?_
        refine Go_cSW4 (d' := 8) (bc' := 2) (bs' := 12) rfl dL_isSo_311 msL_site rfl lkL_92 (by decide) (by omega) (by omega) (Nat.le_of_ble_eq_true rfl) ?_
        refine e_L_site h (by constructor <;> omega) (by constructor <;> omega) (by constructor <;> omega) (fun x ex hx' _ _ => ?_) (fun q => by omega) (fun _ q => absurd ⟨by omega, by omega⟩ q)
        rw [show x = j by omega, if_neg (by decide), if_pos rfl]
        refine Go_ild7 dL_isSo_314 ?_
        refine Go_if_ge (tgt := 323) dL_isSo_316 (by decide) (by constructor <;> omega) (fun h316 => ?_) (fun h316 => ?_)
        · refine Go_ild7 dL_isSo_323 ?_
          refine Go_bipush dL_isSo_325 (by decide +kernel) ?_
          refine Go_irem dL_isSo_327 (by omega) (by omega) (by omega) (by omega) ?_
          exact Go_more (by omega) (by omega) (Go_forget (by repeat' (first | exact Or.inl rfl | exact Or.inr rfl | exact Or.inr (lcg (by omega)) | exact trivial | constructor)) (k328 _ (by rcases ow_cases ho.nd j with ⟨-, e1, e2⟩ | ⟨p, hp, -, e1, e2⟩ <;> omega)))
        · refine Go_iconst dL_isSo_319 ?_
          refine Go_goto (tgt := 328) dL_isSo_320 (by decide) ?_
          exact Go_more (by omega) (by omega) (Go_forget (by repeat' (first | exact Or.inl rfl | exact Or.inr rfl | exact Or.inr (lcg (by omega)) | exact trivial | constructor)) (k328 _ (by rcases ow_cases ho.nd j with ⟨-, e1, e2⟩ | ⟨p, hp, -, e1, e2⟩ <;> omega)))
      have nE : ∀ z : Int, 0 ≤ z → z < 5 → inR z := fun z h1 h2 => by constructor <;> omega
      refine Go_ild9 dL_isSo_137 ?_
      refine Go_iconst dL_isSo_139 ?_
      refine Go_icmp_ge (tgt := 187) dL_isSo_140 (by decide) (by constructor <;> omega) (by constructor <;> omega) (fun h140 => ?_) (fun h140 => by omega)
      refine Go_ald0 dL_isSo_187 ?_
      refine Go_iconst dL_isSo_188 ?_
      refine Go_cSW2 (d' := 8) (bc' := 1) (bs' := 6) rfl dL_isSo_189 msL_count rfl lkL_87 (by decide) (by omega) (by omega) (Nat.le_of_ble_eq_true rfl) ?_
      refine e_L_count h (nE 0 (by decide) (by decide)) (fun _ _ => ?_) (fun q => absurd ⟨by omega, by omega⟩ q)
      rw [c0]
      refine Go_ald2 dL_isSo_192 ?_
      refine Go_iconst dL_isSo_193 ?_
      refine Go_iald dL_isSo_194 (by first | rfl | assumption) trivial (by omega) (by omega) (by decide) ?_
      rw [show (5 : Int).toNat = 5 from rfl, hN]
      refine Go_icmpN_ne 355 dL_isSo_195 (by decide) ?_
      refine Go_ald0 dL_isSo_198 ?_
      refine Go_iconst dL_isSo_199 ?_
      refine Go_cSW2 (d' := 8) (bc' := 1) (bs' := 6) rfl dL_isSo_200 msL_count rfl lkL_87 (by decide) (by omega) (by omega) (Nat.le_of_ble_eq_true rfl) ?_
      refine e_L_count h (nE 1 (by decide) (by decide)) (fun _ _ => ?_) (fun q => absurd ⟨by omega, by omega⟩ q)
      rw [c1]
      refine Go_ild4 dL_isSo_203 ?_
      refine Go_icmpN_ne 355 dL_isSo_205 (by decide) ?_
      refine Go_ald0 dL_isSo_208 ?_
      refine Go_iconst dL_isSo_209 ?_
      refine Go_cSW2 (d' := 8) (bc' := 1) (bs' := 6) rfl dL_isSo_210 msL_count rfl lkL_87 (by decide) (by omega) (by omega) (Nat.le_of_ble_eq_true rfl) ?_
      refine e_L_count h (nE 2 (by decide) (by decide)) (fun _ _ => ?_) (fun q => absurd ⟨by omega, by omega⟩ q)
      rw [c2]
      refine Go_ald2 dL_isSo_213 ?_
      refine Go_bipush dL_isSo_214 (by decide +kernel) ?_
      refine Go_iald dL_isSo_216 (by first | rfl | assumption) trivial (by omega) (by omega) (by decide) ?_
      rw [show (6 : Int).toNat = 6 from rfl, hr.2.1]
      refine Go_icmpN_ne 355 dL_isSo_217 (by decide) ?_
      refine Go_ald0 dL_isSo_220 ?_
      refine Go_iconst dL_isSo_221 ?_
      refine Go_cSW2 (d' := 8) (bc' := 1) (bs' := 6) rfl dL_isSo_222 msL_count rfl lkL_87 (by decide) (by omega) (by omega) (Nat.le_of_ble_eq_true rfl) ?_
      refine e_L_count h (nE 3 (by decide) (by decide)) (fun _ _ => ?_) (fun q => absurd ⟨by omega, by omega⟩ q)
      rw [c3]
      refine Go_ald2 dL_isSo_225 ?_
      refine Go_bipush dL_isSo_226 (by decide +kernel) ?_
      refine Go_iald dL_isSo_228 (by first | rfl | assumption) trivial (by omega) (by omega) (by decide) ?_
      rw [show (7 : Int).toNat = 7 from rfl, hr.2.2.1]
      refine Go_icmpN_ne 355 dL_isSo_229 (by decide) ?_
      refine Go_ald0 dL_isSo_232 ?_
      refine Go_iconst dL_isSo_233 ?_
      refine Go_cSW2 (d' := 8) (bc' := 1) (bs' := 6) rfl dL_isSo_234 msL_count rfl lkL_87 (by decide) (by omega) (by omega) (Nat.le_of_ble_eq_true rfl) ?_
      refine e_L_count h (nE 4 (by decide) (by decide)) (fun _ _ => ?_) (fun q => absurd ⟨by omega, by omega⟩ q)
      rw [c4]
      refine Go_ald2 dL_isSo_237 ?_
      refine Go_bipush dL_isSo_238 (by decide +kernel) ?_
      refine Go_iald dL_isSo_240 (by first | rfl | assumption) trivial (by omega) (by omega) (by decide) ?_
      rw [show (8 : Int).toNat = 8 from rfl, hr.2.2.2]
      refine Go_icmpN_ne 355 dL_isSo_241 (by decide) ?_
      refine Go_ald0 dL_isSo_244 ?_
      refine Go_cV0 (d' := 1) (bc' := 0) (bs' := 0) rfl dL_isSo_245 mvX11_share rfl lkL_154 rfl rfl trivial (by decide) (by decide) (by decide) (Nat.le_of_ble_eq_true rfl) ?_
      refine e_X11_share h ?_
      refine Go_ild4 dL_isSo_248 ?_
      refine Go_i2f dL_isSo_250 ?_
      refine Go_ldcF dL_isSo_251 cfL_158 ?_
      refine Go_fdiv dL_isSo_253 (shr_ok (tot s.1)).1 ?_
      refine Go_fcmp_same dL_isSo_254 (shr_fn (tot s.1)) ?_
      refine Go_if_ne (tgt := 355) dL_isSo_255 (by decide) (by constructor <;> omega) (fun h255 => by omega) (fun h255 => ?_)
      refine Go_ald0 dL_isSo_258 ?_
      refine Go_cV0 (d' := 3) (bc' := 0) (bs' := 0) rfl dL_isSo_259 mvX11_trapped rfl lkL_159 rfl rfl trivial (by decide) (by decide) (by decide) (Nat.le_of_ble_eq_true rfl) ?_
      refine e_X11_trapped h ?_
      refine Go_ild5 dL_isSo_262 ?_
      refine Go_icmpN_ne 355 dL_isSo_264 (by decide) ?_
      refine Go_ald0 dL_isSo_267 ?_
      refine Go_ild6 dL_isSo_268 ?_
      refine Go_bipush dL_isSo_270 (by decide +kernel) ?_
      refine Go_irem dL_isSo_272 (by omega) (by omega) (by omega) (by omega) ?_
      refine Go_ild6 dL_isSo_273 ?_
      refine Go_bipush dL_isSo_275 (by decide +kernel) ?_
      refine Go_idiv dL_isSo_277 (by omega) (by omega) (by omega) (by omega) ?_
      refine Go_iconst dL_isSo_278 ?_
      refine Go_cSW4 (d' := 8) (bc' := 2) (bs' := 12) rfl dL_isSo_279 msL_site rfl lkL_92 (by decide) (by omega) (by omega) (Nat.le_of_ble_eq_true rfl) ?_
      refine e_L_site h (by constructor <;> omega) (by constructor <;> omega) (by constructor <;> omega) (fun x ex hx' _ _ => ?_) (fun q => by omega) (fun _ q => absurd ⟨by omega, by omega⟩ q)
      rw [show x = j by omega, if_pos rfl]
      refine Go_ild7 dL_isSo_282 ?_
      refine Go_if_ge (tgt := 291) dL_isSo_284 (by decide) (by constructor <;> omega) (fun h284 => ?_) (fun h284 => ?_)
      · refine Go_ild7 dL_isSo_291 ?_
        refine Go_bipush dL_isSo_293 (by decide +kernel) ?_
        refine Go_idiv dL_isSo_295 (by omega) (by omega) (by omega) (by omega) ?_
        exact Go_more (by omega) (by omega) (Go_forget (by repeat' (first | exact Or.inl rfl | exact Or.inr rfl | exact Or.inr (lcg (by omega)) | exact trivial | constructor)) (k296 _ (by rcases ow_cases ho.nd j with ⟨-, e1, e2⟩ | ⟨p, hp, -, e1, e2⟩ <;> omega)))
      · refine Go_iconst dL_isSo_287 ?_
        refine Go_goto (tgt := 296) dL_isSo_288 (by decide) ?_
        exact Go_more (by omega) (by omega) (Go_forget (by repeat' (first | exact Or.inl rfl | exact Or.inr rfl | exact Or.inr (lcg (by omega)) | exact trivial | constructor)) (k296 _ (by rcases ow_cases ho.nd j with ⟨-, e1, e2⟩ | ⟨p, hp, -, e1, e2⟩ <;> omega)))
end So
