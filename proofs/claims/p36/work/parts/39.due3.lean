theorem RP_setL {w w' : Wd} {ps : List (List Nat)} {p : Nat} {l : List Nat} (h : RP w ps) (hp : p < ps.length) (ha : PA w') (hc : w' 68 5 = w 68 5) (ho : ∀ q, q < ps.length → q ≠ p → w' 68 q = w 68 q ∧ ∀ k, k < 48 → PK w' q k = PK w q k) (hn : w' 68 p = (l.length : Int)) (hl : l.length ≤ 48) (hk : ∀ k, k < l.length → PK w' p k = l.getD k 0) : RP w' (ps.set p l) := by
  refine ⟨ha, by rw [hc, List.length_set]; exact h.2.1, fun q hq => ?_⟩
  rw [List.length_set] at hq
  rw [pth_set hp]
  by_cases c : q = p
  · subst c
    rw [if_pos rfl]
    exact ⟨hn, hl, hk⟩
  · rw [if_neg c]
    have a := h.2.2 q hq
    have b := ho q hq c
    exact ⟨by rw [b.1]; exact a.1, a.2.1, fun k hk => by rw [b.2 k (by omega)]; exact a.2.2 k hk⟩
section Due3
variable {G : Gm} {w : Wd} {K : Kt} {X : Xt} {s : Sta}
theorem l_due_split {a kd b c : Nat} (h : RS w s) (ho : OKp s.1) (ha : a < s.1.length) (hb : b < 60)
    (k1 : b + 1 < (pth s.1 a).length → s.1.length < 5 → ∀ w', RS w' (s.1.set a ((pth s.1 a).take (b + 1)) ++ [(pth s.1 a).drop (b + 1)], s.2.1, s.2.2.1, s.2.2.2) → frm w w' [68, 69] → K (vi s.1.length) none w')
    (x1 : ¬ b + 1 < (pth s.1 a).length → K (vi (-101)) none w) (x2 : b + 1 < (pth s.1 a).length → s.1.length = 5 → K (vi (-103)) none w) : Go G cL_due mL_due none 4 0 0 314 [some (vi (kd : Int)), some (vi (a : Int)), some (vi (b : Int)), some (vi (c : Int)), some (vr 68), some (vr 69), none, none] [] w K X := by
  have h5 := ho.1
  have hA := h.1.2.2 a ha
  have hla := ho.len ha
  have hlen : w 68 (Int.toNat (a : Int)) = ((pth s.1 a).length : Int) := hA.1
  have hN : w 68 5 = (s.1.length : Int) := h.1.2.1
  by_cases c1 : b + 1 < (pth s.1 a).length
  · by_cases c2 : s.1.length = 5
    · skip
      refine Go_ild2 dL_due_314 ?_
      refine Go_ald4 dL_due_315 ?_
      refine Go_ild1 dL_due_317 ?_
      refine Go_iald dL_due_318 (by first | assumption | rfl) trivial (by omega) (by omega) (by decide) ?_
      rw [hlen]
      refine Go_iconst dL_due_319 ?_
      refine Go_isub dL_due_320 ?_
      refine Go_icmp_lt (tgt := 327) dL_due_321 (by decide) (by constructor <;> omega) (by constructor <;> omega) (fun h321 => ?_) (fun h321 => by omega)
      refine Go_ald4 dL_due_327 ?_
      refine Go_iconst dL_due_329 ?_
      refine Go_iald dL_due_330 (by first | assumption | rfl) trivial (by omega) (by omega) (by decide) ?_
      rw [show (5 : Int).toNat = 5 from rfl, hN]
      refine Go_iconst dL_due_331 ?_
      refine Go_icmp_ne (tgt := 338) dL_due_332 (by decide) (by constructor <;> omega) (by constructor <;> omega) (fun h332 => by omega) (fun h332 => ?_)
      refine Go_bipush dL_due_335 (by decide +kernel) ?_
      refine Go_ireturn dL_due_337 rfl (by first | rfl | decide | exact nar_b | simp [narrow]) ?_
      exact x2 c1 c2
    · have k1 := k1 c1 (by omega)
      refine Go_ild2 dL_due_314 ?_
      refine Go_ald4 dL_due_315 ?_
      refine Go_ild1 dL_due_317 ?_
      refine Go_iald dL_due_318 (by first | assumption | rfl) trivial (by omega) (by omega) (by decide) ?_
      rw [hlen]
      refine Go_iconst dL_due_319 ?_
      refine Go_isub dL_due_320 ?_
      refine Go_icmp_lt (tgt := 327) dL_due_321 (by decide) (by constructor <;> omega) (by constructor <;> omega) (fun h321 => ?_) (fun h321 => by omega)
      refine Go_ald4 dL_due_327 ?_
      refine Go_iconst dL_due_329 ?_
      refine Go_iald dL_due_330 (by first | assumption | rfl) trivial (by omega) (by omega) (by decide) ?_
      rw [show (5 : Int).toNat = 5 from rfl, hN]
      refine Go_iconst dL_due_331 ?_
      refine Go_icmp_ne (tgt := 338) dL_due_332 (by decide) (by constructor <;> omega) (by constructor <;> omega) (fun h332 => ?_) (fun h332 => by omega)
      refine Go_ild2 dL_due_338 ?_
      refine Go_iconst dL_due_339 ?_
      refine Go_iadd dL_due_340 ?_
      refine Go_ist6 dL_due_341 rfl ?_
      refine Go_upTo (n := (pth s.1 a).length - (b + 1)) (L := fun i => [some (vi (kd : Int)), some (vi (a : Int)), some (vi (b : Int)), some (vi (c : Int)), some (vr 68), some (vr 69), some (vi ((b : Int) + 1 + i)), none]) (P := fun i v => PA v ∧ frm w v [69] ∧ ∀ r m, r < 5 → m < 48 → PK v r m = if r = s.1.length ∧ m < i then PK w a (b + 1 + m) else PK w r m) (by repeat' (first | exact Or.inl rfl | exact Or.inr rfl | exact Or.inr (lcg (by omega)) | exact trivial | constructor)) (⟨h.1.1, frm.rfl, fun r m _ _ => by rw [if_neg (by omega)]⟩) (fun i v hi hP kn => ?_) (fun v hP => ?_)
      · try dsimp only at hP kn
        try dsimp only
        obtain ⟨pa, fr, hk⟩ := hP
        have e1 : PK v a (b + 1 + i) = PK w a (b + 1 + i) := by rw [hk a _ (by omega) (by omega), if_neg (by omega)]
        refine Go_ild6 dL_due_343 ?_
        refine Go_ald4 dL_due_345 ?_
        refine Go_ild1 dL_due_347 ?_
        refine Go_iald dL_due_348 (by first | assumption | rfl) trivial (by omega) (by omega) (by decide) ?_
        rw [fr.at (by simp), hlen]
        refine Go_icmp_ge (tgt := 381) dL_due_349 (by decide) (by constructor <;> omega) (by constructor <;> omega) (fun h349 => by omega) (fun h349 => ?_)
        refine Go_ald4 dL_due_352 ?_
        refine Go_iconst dL_due_354 ?_
        refine Go_iald dL_due_355 (by first | assumption | rfl) trivial (by omega) (by omega) (by decide) ?_
        rw [show (5 : Int).toNat = 5 from rfl, fr.at (by simp), hN]
        refine Go_ild6 dL_due_356 ?_
        refine Go_ild2 dL_due_358 ?_
        refine Go_isub dL_due_359 ?_
        refine Go_iconst dL_due_360 ?_
        refine Go_isub dL_due_361 ?_
        rw [show (b : Int) + 1 + (i : Int) - b - 1 = (i : Int) by omega]
        refine Go_ild1 dL_due_362 ?_
        refine Go_ild6 dL_due_363 ?_
        refine Go_ald5 dL_due_365 ?_
        rw [show (b : Int) + 1 + (i : Int) = ((b + 1 + i : Nat) : Int) by omega]
        refine Go_cS3 (d' := 0) (bc' := 0) (bs' := 0) rfl dL_due_367 msL_at rfl lkL_70 (by decide) (by omega) (by omega) (Nat.le_of_ble_eq_true rfl) ?_
        refine e_L_at pa (by omega) (by omega) ?_
        rw [e1]
        refine Go_ald5 dL_due_370 ?_
        refine Go_cSv4 (d' := 0) (bc' := 0) (bs' := 0) rfl dL_due_372 msL_puts rfl lkL_121 (by decide) (by omega) (by omega) (Nat.le_of_ble_eq_true rfl) ?_
        refine e_L_puts pa (by omega) (by omega) (PK_lt _ _ _) (fun w1 a1 f1 g1 => ?_)
        refine Go_inc6 dL_due_375 rfl ?_
        refine Go_goto (tgt := 343) dL_due_378 (by decide) ?_
        refine Go_forget (ls' := _) ?_ (kn _ ⟨a1, fr.trans f1 (by simp), fun r m hr hm => ?_⟩)
        · rw [show (b : Int) + 1 + ((i + 1 : Nat) : Int) = ((b + 1 + i : Nat) : Int) + 1 by omega]
          exact (by repeat' (first | exact Or.inl rfl | exact Or.inr rfl | exact Or.inr (lcg (by omega)) | exact trivial | constructor))
        · rw [g1 r m hr hm, hk r m hr hm]
          by_cases c3 : r = s.1.length ∧ m = i
          · rw [if_pos c3, if_pos (by omega), c3.2]
          · rw [if_neg c3]
            by_cases c4 : r = s.1.length ∧ m < i
            · rw [if_pos c4, if_pos (by omega)]
            · rw [if_neg c4, if_neg (by omega)]
      · try dsimp only at hP
        try dsimp only
        obtain ⟨pa, fr, hk⟩ := hP
        have lt1 : ((pth s.1 a).take (b + 1)).length = b + 1 := by rw [List.length_take]; omega
        have ld1 : ((pth s.1 a).drop (b + 1)).length = (pth s.1 a).length - (b + 1) := List.length_drop
        have pk68 : ∀ (u : Wd) (j : Nat) (z : Int) (r m : Nat), PK (up u 68 j z) r m = PK u r m := fun u j z r m => PK.frm (A := [68]) (frm.rfl.up (by simp)) (by simp) r m
        have pa68 : ∀ (u : Wd) (j : Nat) (z : Int), PA u → PA (up u 68 j z) := fun u j z hu => hu.frm (A := [68]) (frm.rfl.up (by simp)) (by simp)
        have rS : RP (up v 68 a ((b : Int) + 1)) (s.1.set a ((pth s.1 a).take (b + 1))) := by
          refine RP_setL h.1 ha (pa68 _ _ _ pa) (by rw [up_k (by omega), fr.at (by simp)]) (fun r hr hra => ⟨by rw [up_k hra, fr.at (by simp)], fun m hm => ?_⟩) (by rw [up_s, lt1]; rfl) (by omega) (fun m hm => ?_)
          · rw [pk68, hk r m (by omega) hm, if_neg (by omega)]
          · rw [lt1] at hm
            rw [pk68, hk a m (by omega) (by omega), if_neg (by omega), gD_take (by omega)]
            exact hA.2.2 m (by omega)
        refine Go_ild6 dL_due_343 ?_
        refine Go_ald4 dL_due_345 ?_
        refine Go_ild1 dL_due_347 ?_
        refine Go_iald dL_due_348 (by first | assumption | rfl) trivial (by omega) (by omega) (by decide) ?_
        rw [fr.at (by simp), hlen]
        refine Go_icmp_ge (tgt := 381) dL_due_349 (by decide) (by constructor <;> omega) (by constructor <;> omega) (fun h349 => ?_) (fun h349 => by omega)
        refine Go_ald4 dL_due_381 ?_
        refine Go_ald4 dL_due_383 ?_
        refine Go_iconst dL_due_385 ?_
        refine Go_iald dL_due_386 (by first | assumption | rfl) trivial (by omega) (by omega) (by decide) ?_
        rw [show (5 : Int).toNat = 5 from rfl, fr.at (by simp), hN]
        refine Go_ald4 dL_due_387 ?_
        refine Go_ild1 dL_due_389 ?_
        refine Go_iald dL_due_390 (by first | assumption | rfl) trivial (by omega) (by omega) (by decide) ?_
        rw [fr.at (by simp), hlen]
        refine Go_ild2 dL_due_391 ?_
        refine Go_isub dL_due_392 ?_
        refine Go_iconst dL_due_393 ?_
        refine Go_isub dL_due_394 ?_
        refine Go_iast dL_due_395 (by first | assumption | rfl) trivial (by omega) (by omega) (by decide) ?_
        rw [Int.toNat_natCast]
        refine Go_ald4 dL_due_396 ?_
        refine Go_ild1 dL_due_398 ?_
        refine Go_ild2 dL_due_399 ?_
        refine Go_iconst dL_due_400 ?_
        refine Go_iadd dL_due_401 ?_
        refine Go_iast dL_due_402 (by first | assumption | rfl) trivial (by omega) (by omega) (by decide) ?_
        rw [Int.toNat_natCast]
        refine Go_ald4 dL_due_403 ?_
        refine Go_iconst dL_due_405 ?_
        refine Go_dup2 dL_due_406 ?_
        refine Go_iald dL_due_407 (by first | assumption | rfl) trivial (by omega) (by omega) (by decide) ?_
        rw [show (5 : Int).toNat = 5 from rfl, up_k (by omega), up_k (by omega), fr.at (by simp), hN]
        refine Go_iconst dL_due_408 ?_
        refine Go_iadd dL_due_409 ?_
        refine Go_iast dL_due_410 (by first | assumption | rfl) trivial (by omega) (by omega) (by decide) ?_
        rw [show (5 : Int).toNat = 5 from rfl]
        refine Go_ald4 dL_due_411 ?_
        refine Go_iconst dL_due_413 ?_
        refine Go_iald dL_due_414 (by first | assumption | rfl) trivial (by omega) (by omega) (by decide) ?_
        rw [show (5 : Int).toNat = 5 from rfl, up_s]
        refine Go_iconst dL_due_415 ?_
        refine Go_isub dL_due_416 ?_
        refine Go_ireturn dL_due_417 rfl (by first | rfl | decide | exact nar_b | simp [narrow]) ?_
        have fA : frm w (up (up (up v 68 s.1.length (((pth s.1 a).length : Int) - b - 1)) 68 a ((b : Int) + 1)) 68 5 ((s.1.length : Int) + 1)) [68, 69] := (((fr.mono (by simp)).up (by simp)).up (by simp)).up (by simp)
        refine kI ?_ (k1 _ ⟨?_, ?_, ?_, ?_⟩ fA)
        · omega
        · refine RP_app rS (by rw [List.length_set]; omega) (pa68 _ _ _ (pa68 _ _ _ (pa68 _ _ _ pa))) (by rw [up_s, up_k (by omega), fr.at (by simp), hN]) (fun q hq => ⟨?_, fun m hm => by rw [pk68, pk68, pk68, pk68]⟩) (by rw [List.length_set, up_k (by omega), up_k (by omega), up_s, ld1]; omega) (by omega) (fun m hm => ?_)
          · rw [List.length_set] at hq
            rw [up_k (by omega)]
            by_cases c : q = a
            · rw [c, up_s, up_s]
            · rw [up_k c, up_k c, up_k (by omega)]
          · rw [ld1] at hm
            rw [List.length_set, pk68, pk68, pk68, hk _ m (by omega) (by omega), if_pos ⟨rfl, hm⟩, drop_getD]
            exact hA.2.2 _ (by omega)
        · rw [up_k (by decide), up_k (by omega), up_k (by omega), fr.at (by simp)]; exact h.2.1
        · rw [up_k (by decide), up_k (by omega), up_k (by omega), fr.at (by simp)]; exact h.2.2.1
        · rw [up_k (by decide), up_k (by omega), up_k (by omega), fr.at (by simp)]; exact h.2.2.2
  · skip
    refine Go_ild2 dL_due_314 ?_
    refine Go_ald4 dL_due_315 ?_
    refine Go_ild1 dL_due_317 ?_
    refine Go_iald dL_due_318 (by first | assumption | rfl) trivial (by omega) (by omega) (by decide) ?_
    rw [hlen]
    refine Go_iconst dL_due_319 ?_
    refine Go_isub dL_due_320 ?_
    refine Go_icmp_lt (tgt := 327) dL_due_321 (by decide) (by constructor <;> omega) (by constructor <;> omega) (fun h321 => by omega) (fun h321 => ?_)
    refine Go_bipush dL_due_324 (by decide +kernel) ?_
    refine Go_ireturn dL_due_326 rfl (by first | rfl | decide | exact nar_b | simp [narrow]) ?_
    exact x1 c1
variable {kd a b c : Nat}
theorem dueK {w' : Wd} {s' : Sta} {ans : Int} (k : ∀ w', RS w' (cA s kd a b c).2 → frm w w' [68, 69] → K (vi (cA s kd a b c).1) none w') (hA : cA s kd a b c = (ans, s')) (r : RS w' s') (f : frm w w' [68, 69]) : K (vi ans) none w' := by
  have := k w'
  rw [hA] at this
  exact this r f
theorem e_L_due (h : RS w s) (ho : OKp s.1) (hk : argOK s kd a b c) (ht : tot s.1 ≤ 47) (k : ∀ w', RS w' (cA s kd a b c).2 → frm w w' [68, 69] → K (vi (cA s kd a b c).1) none w') :
    Ev G yL_due cL_due 8 mL_due none 4 0 0 [vi (kd : Int), vi (a : Int), vi (b : Int), vi (c : Int), vr 68, vr 69] w K X := by
  obtain ⟨k8, ha9, hb, hb0, hb1, hc1, hc3⟩ := hk
  have h5 : s.1.length ≤ 5 := ho.1
  have hN : w 68 5 = (s.1.length : Int) := h.1.2.1
  have kc : kd = 0 ∨ kd = 1 ∨ kd = 2 ∨ kd = 3 ∨ kd = 4 ∨ kd = 5 ∨ kd = 6 ∨ kd = 7 ∨ kd = 8 := by omega
  have pk68 : ∀ (u : Wd) (j : Nat) (z : Int) (r m : Nat), PK (up u 68 j z) r m = PK u r m := fun u j z r m => PK.frm (A := [68]) (frm.rfl.up (by simp)) (by simp) r m
  have pa68 : ∀ (u : Wd) (j : Nat) (z : Int), PA u → PA (up u 68 j z) := fun u j z hu => hu.frm (A := [68]) (frm.rfl.up (by simp)) (by simp)
  refine Ev_intro msL_due.1 rfl (fun h => by cases h) (allc1 rfl) (Nat.le_of_ble_eq_true rfl) (Or.inl rfl) ?_
  show Go G cL_due mL_due none 4 0 0 0 [some (vi (kd : Int)), some (vi (a : Int)), some (vi (b : Int)), some (vi (c : Int)), some (vr 68), some (vr 69), none, none] [] w K X
  by_cases k0 : kd = 0
  · subst k0
    have wd := whI_dec ho (10 * b + a)
    have oi := ow_in s.1 (10 * b + a)
    by_cases c5 : s.1.length = 5
    · skip
      refine Go_ild0 dL_due_0 ?_
      refine Go_if_ne (tgt := 70) dL_due_1 (by decide) (by constructor <;> omega) (fun h1 => by omega) (fun h1 => ?_)
      refine Go_ald4 dL_due_4 ?_
      refine Go_iconst dL_due_6 ?_
      refine Go_iald dL_due_7 (by first | assumption | rfl) trivial (by omega) (by omega) (by decide) ?_
      rw [show (5 : Int).toNat = 5 from rfl, hN]
      refine Go_iconst dL_due_8 ?_
      refine Go_icmp_eq (tgt := 28) dL_due_9 (by decide) (by constructor <;> omega) (by constructor <;> omega) (fun h9 => ?_) (fun h9 => by omega)
      refine Go_bipush dL_due_28 (by decide +kernel) ?_
      refine Go_ireturn dL_due_30 rfl (by first | rfl | decide | exact nar_b | simp [narrow]) ?_
      exact dueK k (by unfold cA; rw [if_pos rfl, if_neg (by omega)]) h frm.rfl
    by_cases cf : ow s.1 (10 * b + a) = -1
    · skip
      refine Go_ild0 dL_due_0 ?_
      refine Go_if_ne (tgt := 70) dL_due_1 (by decide) (by constructor <;> omega) (fun h1 => by omega) (fun h1 => ?_)
      refine Go_ald4 dL_due_4 ?_
      refine Go_iconst dL_due_6 ?_
      refine Go_iald dL_due_7 (by first | assumption | rfl) trivial (by omega) (by omega) (by decide) ?_
      rw [show (5 : Int).toNat = 5 from rfl, hN]
      refine Go_iconst dL_due_8 ?_
      refine Go_icmp_eq (tgt := 28) dL_due_9 (by decide) (by constructor <;> omega) (by constructor <;> omega) (fun h9 => by omega) (fun h9 => ?_)
      refine Go_bipush dL_due_12 (by decide +kernel) ?_
      refine Go_ild2 dL_due_14 ?_
      refine Go_imul dL_due_15 ?_
      refine Go_ild1 dL_due_16 ?_
      refine Go_iadd dL_due_17 ?_
      refine Go_ald4 dL_due_18 ?_
      refine Go_ald5 dL_due_20 ?_
      refine Go_cS3 (d' := 1) (bc' := 0) (bs' := 0) rfl dL_due_22 msL_whose rfl lkL_76 (by decide) (by omega) (by omega) (Nat.le_of_ble_eq_true rfl) ?_
      refine e_L_whoseI h.1 ho (by omega) (by omega) ?_
      rw [show (10 * (b : Int) + (a : Int)).toNat = 10 * b + a by omega]
      have wi := whI_in ho (10 * b + a)
      refine Go_if_lt (tgt := 31) dL_due_25 (by decide) (by constructor <;> omega) (fun h25 => ?_) (fun h25 => by omega)
      refine Go_ald4 dL_due_31 ?_
      refine Go_iconst dL_due_33 ?_
      refine Go_iald dL_due_34 (by first | assumption | rfl) trivial (by omega) (by omega) (by decide) ?_
      rw [show (5 : Int).toNat = 5 from rfl, hN]
      refine Go_iconst dL_due_35 ?_
      refine Go_bipush dL_due_36 (by decide +kernel) ?_
      refine Go_ild2 dL_due_38 ?_
      refine Go_imul dL_due_39 ?_
      refine Go_ild1 dL_due_40 ?_
      refine Go_iadd dL_due_41 ?_
      refine Go_ald5 dL_due_42 ?_
      rw [show 10 * (b : Int) + (a : Int) = ((10 * b + a : Nat) : Int) by omega]
      refine Go_cSv4 (d' := 0) (bc' := 0) (bs' := 0) rfl dL_due_44 msL_puts rfl lkL_121 (by decide) (by omega) (by omega) (Nat.le_of_ble_eq_true rfl) ?_
      refine e_L_puts (j := 0) h.1.1 (by omega) (by omega) (by omega) (fun w1 a1 f1 g1 => ?_)
      refine Go_ald4 dL_due_47 ?_
      refine Go_ald4 dL_due_49 ?_
      refine Go_iconst dL_due_51 ?_
      refine Go_iald dL_due_52 (by first | assumption | rfl) trivial (by omega) (by omega) (by decide) ?_
      rw [show (5 : Int).toNat = 5 from rfl, f1.at (by simp), hN]
      refine Go_iconst dL_due_53 ?_
      refine Go_iast dL_due_54 (by first | assumption | rfl) trivial (by omega) (by omega) (by decide) ?_
      rw [Int.toNat_natCast]
      refine Go_ald4 dL_due_55 ?_
      refine Go_iconst dL_due_57 ?_
      refine Go_dup2 dL_due_58 ?_
      refine Go_iald dL_due_59 (by first | assumption | rfl) trivial (by omega) (by omega) (by decide) ?_
      rw [show (5 : Int).toNat = 5 from rfl, up_k (by omega), f1.at (by simp), hN]
      refine Go_iconst dL_due_60 ?_
      refine Go_iadd dL_due_61 ?_
      refine Go_iast dL_due_62 (by first | assumption | rfl) trivial (by omega) (by omega) (by decide) ?_
      rw [show (5 : Int).toNat = 5 from rfl]
      refine Go_ald4 dL_due_63 ?_
      refine Go_iconst dL_due_65 ?_
      refine Go_iald dL_due_66 (by first | assumption | rfl) trivial (by omega) (by omega) (by decide) ?_
      rw [show (5 : Int).toNat = 5 from rfl, up_s]
      refine Go_iconst dL_due_67 ?_
      refine Go_isub dL_due_68 ?_
      refine Go_ireturn dL_due_69 rfl (by first | rfl | decide | exact nar_b | simp [narrow]) ?_
      have fA : frm w (up (up w1 68 s.1.length 1) 68 5 ((s.1.length : Int) + 1)) [68, 69] := ((f1.mono (by simp)).up (by simp)).up (by simp)
      refine kI (y := (s.1.length : Int)) (by omega) (dueK k (by unfold cA; rw [if_pos rfl, if_pos ⟨cf, by omega⟩]) ⟨?_, ?_, ?_, ?_⟩ fA)
      · refine RP_app h.1 (by omega) (pa68 _ _ _ (pa68 _ _ _ a1)) (by rw [up_s, hN]) (fun q hq => ⟨by rw [up_k (by omega), up_k (by omega), f1.at (by simp)], fun m hm => by rw [pk68, pk68, g1 q m (by omega) hm, if_neg (by omega)]⟩) (by rw [up_k (by omega), up_s]; rfl) (by simp) (fun m hm => ?_)
        have hm : m < 1 := hm
        have hm0 : m = 0 := by omega
        subst hm0
        rw [pk68, pk68, g1 _ 0 (by omega) (by omega), if_pos ⟨rfl, rfl⟩]
        rfl
      · rw [up_k (by decide), up_k (by omega), f1.at (by simp)]; exact h.2.1
      · rw [up_k (by decide), up_k (by omega), f1.at (by simp)]; exact h.2.2.1
      · rw [up_k (by decide), up_k (by omega), f1.at (by simp)]; exact h.2.2.2
    · skip
      refine Go_ild0 dL_due_0 ?_
      refine Go_if_ne (tgt := 70) dL_due_1 (by decide) (by constructor <;> omega) (fun h1 => by omega) (fun h1 => ?_)
      refine Go_ald4 dL_due_4 ?_
      refine Go_iconst dL_due_6 ?_
      refine Go_iald dL_due_7 (by first | assumption | rfl) trivial (by omega) (by omega) (by decide) ?_
      rw [show (5 : Int).toNat = 5 from rfl, hN]
      refine Go_iconst dL_due_8 ?_
      refine Go_icmp_eq (tgt := 28) dL_due_9 (by decide) (by constructor <;> omega) (by constructor <;> omega) (fun h9 => by omega) (fun h9 => ?_)
      refine Go_bipush dL_due_12 (by decide +kernel) ?_
      refine Go_ild2 dL_due_14 ?_
      refine Go_imul dL_due_15 ?_
      refine Go_ild1 dL_due_16 ?_
      refine Go_iadd dL_due_17 ?_
      refine Go_ald4 dL_due_18 ?_
      refine Go_ald5 dL_due_20 ?_
      refine Go_cS3 (d' := 1) (bc' := 0) (bs' := 0) rfl dL_due_22 msL_whose rfl lkL_76 (by decide) (by omega) (by omega) (Nat.le_of_ble_eq_true rfl) ?_
      refine e_L_whoseI h.1 ho (by omega) (by omega) ?_
      rw [show (10 * (b : Int) + (a : Int)).toNat = 10 * b + a by omega]
      have wi := whI_in ho (10 * b + a)
      refine Go_if_lt (tgt := 31) dL_due_25 (by decide) (by constructor <;> omega) (fun h25 => by omega) (fun h25 => ?_)
      refine Go_bipush dL_due_28 (by decide +kernel) ?_
      refine Go_ireturn dL_due_30 rfl (by first | rfl | decide | exact nar_b | simp [narrow]) ?_
      exact dueK k (by unfold cA; rw [if_pos rfl, if_neg (fun z => cf z.1)]) h frm.rfl
  by_cases ha : a < s.1.length
  · have hA := h.1.2.2 a ha
    have hla := ho.len ha
    have hlen : w 68 (Int.toNat (a : Int)) = ((pth s.1 a).length : Int) := hA.1
    have tg := tot_ge ha
    rcases kc with rfl | rfl | rfl | rfl | rfl | rfl | rfl | rfl | rfl
    · exact absurd rfl k0
    · skip
      refine Go_ild0 dL_due_0 ?_
      refine Go_if_ne (tgt := 70) dL_due_1 (by decide) (by constructor <;> omega) (fun h1 => ?_) (fun h1 => by omega)
      refine Go_ild1 dL_due_70 ?_
      refine Go_ald4 dL_due_71 ?_
      refine Go_iconst dL_due_73 ?_
      refine Go_iald dL_due_74 (by first | assumption | rfl) trivial (by omega) (by omega) (by decide) ?_
      rw [show (5 : Int).toNat = 5 from rfl, hN]
      refine Go_icmp_ge (tgt := 92) dL_due_75 (by decide) (by constructor <;> omega) (by constructor <;> omega) (fun h75 => by omega) (fun h75 => ?_)
      refine Go_ild0 dL_due_78 ?_
      refine Go_bipush dL_due_79 (by decide +kernel) ?_
      refine Go_icmp_ne (tgt := 95) dL_due_81 (by decide) (by constructor <;> omega) (by constructor <;> omega) (fun h81 => ?_) (fun h81 => by omega)
      refine Go_ild0 dL_due_95 ?_
      refine Go_tsIn (i := 0) (off := 44) (tgt := 140) dL_due_96 (by omega) ⟨⟨by decide, by decide⟩, by decide⟩ (by decide) (by decide) ?_
      refine Go_ild1 dL_due_140 ?_
      refine Go_ild2 dL_due_141 ?_
      refine Go_ild0 dL_due_142 ?_
      refine Go_iconst dL_due_143 ?_
      refine Go_icmp_ne (tgt := 151) dL_due_144 (by decide) (by constructor <;> omega) (by constructor <;> omega) (fun h144 => ?_) (fun h144 => by omega)
      refine Go_iconst dL_due_151 ?_
      refine Go_ald4 dL_due_152 ?_
      refine Go_ald5 dL_due_154 ?_
      refine Go_cS5 (d' := 3) (bc' := 0) (bs' := 0) rfl dL_due_156 msL_stepped rfl lkL_132 (by decide) (by omega) (by omega) (Nat.le_of_ble_eq_true rfl) ?_
      refine e_L_stepped0 h ho ha (hb1 (by omega)) (by omega) (fun w1 r1 f1 => ?_)
      refine Go_ireturn dL_due_159 rfl (by first | rfl | decide | exact nar_b | simp [narrow]) ?_
      exact dueK k (by unfold cA; rw [if_neg (by decide), if_neg (by omega), if_pos rfl]) r1 f1
    · by_cases c1 : (pth s.1 a).length = 1
      · skip
        refine Go_ild0 dL_due_0 ?_
        refine Go_if_ne (tgt := 70) dL_due_1 (by decide) (by constructor <;> omega) (fun h1 => ?_) (fun h1 => by omega)
        refine Go_ild1 dL_due_70 ?_
        refine Go_ald4 dL_due_71 ?_
        refine Go_iconst dL_due_73 ?_
        refine Go_iald dL_due_74 (by first | assumption | rfl) trivial (by omega) (by omega) (by decide) ?_
        rw [show (5 : Int).toNat = 5 from rfl, hN]
        refine Go_icmp_ge (tgt := 92) dL_due_75 (by decide) (by constructor <;> omega) (by constructor <;> omega) (fun h75 => by omega) (fun h75 => ?_)
        refine Go_ild0 dL_due_78 ?_
        refine Go_bipush dL_due_79 (by decide +kernel) ?_
        refine Go_icmp_ne (tgt := 95) dL_due_81 (by decide) (by constructor <;> omega) (by constructor <;> omega) (fun h81 => ?_) (fun h81 => by omega)
        refine Go_ild0 dL_due_95 ?_
        refine Go_tsIn (i := 1) (off := 64) (tgt := 160) dL_due_96 (by omega) ⟨⟨by decide, by decide⟩, by decide⟩ (by decide) (by decide) ?_
        refine Go_ald4 dL_due_160 ?_
        refine Go_ild1 dL_due_162 ?_
        refine Go_iald dL_due_163 (by first | assumption | rfl) trivial (by omega) (by omega) (by decide) ?_
        rw [hlen]
        refine Go_iconst dL_due_164 ?_
        refine Go_icmp_ne (tgt := 171) dL_due_165 (by decide) (by constructor <;> omega) (by constructor <;> omega) (fun h165 => by omega) (fun h165 => ?_)
        refine Go_bipush dL_due_168 (by decide +kernel) ?_
        refine Go_ireturn dL_due_170 rfl (by first | rfl | decide | exact nar_b | simp [narrow]) ?_
        exact dueK k (by unfold cA; rw [if_neg (by decide), if_neg (by omega), if_neg (by decide), if_pos rfl, if_pos c1]) h frm.rfl
      · skip
        refine Go_ild0 dL_due_0 ?_
        refine Go_if_ne (tgt := 70) dL_due_1 (by decide) (by constructor <;> omega) (fun h1 => ?_) (fun h1 => by omega)
        refine Go_ild1 dL_due_70 ?_
        refine Go_ald4 dL_due_71 ?_
        refine Go_iconst dL_due_73 ?_
        refine Go_iald dL_due_74 (by first | assumption | rfl) trivial (by omega) (by omega) (by decide) ?_
        rw [show (5 : Int).toNat = 5 from rfl, hN]
        refine Go_icmp_ge (tgt := 92) dL_due_75 (by decide) (by constructor <;> omega) (by constructor <;> omega) (fun h75 => by omega) (fun h75 => ?_)
        refine Go_ild0 dL_due_78 ?_
        refine Go_bipush dL_due_79 (by decide +kernel) ?_
        refine Go_icmp_ne (tgt := 95) dL_due_81 (by decide) (by constructor <;> omega) (by constructor <;> omega) (fun h81 => ?_) (fun h81 => by omega)
        refine Go_ild0 dL_due_95 ?_
        refine Go_tsIn (i := 1) (off := 64) (tgt := 160) dL_due_96 (by omega) ⟨⟨by decide, by decide⟩, by decide⟩ (by decide) (by decide) ?_
        refine Go_ald4 dL_due_160 ?_
        refine Go_ild1 dL_due_162 ?_
        refine Go_iald dL_due_163 (by first | assumption | rfl) trivial (by omega) (by omega) (by decide) ?_
        rw [hlen]
        refine Go_iconst dL_due_164 ?_
        refine Go_icmp_ne (tgt := 171) dL_due_165 (by decide) (by constructor <;> omega) (by constructor <;> omega) (fun h165 => ?_) (fun h165 => by omega)
        refine Go_ald4 dL_due_171 ?_
        refine Go_ild1 dL_due_173 ?_
        refine Go_dup2 dL_due_174 ?_
        refine Go_iald dL_due_175 (by first | assumption | rfl) trivial (by omega) (by omega) (by decide) ?_
        rw [hlen]
        refine Go_iconst dL_due_176 ?_
        refine Go_isub dL_due_177 ?_
        refine Go_iast dL_due_178 (by first | assumption | rfl) trivial (by omega) (by omega) (by decide) ?_
        rw [Int.toNat_natCast]
        refine Go_ald4 dL_due_179 ?_
        refine Go_ild1 dL_due_181 ?_
        refine Go_iald dL_due_182 (by first | assumption | rfl) trivial (by omega) (by omega) (by decide) ?_
        rw [Int.toNat_natCast, up_s]
        refine Go_ireturn dL_due_183 rfl (by first | rfl | decide | exact nar_b | simp [narrow]) ?_
        have fA : frm w (up w 68 a (((pth s.1 a).length : Int) - 1)) [68, 69] := frm.rfl.up (by simp)
        refine dueK k (by unfold cA; rw [if_neg (by decide), if_neg (by omega), if_neg (by decide), if_pos rfl, if_neg c1]) ⟨?_, ?_, ?_, ?_⟩ fA
        · refine RP_setL h.1 ha (pa68 _ _ _ h.1.1) (by rw [up_k (by omega)]) (fun q hq hqa => ⟨by rw [up_k hqa], fun m _ => by rw [pk68]⟩) (by rw [up_s, List.length_take]; omega) (by rw [List.length_take]; omega) (fun m hm => ?_)
          rw [List.length_take] at hm
          rw [pk68, gD_take (by omega)]
          exact hA.2.2 m (by omega)
        · rw [up_k (by omega)]; exact h.2.1
        · rw [up_k (by omega)]; exact h.2.2.1
        · rw [up_k (by omega)]; exact h.2.2.2
    · skip
      refine Go_ild0 dL_due_0 ?_
      refine Go_if_ne (tgt := 70) dL_due_1 (by decide) (by constructor <;> omega) (fun h1 => ?_) (fun h1 => by omega)
      refine Go_ild1 dL_due_70 ?_
      refine Go_ald4 dL_due_71 ?_
      refine Go_iconst dL_due_73 ?_
      refine Go_iald dL_due_74 (by first | assumption | rfl) trivial (by omega) (by omega) (by decide) ?_
      rw [show (5 : Int).toNat = 5 from rfl, hN]
      refine Go_icmp_ge (tgt := 92) dL_due_75 (by decide) (by constructor <;> omega) (by constructor <;> omega) (fun h75 => by omega) (fun h75 => ?_)
      refine Go_ild0 dL_due_78 ?_
      refine Go_bipush dL_due_79 (by decide +kernel) ?_
      refine Go_icmp_ne (tgt := 95) dL_due_81 (by decide) (by constructor <;> omega) (by constructor <;> omega) (fun h81 => ?_) (fun h81 => by omega)
      refine Go_ild0 dL_due_95 ?_
      refine Go_tsIn (i := 2) (off := 44) (tgt := 140) dL_due_96 (by omega) ⟨⟨by decide, by decide⟩, by decide⟩ (by decide) (by decide) ?_
      refine Go_ild1 dL_due_140 ?_
      refine Go_ild2 dL_due_141 ?_
      refine Go_ild0 dL_due_142 ?_
      refine Go_iconst dL_due_143 ?_
      refine Go_icmp_ne (tgt := 151) dL_due_144 (by decide) (by constructor <;> omega) (by constructor <;> omega) (fun h144 => by omega) (fun h144 => ?_)
      refine Go_iconst dL_due_147 ?_
      refine Go_goto (tgt := 152) dL_due_148 (by decide) ?_
      refine Go_ald4 dL_due_152 ?_
      refine Go_ald5 dL_due_154 ?_
      refine Go_cS5 (d' := 3) (bc' := 0) (bs' := 0) rfl dL_due_156 msL_stepped rfl lkL_132 (by decide) (by omega) (by omega) (Nat.le_of_ble_eq_true rfl) ?_
      refine e_L_stepped1 h ho ha (hb1 (by omega)) (fun w1 r1 f1 => ?_)
      refine Go_ireturn dL_due_159 rfl (by first | rfl | decide | exact nar_b | simp [narrow]) ?_
      exact dueK k (by unfold cA; rw [if_neg (by decide), if_neg (by omega), if_neg (by decide), if_neg (by decide), if_pos rfl]) r1 f1
    · by_cases cb : b < (pth s.1 a).length
      · have cA1 : cA s 4 a b c = (whyT s.1 a b c, if whyT s.1 a b c = 0 then turS s a b c else (s.1, s.2.1, s.2.2.1 + 1, s.2.2.2)) := by
          unfold cA
          rw [if_neg (by decide), if_neg (by omega), if_neg (by decide), if_neg (by decide), if_neg (by decide), if_pos rfl, if_neg (by omega)]
          by_cases q : whyT s.1 a b c = 0
          · rw [if_pos q, if_pos q, q]
          · rw [if_neg q, if_neg q]
        refine Go_ild0 dL_due_0 ?_
        refine Go_if_ne (tgt := 70) dL_due_1 (by decide) (by constructor <;> omega) (fun h1 => ?_) (fun h1 => by omega)
        refine Go_ild1 dL_due_70 ?_
        refine Go_ald4 dL_due_71 ?_
        refine Go_iconst dL_due_73 ?_
        refine Go_iald dL_due_74 (by first | assumption | rfl) trivial (by omega) (by omega) (by decide) ?_
        rw [show (5 : Int).toNat = 5 from rfl, hN]
        refine Go_icmp_ge (tgt := 92) dL_due_75 (by decide) (by constructor <;> omega) (by constructor <;> omega) (fun h75 => by omega) (fun h75 => ?_)
        refine Go_ild0 dL_due_78 ?_
        refine Go_bipush dL_due_79 (by decide +kernel) ?_
        refine Go_icmp_ne (tgt := 95) dL_due_81 (by decide) (by constructor <;> omega) (by constructor <;> omega) (fun h81 => ?_) (fun h81 => by omega)
        refine Go_ild0 dL_due_95 ?_
        refine Go_tsIn (i := 3) (off := 88) (tgt := 184) dL_due_96 (by omega) ⟨⟨by decide, by decide⟩, by decide⟩ (by decide) (by decide) ?_
        refine Go_ild2 dL_due_184 ?_
        refine Go_ald4 dL_due_185 ?_
        refine Go_ild1 dL_due_187 ?_
        refine Go_iald dL_due_188 (by first | assumption | rfl) trivial (by omega) (by omega) (by decide) ?_
        rw [hlen]
        refine Go_icmp_lt (tgt := 197) dL_due_189 (by decide) (by constructor <;> omega) (by constructor <;> omega) (fun h189 => ?_) (fun h189 => by omega)
        refine Go_ild1 dL_due_197 ?_
        refine Go_ild2 dL_due_198 ?_
        refine Go_ild3 dL_due_199 ?_
        refine Go_ald4 dL_due_200 ?_
        refine Go_ald5 dL_due_202 ?_
        refine Go_cS5 (d' := 3) (bc' := 0) (bs' := 0) rfl dL_due_204 msL_turns rfl lkL_136 (by decide) (by omega) (by omega) (Nat.le_of_ble_eq_true rfl) ?_
        refine e_L_turns h ho ha cb hc1 hc3 (fun w1 r1 f1 => ?_)
        refine Go_ireturn dL_due_207 rfl (by first | rfl | decide | exact nar_b | simp [narrow]) ?_
        exact dueK k cA1 r1 f1
      · skip
        refine Go_ild0 dL_due_0 ?_
        refine Go_if_ne (tgt := 70) dL_due_1 (by decide) (by constructor <;> omega) (fun h1 => ?_) (fun h1 => by omega)
        refine Go_ild1 dL_due_70 ?_
        refine Go_ald4 dL_due_71 ?_
        refine Go_iconst dL_due_73 ?_
        refine Go_iald dL_due_74 (by first | assumption | rfl) trivial (by omega) (by omega) (by decide) ?_
        rw [show (5 : Int).toNat = 5 from rfl, hN]
        refine Go_icmp_ge (tgt := 92) dL_due_75 (by decide) (by constructor <;> omega) (by constructor <;> omega) (fun h75 => by omega) (fun h75 => ?_)
        refine Go_ild0 dL_due_78 ?_
        refine Go_bipush dL_due_79 (by decide +kernel) ?_
        refine Go_icmp_ne (tgt := 95) dL_due_81 (by decide) (by constructor <;> omega) (by constructor <;> omega) (fun h81 => ?_) (fun h81 => by omega)
        refine Go_ild0 dL_due_95 ?_
        refine Go_tsIn (i := 3) (off := 88) (tgt := 184) dL_due_96 (by omega) ⟨⟨by decide, by decide⟩, by decide⟩ (by decide) (by decide) ?_
        refine Go_ild2 dL_due_184 ?_
        refine Go_ald4 dL_due_185 ?_
        refine Go_ild1 dL_due_187 ?_
        refine Go_iald dL_due_188 (by first | assumption | rfl) trivial (by omega) (by omega) (by decide) ?_
        rw [hlen]
        refine Go_icmp_lt (tgt := 197) dL_due_189 (by decide) (by constructor <;> omega) (by constructor <;> omega) (fun h189 => by omega) (fun h189 => ?_)
        refine Go_bipush dL_due_192 (by decide +kernel) ?_
        refine Go_goto (tgt := 207) dL_due_194 (by decide) ?_
        refine Go_ireturn dL_due_207 rfl (by first | rfl | decide | exact nar_b | simp [narrow]) ?_
        exact dueK k (by unfold cA; rw [if_neg (by decide), if_neg (by omega), if_neg (by decide), if_neg (by decide), if_neg (by decide), if_pos rfl, if_pos cb]) h frm.rfl
    · skip
      refine Go_ild0 dL_due_0 ?_
      refine Go_if_ne (tgt := 70) dL_due_1 (by decide) (by constructor <;> omega) (fun h1 => ?_) (fun h1 => by omega)
      refine Go_ild1 dL_due_70 ?_
      refine Go_ald4 dL_due_71 ?_
      refine Go_iconst dL_due_73 ?_
      refine Go_iald dL_due_74 (by first | assumption | rfl) trivial (by omega) (by omega) (by decide) ?_
      rw [show (5 : Int).toNat = 5 from rfl, hN]
      refine Go_icmp_ge (tgt := 92) dL_due_75 (by decide) (by constructor <;> omega) (by constructor <;> omega) (fun h75 => by omega) (fun h75 => ?_)
      refine Go_ild0 dL_due_78 ?_
      refine Go_bipush dL_due_79 (by decide +kernel) ?_
      refine Go_icmp_ne (tgt := 95) dL_due_81 (by decide) (by constructor <;> omega) (by constructor <;> omega) (fun h81 => ?_) (fun h81 => by omega)
      refine Go_ild0 dL_due_95 ?_
      refine Go_tsIn (i := 4) (off := 112) (tgt := 208) dL_due_96 (by omega) ⟨⟨by decide, by decide⟩, by decide⟩ (by decide) (by decide) ?_
      exact l_due_rev h ho ha (fun w1 r1 f1 => dueK k (by unfold cA; rw [if_neg (by decide), if_neg (by omega), if_neg (by decide), if_neg (by decide), if_neg (by decide), if_neg (by decide), if_pos rfl]) r1 f1)
    · by_cases cb : b < s.1.length
      · by_cases cab : a = b
        · skip
          refine Go_ild0 dL_due_0 ?_
          refine Go_if_ne (tgt := 70) dL_due_1 (by decide) (by constructor <;> omega) (fun h1 => ?_) (fun h1 => by omega)
          refine Go_ild1 dL_due_70 ?_
          refine Go_ald4 dL_due_71 ?_
          refine Go_iconst dL_due_73 ?_
          refine Go_iald dL_due_74 (by first | assumption | rfl) trivial (by omega) (by omega) (by decide) ?_
          rw [show (5 : Int).toNat = 5 from rfl, hN]
          refine Go_icmp_ge (tgt := 92) dL_due_75 (by decide) (by constructor <;> omega) (by constructor <;> omega) (fun h75 => by omega) (fun h75 => ?_)
          refine Go_ild0 dL_due_78 ?_
          refine Go_bipush dL_due_79 (by decide +kernel) ?_
          refine Go_icmp_ne (tgt := 95) dL_due_81 (by decide) (by constructor <;> omega) (by constructor <;> omega) (fun h81 => by omega) (fun h81 => ?_)
          refine Go_ild2 dL_due_84 ?_
          refine Go_ald4 dL_due_85 ?_
          refine Go_iconst dL_due_87 ?_
          refine Go_iald dL_due_88 (by first | assumption | rfl) trivial (by omega) (by omega) (by decide) ?_
          rw [show (5 : Int).toNat = 5 from rfl, hN]
          refine Go_icmp_lt (tgt := 95) dL_due_89 (by decide) (by constructor <;> omega) (by constructor <;> omega) (fun h89 => ?_) (fun h89 => by omega)
          refine Go_ild0 dL_due_95 ?_
          refine Go_tsIn (i := 5) (off := 198) (tgt := 294) dL_due_96 (by omega) ⟨⟨by decide, by decide⟩, by decide⟩ (by decide) (by decide) ?_
          refine Go_ild1 dL_due_294 ?_
          refine Go_ild2 dL_due_295 ?_
          refine Go_icmp_ne (tgt := 304) dL_due_296 (by decide) (by constructor <;> omega) (by constructor <;> omega) (fun h296 => by omega) (fun h296 => ?_)
          refine Go_bipush dL_due_299 (by decide +kernel) ?_
          refine Go_goto (tgt := 313) dL_due_301 (by decide) ?_
          refine Go_ireturn dL_due_313 rfl (by first | rfl | decide | exact nar_b | simp [narrow]) ?_
          exact dueK k (by unfold cA; rw [if_neg (by decide), if_neg (by omega), if_neg (by decide), if_neg (by decide), if_neg (by decide), if_neg (by decide), if_neg (by decide), if_pos rfl, if_neg (by omega), if_pos cab]) h frm.rfl
        · have t2 := tot_two ha cb cab
          refine Go_ild0 dL_due_0 ?_
          refine Go_if_ne (tgt := 70) dL_due_1 (by decide) (by constructor <;> omega) (fun h1 => ?_) (fun h1 => by omega)
          refine Go_ild1 dL_due_70 ?_
          refine Go_ald4 dL_due_71 ?_
          refine Go_iconst dL_due_73 ?_
          refine Go_iald dL_due_74 (by first | assumption | rfl) trivial (by omega) (by omega) (by decide) ?_
          rw [show (5 : Int).toNat = 5 from rfl, hN]
          refine Go_icmp_ge (tgt := 92) dL_due_75 (by decide) (by constructor <;> omega) (by constructor <;> omega) (fun h75 => by omega) (fun h75 => ?_)
          refine Go_ild0 dL_due_78 ?_
          refine Go_bipush dL_due_79 (by decide +kernel) ?_
          refine Go_icmp_ne (tgt := 95) dL_due_81 (by decide) (by constructor <;> omega) (by constructor <;> omega) (fun h81 => by omega) (fun h81 => ?_)
          refine Go_ild2 dL_due_84 ?_
          refine Go_ald4 dL_due_85 ?_
          refine Go_iconst dL_due_87 ?_
          refine Go_iald dL_due_88 (by first | assumption | rfl) trivial (by omega) (by omega) (by decide) ?_
          rw [show (5 : Int).toNat = 5 from rfl, hN]
          refine Go_icmp_lt (tgt := 95) dL_due_89 (by decide) (by constructor <;> omega) (by constructor <;> omega) (fun h89 => ?_) (fun h89 => by omega)
          refine Go_ild0 dL_due_95 ?_
          refine Go_tsIn (i := 5) (off := 198) (tgt := 294) dL_due_96 (by omega) ⟨⟨by decide, by decide⟩, by decide⟩ (by decide) (by decide) ?_
          refine Go_ild1 dL_due_294 ?_
          refine Go_ild2 dL_due_295 ?_
          refine Go_icmp_ne (tgt := 304) dL_due_296 (by decide) (by constructor <;> omega) (by constructor <;> omega) (fun h296 => ?_) (fun h296 => by omega)
          refine Go_ild1 dL_due_304 ?_
          refine Go_ild2 dL_due_305 ?_
          refine Go_ald4 dL_due_306 ?_
          refine Go_ald5 dL_due_308 ?_
          refine Go_cS4 (d' := 1) (bc' := 0) (bs' := 0) rfl dL_due_310 msL_joined rfl lkL_139 (by decide) (by omega) (by omega) (Nat.le_of_ble_eq_true rfl) ?_
          refine e_L_joined h ho ha cb cab (by omega) (fun e1 w1 r1 f1 => ?_) (fun e1 => ?_)
          · skip
            refine Go_ireturn dL_due_313 rfl (by first | rfl | decide | exact nar_b | simp [narrow]) ?_
            exact dueK k (by unfold cA; rw [if_neg (by decide), if_neg (by omega), if_neg (by decide), if_neg (by decide), if_neg (by decide), if_neg (by decide), if_neg (by decide), if_pos rfl, if_neg (by omega), if_neg cab, if_pos ⟨e1, by omega⟩]) r1 f1
          · skip
            refine Go_ireturn dL_due_313 rfl (by first | rfl | decide | exact nar_b | simp [narrow]) ?_
            exact dueK k (by unfold cA; rw [if_neg (by decide), if_neg (by omega), if_neg (by decide), if_neg (by decide), if_neg (by decide), if_neg (by decide), if_neg (by decide), if_pos rfl, if_neg (by omega), if_neg cab, if_neg (fun z => e1 z.1)]) h frm.rfl
      · skip
        refine Go_ild0 dL_due_0 ?_
        refine Go_if_ne (tgt := 70) dL_due_1 (by decide) (by constructor <;> omega) (fun h1 => ?_) (fun h1 => by omega)
        refine Go_ild1 dL_due_70 ?_
        refine Go_ald4 dL_due_71 ?_
        refine Go_iconst dL_due_73 ?_
        refine Go_iald dL_due_74 (by first | assumption | rfl) trivial (by omega) (by omega) (by decide) ?_
        rw [show (5 : Int).toNat = 5 from rfl, hN]
        refine Go_icmp_ge (tgt := 92) dL_due_75 (by decide) (by constructor <;> omega) (by constructor <;> omega) (fun h75 => by omega) (fun h75 => ?_)
        refine Go_ild0 dL_due_78 ?_
        refine Go_bipush dL_due_79 (by decide +kernel) ?_
        refine Go_icmp_ne (tgt := 95) dL_due_81 (by decide) (by constructor <;> omega) (by constructor <;> omega) (fun h81 => by omega) (fun h81 => ?_)
        refine Go_ild2 dL_due_84 ?_
        refine Go_ald4 dL_due_85 ?_
        refine Go_iconst dL_due_87 ?_
        refine Go_iald dL_due_88 (by first | assumption | rfl) trivial (by omega) (by omega) (by decide) ?_
        rw [show (5 : Int).toNat = 5 from rfl, hN]
        refine Go_icmp_lt (tgt := 95) dL_due_89 (by decide) (by constructor <;> omega) (by constructor <;> omega) (fun h89 => by omega) (fun h89 => ?_)
        refine Go_bipush dL_due_92 (by decide +kernel) ?_
        refine Go_ireturn dL_due_94 rfl (by first | rfl | decide | exact nar_b | simp [narrow]) ?_
        exact dueK k (by unfold cA; rw [if_neg (by decide), if_neg (by omega), if_neg (by decide), if_neg (by decide), if_neg (by decide), if_neg (by decide), if_neg (by decide), if_pos rfl, if_pos cb]) h frm.rfl
    · skip
      refine Go_ild0 dL_due_0 ?_
      refine Go_if_ne (tgt := 70) dL_due_1 (by decide) (by constructor <;> omega) (fun h1 => ?_) (fun h1 => by omega)
      refine Go_ild1 dL_due_70 ?_
      refine Go_ald4 dL_due_71 ?_
      refine Go_iconst dL_due_73 ?_
      refine Go_iald dL_due_74 (by first | assumption | rfl) trivial (by omega) (by omega) (by decide) ?_
      rw [show (5 : Int).toNat = 5 from rfl, hN]
      refine Go_icmp_ge (tgt := 92) dL_due_75 (by decide) (by constructor <;> omega) (by constructor <;> omega) (fun h75 => by omega) (fun h75 => ?_)
      refine Go_ild0 dL_due_78 ?_
      refine Go_bipush dL_due_79 (by decide +kernel) ?_
      refine Go_icmp_ne (tgt := 95) dL_due_81 (by decide) (by constructor <;> omega) (by constructor <;> omega) (fun h81 => ?_) (fun h81 => by omega)
      refine Go_ild0 dL_due_95 ?_
      refine Go_tsIn (i := 6) (off := 218) (tgt := 314) dL_due_96 (by omega) ⟨⟨by decide, by decide⟩, by decide⟩ (by decide) (by decide) ?_
      exact l_due_split h ho ha hb (fun e1 e2 w1 r1 f1 => dueK k (by unfold cA; rw [if_neg (by decide), if_neg (by omega), if_neg (by decide), if_neg (by decide), if_neg (by decide), if_neg (by decide), if_neg (by decide), if_neg (by decide), if_pos rfl, if_neg (by omega), if_neg (by omega)]) r1 f1) (fun e1 => dueK k (by unfold cA; rw [if_neg (by decide), if_neg (by omega), if_neg (by decide), if_neg (by decide), if_neg (by decide), if_neg (by decide), if_neg (by decide), if_neg (by decide), if_pos rfl, if_pos e1]) h frm.rfl) (fun e1 e2 => dueK k (by unfold cA; rw [if_neg (by decide), if_neg (by omega), if_neg (by decide), if_neg (by decide), if_neg (by decide), if_neg (by decide), if_neg (by decide), if_neg (by decide), if_pos rfl, if_neg (by omega), if_pos e2]) h frm.rfl)
    · have el : (s.1.eraseIdx a).length = s.1.length - 1 := List.length_eraseIdx_of_lt ha
      refine Go_ild0 dL_due_0 ?_
      refine Go_if_ne (tgt := 70) dL_due_1 (by decide) (by constructor <;> omega) (fun h1 => ?_) (fun h1 => by omega)
      refine Go_ild1 dL_due_70 ?_
      refine Go_ald4 dL_due_71 ?_
      refine Go_iconst dL_due_73 ?_
      refine Go_iald dL_due_74 (by first | assumption | rfl) trivial (by omega) (by omega) (by decide) ?_
      rw [show (5 : Int).toNat = 5 from rfl, hN]
      refine Go_icmp_ge (tgt := 92) dL_due_75 (by decide) (by constructor <;> omega) (by constructor <;> omega) (fun h75 => by omega) (fun h75 => ?_)
      refine Go_ild0 dL_due_78 ?_
      refine Go_bipush dL_due_79 (by decide +kernel) ?_
      refine Go_icmp_ne (tgt := 95) dL_due_81 (by decide) (by constructor <;> omega) (by constructor <;> omega) (fun h81 => ?_) (fun h81 => by omega)
      refine Go_ild0 dL_due_95 ?_
      refine Go_tsOut (tgt := 418) dL_due_96 (by constructor <;> omega) (by omega) (by decide) ?_
      refine Go_ild1 dL_due_418 ?_
      refine Go_ald4 dL_due_419 ?_
      refine Go_ald5 dL_due_421 ?_
      refine Go_cSv3 (d' := 0) (bc' := 0) (bs' := 0) rfl dL_due_423 msL_drops rfl lkL_128 (by decide) (by omega) (by omega) (Nat.le_of_ble_eq_true rfl) ?_
      refine e_L_drops h.1.1 (by omega) hN (fun w1 a1 f1 n5 n6 hd => ?_)
      refine Go_ald4 dL_due_426 ?_
      refine Go_iconst dL_due_428 ?_
      refine Go_iald dL_due_429 (by first | assumption | rfl) trivial (by omega) (by omega) (by decide) ?_
      rw [show (5 : Int).toNat = 5 from rfl, n5]
      refine Go_ireturn dL_due_430 rfl (by first | rfl | decide | exact nar_b | simp [narrow]) ?_
      refine kI (y := ((s.1.eraseIdx a).length : Int)) (by omega) (dueK k (by unfold cA; rw [if_neg (by decide), if_neg (by omega), if_neg (by decide), if_neg (by decide), if_neg (by decide), if_neg (by decide), if_neg (by decide), if_neg (by decide), if_neg (by decide)]) ⟨?_, ?_, ?_, ?_⟩ f1)
      · exact RP_erase h.1 h5 ha a1 (by rw [n5, hN]) hd
      · rw [n6 6 (by decide)]; exact h.2.1
      · rw [n6 7 (by decide)]; exact h.2.2.1
      · rw [n6 8 (by decide)]; exact h.2.2.2
  · have cA0 : cA s kd a b c = (-101, s) := by unfold cA; rw [if_neg k0, if_pos ha]
    refine Go_ild0 dL_due_0 ?_
    refine Go_if_ne (tgt := 70) dL_due_1 (by decide) (by constructor <;> omega) (fun h1 => ?_) (fun h1 => by omega)
    refine Go_ild1 dL_due_70 ?_
    refine Go_ald4 dL_due_71 ?_
    refine Go_iconst dL_due_73 ?_
    refine Go_iald dL_due_74 (by first | assumption | rfl) trivial (by omega) (by omega) (by decide) ?_
    rw [show (5 : Int).toNat = 5 from rfl, hN]
    refine Go_icmp_ge (tgt := 92) dL_due_75 (by decide) (by constructor <;> omega) (by constructor <;> omega) (fun h75 => ?_) (fun h75 => by omega)
    refine Go_bipush dL_due_92 (by decide +kernel) ?_
    refine Go_ireturn dL_due_94 rfl (by first | rfl | decide | exact nar_b | simp [narrow]) ?_
    exact dueK k cA0 h frm.rfl
end Due3
