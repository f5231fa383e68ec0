theorem lst1 : ∀ q ∈ L1, q.1 < 68 := by decide
theorem allL1 : (List.range 70).all (fun a => (List.range 20).all (fun k => !((SH a).1 == 1 && (ftl (SH a).2)[k]? == some true) || (L1.contains (a, k) && a != 3))) = true := by decide +kernel
theorem allL6 : (List.range 70).all (fun a => (List.range 6).all (fun k => !((SH a).1 == 6 && decide (k < (SH a).2)) || (L1.contains (a, k) && a != 3))) = true := by decide +kernel
theorem all6 : (List.range 70).all (fun a => !((SH a).1 == 6) || decide ((SH a).2 ≤ 6)) = true := by decide +kernel
theorem ftl_len (ci : Nat) : (ftl ci).length ≤ 20 := by
  unfold ftl
  split <;> decide
theorem RT_RF {a k : Nat} (h : a ≠ 3) : RT a k = RF a k := by unfold RT; rw [if_neg h]
theorem STG.allR {w : Wd} (h : STG L1 true w) : allR w := by
  refine ⟨fun a ci k hs hk => ?_, fun a N k hs hk => ?_⟩
  · have ha := SH_lt hs (by decide)
    have hk2 : k < 20 := Nat.lt_of_lt_of_le (List.getElem?_eq_some_iff.mp hk).1 (ftl_len ci)
    have e := List.all_eq_true.mp (List.all_eq_true.mp allL1 a (List.mem_range.mpr (by have := ha.2; unfold NA at this; omega))) k (List.mem_range.mpr hk2)
    rw [hs] at e
    simp only [hk, beq_self_eq_true, Bool.and_self, Bool.not_true, Bool.false_or, Bool.and_eq_true, List.contains_iff_mem, bne_iff_ne] at e
    rw [← RT_RF e.2]
    exact h.1 _ e.1
  · have ha := SH_lt hs (by decide)
    have ha2 : a < 70 := by have := ha.2; unfold NA at this; omega
    have e6 := List.all_eq_true.mp all6 a (List.mem_range.mpr ha2)
    rw [hs] at e6
    simp only [beq_self_eq_true, Bool.not_true, Bool.false_or, decide_eq_true_eq] at e6
    have e := List.all_eq_true.mp (List.all_eq_true.mp allL6 a (List.mem_range.mpr ha2)) k (List.mem_range.mpr (by omega))
    rw [hs] at e
    simp only [hk, decide_true, beq_self_eq_true, Bool.and_self, Bool.not_true, Bool.false_or, Bool.and_eq_true, List.contains_iff_mem, bne_iff_ne] at e
    rw [← RT_RF e.2]
    exact h.1 _ e.1
theorem OKp_nil : OKp [] := by
  have e : ∀ p, pth [] p = [] := fun p => pth_ge (by simp)
  refine ⟨by decide, fun p hp => by simp at hp, fun p x hx => by rw [e] at hx; simp at hx, fun p => ⟨by rw [e]; exact List.nodup_nil, fun q _ x hx => by rw [e] at hx; simp at hx⟩⟩
theorem STG.z {w : Wd} (h : STG L1 true w) {a k : Nat} (hm : (a, k) ∉ L1) (h4 : a ≠ 4 ∧ a ≠ 5) : w a k = 0 := h.2.1 a k hm (fun _ => h4)
theorem STG.CI {w : Wd} (h : STG L1 true w) : CI w s00 [] (fun _ => none) [] := by
  have e3 : ∀ p, p < 5 → w 3 p = ((6 + 2 * p : Nat) : Int) := fun p hp => by
    have m : ∀ p, p < 5 → (3, p) ∈ L1 := by decide +kernel
    exact h.1 (3, p) (m p hp)
  have eA : ∀ p, p < 5 → tA w p = 6 + 2 * p := fun p hp => by unfold tA; rw [e3 p hp, Int.toNat_natCast]
  refine ⟨⟨⟨⟨h.z (by decide) (by decide), by decide, fun p hp => ⟨?_, ?_⟩, fun p q hp hq e => ?_, fun p hp => absurd hp (by simp [s00])⟩, fun t ht => h.2.2 rfl t ht, h.z (by decide) (by decide)⟩, h.z (by decide) (by decide), h.z (by decide) (by decide), h.z (by decide) (by decide)⟩, OKp_nil, ⟨0, by decide, h.z (by decide) (by decide), h.z (by decide) (by decide), by decide, fun i hi => absurd hi (by simp)⟩, fun i hi => ?_, h.z (by decide) (by decide), by decide, fun j hj => absurd hj (by simp), fun x hx => by simp at hx⟩
  · rw [eA p hp]
    have m : ∀ p, p < 5 → 6 + 2 * p ∈ bts := by decide
    exact m p hp
  · rw [eA p hp]; exact e3 p hp
  · rw [eA p hp, eA q hq] at e; omega
  · have m : ∀ i, i < 2 → (38, i) ∉ L1 := by decide +kernel
    exact h.z (m i hi) (by decide)
theorem STG.RS {w : Wd} (h : STG L1 true w) : RS w s00 := by
  have hz : ∀ a k, 68 ≤ a → w a k = 0 := fun a k ha => h.zero a (List.all_eq_true.mpr (fun q hq => by rw [decide_eq_true_eq]; have := lst1 q hq; omega)) (fun _ => by omega) k
  exact ⟨⟨fun i _ => by rw [hz _ _ (by decide)]; omega, by rw [hz _ _ (by decide)]; rfl, fun p hp => absurd hp (by simp [s00])⟩, hz _ _ (by decide), hz _ _ (by decide), hz _ _ (by decide)⟩
theorem pushS_last (sv : List Sta) (s : Sta) : 0 < (pushS sv s).length ∧ (pushS sv s).getD ((pushS sv s).length - 1) s00 = s := by
  unfold pushS
  rw [List.length_append, List.length_singleton]
  refine ⟨by omega, ?_⟩
  rw [gS_app, if_neg (by omega)]
  show [s].getD _ s00 = s
  rw [show (if sv.length = 6 then List.drop 1 sv else sv).length + 1 - 1 - (if sv.length = 6 then List.drop 1 sv else sv).length = 0 by omega]
  rfl
theorem cA_in {s : Sta} {kd a b c : Nat} (ho : OKp s.1) : -103 ≤ (cA s kd a b c).1 ∧ (cA s kd a b c).1 ≤ 200 := by
  have key : (fun r : Int × Sta => -103 ≤ r.1 ∧ r.1 ≤ 200) (cA s kd a b c) := by
    have h5 := ho.1
    have z1 := stepR_in s.1 a b
    have z2 := slithR_in s.1 a b
    have z3 := whyT_in s.1 a b c
    have z4 : hdL (pth s.1 a).reverse < 100 := ((ho.lt a).rev).at _
    have z5 : (pth s.1 a).length ≤ 60 := by
      by_cases q : a < s.1.length
      · exact (ho.len q).2
      · rw [pth_ge (by omega)]; exact Nat.zero_le _
    have z6 : (pth s.1 b).length ≤ 60 := by
      by_cases q : b < s.1.length
      · exact (ho.len q).2
      · rw [pth_ge (by omega)]; exact Nat.zero_le _
    have z7 : (s.1.eraseIdx a).length ≤ s.1.length := List.length_eraseIdx_le _ _
    unfold cA
    repeat' (refine iteP (P := fun r : Int × Sta => -103 ≤ r.1 ∧ r.1 ≤ 200) (fun _ => ?_) (fun _ => ?_))
    all_goals dsimp only
    all_goals omega
  exact key
section Loop
variable {G : Gm} {tb : List (Nat × Nat × Nat × Nat)} {K : Kt} {X : Xt}
/-- one turn -/
theorem l_law_turn {t bn sn : Nat} {w : Wd} {s : Sta} {sv : List Sta} {g : Nat → Option Sta} {tx : List Nat} (ht : t < 44) (hL : GL G ≤ 260) (h : CI w s sv g tx) (hr : RS w s) (htot : tot s.1 ≤ t)
    (kn : ∀ v s' sv' g' tx', CI v s' sv' g' tx' → RS v s' → tot s'.1 ≤ t + 1 → Go G cL_law (mL_law tb) none 11 bn sn 21 [some (vr 1000), some (vr 1), some (vr 68), some (vr 69), some (vi ((t + 1 : Nat) : Int)), none, none, none, none, none, none, none, none, none] [] v K X) : Go G cL_law (mL_law tb) none 11 (bn + 1400) (sn + 8400) 21 [some (vr 1000), some (vr 1), some (vr 68), some (vr 69), some (vi (t : Int)), none, none, none, none, none, none, none, none, none] [] w K X := by
  have ho := h.2.1
  have h5 := ho.1
  have hN : w 68 5 = (s.1.length : Int) := hr.1.2.1
  have k316 : ∀ (x y : Int) (kd a b : Nat), inR x → inR y → kd ≤ 8 → a < 10 → b < 60 → (kd = 0 → b < 10) → (kd = 1 ∨ kd = 3 → b < 4) → Go G cL_law (mL_law tb) none 11 (bn + 1400) (sn + 8400) 316 [some (vr 1000), some (vr 1), some (vr 68), some (vr 69), some (vi (t : Int)), some (vi x), some (vi y), some (vi (kd : Int)), some (vi (a : Int)), some (vi (b : Int)), none, none, none, none] [] w K X := fun x y kd a b hx hy hkd ha hb hb0 hb1 => by
    refine Go_iconst dL_law_316 ?_
    refine Go_ild6 dL_law_317 ?_
    refine Go_bipush dL_law_319 (by decide +kernel) ?_
    refine Go_ishrA dL_law_321 (fun y9 ry9 => ?_)
    refine Go_iconst dL_law_322 ?_
    refine Go_cS2 (d' := 0) (bc' := 0) (bs' := 0) rfl dL_law_323 msL_low rfl lkL_151 (by decide) (by omega) (by omega) (Nat.le_of_ble_eq_true rfl) ?_
    refine e_L_low (by omega) (by omega) (fun c0 hc0 => ?_)
    refine Go_iadd dL_law_326 ?_
    rw [show 1 + (c0 : Int) = ((1 + c0 : Nat) : Int) by omega]
    obtain ⟨c, hc⟩ : ∃ c : Nat, c = 1 + c0 := ⟨_, rfl⟩
    rw [← hc]
    have hk : argOK s kd a b c := ⟨hkd, ha, hb, hb0, hb1, by omega, by omega⟩
    refine Go_ist10 dL_law_327 rfl ?_
    refine Go_ald1 dL_law_329 ?_
    refine Go_cS1 (d' := 9) (bc' := 405) (bs' := 2430) rfl dL_law_330 msL_told rfl lkL_175 (by decide) (by omega) (by omega) (Nat.le_of_ble_eq_true rfl) ?_
    refine e_L_told h ?_
    refine Go_lstore (i := 11) dL_law_333 rfl (Nat.le_of_ble_eq_true rfl) (fun j hj => by have e : j = 10 := (by omega); subst e; rfl) ?_
    obtain ⟨A, hA⟩ : ∃ A : Int, A = (cA s kd a b c).1 := ⟨_, rfl⟩
    have bA := cA_in (s := s) (kd := kd) (a := a) (b := b) (c := c) ho
    rw [← hA] at bA
    have tA := cA_tot (s := s) (kd := kd) (a := a) (b := b) (c := c) ho
    have k415 : ∀ (v : Wd) (sv' : List Sta), CI v (cA s kd a b c).2 sv' g tx → frm w v ccs → Go G cL_law (mL_law tb) none 11 (bn + 100) (sn + 600) 415 [some (vr 1000), some (vr 1), some (vr 68), some (vr 69), some (vi (t : Int)), some (vi x), some (vi y), some (vi (kd : Int)), some (vi (a : Int)), some (vi (b : Int)), some (vi (c : Int)), some (vl (tS s 100)), none, some (vi A)] [] v K X := fun v sv' hv fv => by
      have rv : RS v s := hr.frm fv (by decide +kernel) (by decide +kernel)
      refine Go_ild13 dL_law_415 ?_
      refine Go_ild7 dL_law_417 ?_
      refine Go_ild8 dL_law_419 ?_
      refine Go_ild9 dL_law_421 ?_
      refine Go_ild10 dL_law_423 ?_
      refine Go_ald2 dL_law_425 ?_
      refine Go_ald3 dL_law_426 ?_
      refine Go_cS6 (d' := 4) (bc' := 0) (bs' := 0) rfl dL_law_427 msL_due rfl lkL_186 (by decide) (by omega) (by omega) (Nat.le_of_ble_eq_true rfl) ?_
      refine e_L_due rv ho hk (by omega) (fun v1 r1 f1 => ?_)
      rw [← hA]
      have c1 := hv.frm f1 (by decide)
      refine Go_icmpN_ne 446 dL_law_430 (by decide) ?_
      refine Go_ald1 dL_law_433 ?_
      refine Go_ild5 dL_law_434 ?_
      refine Go_iconst dL_law_436 ?_
      refine Go_ishrA dL_law_437 (fun y9 ry9 => ?_)
      refine Go_ald2 dL_law_438 ?_
      refine Go_ald3 dL_law_439 ?_
      refine Go_cS4 (d' := 10) (bc' := 99) (bs' := 594) rfl dL_law_440 msL_isSo rfl lkL_190 (by decide) (by omega) (by omega) (Nat.le_of_ble_eq_true rfl) ?_
      refine e_L_isSo c1 r1 (fun v2 c2 f2 => ?_)
      have r2 : RS v2 (cA s kd a b c).2 := r1.frm f2 (by decide +kernel) (by decide +kernel)
      refine Go_if_ne (tgt := 448) dL_law_443 (by decide) (by constructor <;> omega) (fun h443 => ?_) (fun h443 => by omega)
      refine Go_inc4 dL_law_448 rfl ?_
      refine Go_goto (tgt := 21) dL_law_451 (by decide) ?_
      rw [show (t : Int) + 1 = ((t + 1 : Nat) : Int) by omega]
      exact Go_more (by omega) (by omega) (Go_forget (by repeat' (first | exact Or.inl rfl | exact Or.inr rfl | exact Or.inr (lcg (by omega)) | exact trivial | constructor)) (kn v2 _ _ _ _ c2 r2 (by omega)))
    refine Go_ald1 dL_law_335 ?_
    refine Go_ild7 dL_law_336 ?_
    refine Go_ild8 dL_law_338 ?_
    refine Go_ild9 dL_law_340 ?_
    refine Go_ild10 dL_law_342 ?_
    refine Go_cS5 (d' := 10) (bc' := 20) (bs' := 120) rfl dL_law_344 msL_call rfl lkL_179 (by decide) (by omega) (by omega) (Nat.le_of_ble_eq_true rfl) ?_
    refine e_L_call h hk (fun v1 c1 f1 => ?_)
    rw [← hA]
    refine Go_ist13 dL_law_347 rfl ?_
    by_cases hlt : A < -100
    · rw [← hA, if_pos hlt] at c1
      have es : (cA s kd a b c).2 = s := cA_refused (by rw [← hA]; exact hlt)
      have c1s := c1
      rw [es] at c1s
      refine Go_ild13 dL_law_349 ?_
      refine Go_bipush dL_law_351 (by decide +kernel) ?_
      refine Go_icmp_ge (tgt := 369) dL_law_353 (by decide) (by constructor <;> omega) (by constructor <;> omega) (fun h353 => by omega) (fun h353 => ?_)
      refine Go_ald1 dL_law_356 ?_
      refine Go_cS1 (d' := 9) (bc' := 405) (bs' := 2430) rfl dL_law_357 msL_told rfl lkL_175 (by decide) (by omega) (by omega) (Nat.le_of_ble_eq_true rfl) ?_
      refine e_L_told c1s ?_
      refine Go_lload (i := 11) dL_law_360 rfl ?_
      refine Go_lcmp_same dL_law_362 ?_
      refine Go_if_eq (tgt := 415) dL_law_363 (by decide) (by constructor <;> omega) (fun h363 => ?_) (fun h363 => by omega)
      exact Go_more (by omega) (by omega) (k415 v1 _ c1 f1)
    · rw [← hA, if_neg hlt] at c1
      have hp := pushS_last sv s
      refine Go_ild13 dL_law_349 ?_
      refine Go_bipush dL_law_351 (by decide +kernel) ?_
      refine Go_icmp_ge (tgt := 369) dL_law_353 (by decide) (by constructor <;> omega) (by constructor <;> omega) (fun h353 => ?_) (fun h353 => by omega)
      refine Go_ild5 dL_law_369 ?_
      refine Go_bipush dL_law_371 (by decide +kernel) ?_
      refine Go_ishrA dL_law_373 (fun y8 ry8 => ?_)
      refine Go_iconst dL_law_374 ?_
      refine Go_iandA dL_law_375 (fun y7 ry7 => ?_)
      obtain ⟨ry71, ry72⟩ := ry7
      refine Go_if_ne (tgt := 415) dL_law_376 (by decide) (by constructor <;> omega) (fun h376 => ?_) (fun h376 => ?_)
      · exact Go_more (by omega) (by omega) (k415 v1 _ c1 f1)
      · refine Go_ald1 dL_law_379 ?_
        refine Go_cSW1 (d' := 7) (bc' := 1) (bs' := 6) rfl dL_law_380 msL_undo rfl lkL_183 (by decide) (by omega) (by omega) (Nat.le_of_ble_eq_true rfl) ?_
        refine e_L_undo c1 (fun v2 h2 c2 f2 => ?_) (fun z => by omega)
        rw [hp.2] at c2
        have hb6 : (pushS sv s).length ≤ 6 := by obtain ⟨o9, h91, h92, h93, h94, h95⟩ := c1.2.2.1; exact h94
        refine Go_if_lt (tgt := 413) dL_law_383 (by decide) (by constructor <;> omega) (fun h383 => by omega) (fun h383 => ?_)
        refine Go_ald1 dL_law_386 ?_
        refine Go_cS1 (d' := 9) (bc' := 405) (bs' := 2430) rfl dL_law_387 msL_told rfl lkL_175 (by decide) (by omega) (by omega) (Nat.le_of_ble_eq_true rfl) ?_
        refine e_L_told c2 ?_
        refine Go_lload (i := 11) dL_law_390 rfl ?_
        refine Go_lcmp_same dL_law_392 ?_
        refine Go_if_ne (tgt := 413) dL_law_393 (by decide) (by constructor <;> omega) (fun h393 => by omega) (fun h393 => ?_)
        refine Go_ald1 dL_law_396 ?_
        refine Go_ild7 dL_law_397 ?_
        refine Go_ild8 dL_law_399 ?_
        refine Go_ild9 dL_law_401 ?_
        refine Go_ild10 dL_law_403 ?_
        refine Go_cS5 (d' := 10) (bc' := 20) (bs' := 120) rfl dL_law_405 msL_call rfl lkL_179 (by decide) (by omega) (by omega) (Nat.le_of_ble_eq_true rfl) ?_
        refine e_L_call c2 hk (fun v3 c3 f3 => ?_)
        rw [← hA]
        refine Go_ild13 dL_law_408 ?_
        refine Go_icmp_same (tgt := 415) dL_law_410 (by decide) ?_
        exact Go_more (by omega) (by omega) (k415 v3 _ c3 ((f1.trans f2 (fun _ q => q)).trans f3 (fun _ q => q)))
  have k225 : ∀ (x y : Int) (kd a : Nat), inR x → inR y → kd ≤ 8 → a < 10 → Go G cL_law (mL_law tb) none 11 (bn + 1400) (sn + 8400) 225 [some (vr 1000), some (vr 1), some (vr 68), some (vr 69), some (vi (t : Int)), some (vi x), some (vi y), some (vi (kd : Int)), some (vi (a : Int)), none, none, none, none, none] [] w K X := fun x y kd a hx hy hkd ha => by
    have k314 : ∀ b : Nat, b < 60 → (kd = 0 → b < 10) → (kd = 1 ∨ kd = 3 → b < 4) → Go G cL_law (mL_law tb) none 11 (bn + 1400) (sn + 8400) 314 [some (vr 1000), some (vr 1), some (vr 68), some (vr 69), some (vi (t : Int)), some (vi x), some (vi y), some (vi (kd : Int)), some (vi (a : Int)), none, none, none, none, none] [vi (b : Int)] w K X := fun b h1 h2 h3 => by
      refine Go_ist9 dL_law_314 rfl ?_
      exact k316 x y kd a b hx hy hkd ha h1 h2 h3
    by_cases k0 : kd = 0
    · skip
      refine Go_ild7 dL_law_225 ?_
      refine Go_if_ne (tgt := 244) dL_law_227 (by decide) (by constructor <;> omega) (fun h227 => by omega) (fun h227 => ?_)
      refine Go_iconst dL_law_230 ?_
      refine Go_ild6 dL_law_231 ?_
      refine Go_iconst dL_law_233 ?_
      refine Go_ishrA dL_law_234 (fun y9 ry9 => ?_)
      refine Go_bipush dL_law_235 (by decide +kernel) ?_
      refine Go_cS2 (d' := 0) (bc' := 0) (bs' := 0) rfl dL_law_237 msL_low rfl lkL_151 (by decide) (by omega) (by omega) (Nat.le_of_ble_eq_true rfl) ?_
      refine e_L_low (by omega) (by omega) (fun j hj => ?_)
      refine Go_iadd dL_law_240 ?_
      rw [show 2 + (j : Int) = ((2 + j : Nat) : Int) by omega]
      refine Go_goto (tgt := 314) dL_law_241 (by decide) ?_
      exact Go_more (by omega) (by omega) (k314 _ (by omega) (by omega) (by omega))
    by_cases k13 : kd = 1 ∨ kd = 3
    · have s261 : Go G cL_law (mL_law tb) none 11 (bn + 1400) (sn + 8400) 256 [some (vr 1000), some (vr 1), some (vr 68), some (vr 69), some (vi (t : Int)), some (vi x), some (vi y), some (vi (kd : Int)), some (vi (a : Int)), none, none, none, none, none] [] w K X := by
        refine Go_ild6 dL_law_256 ?_
        refine Go_iconst dL_law_258 ?_
        refine Go_ishrA dL_law_259 (fun y9 ry9 => ?_)
        refine Go_iconst dL_law_260 ?_
        refine Go_cS2 (d' := 0) (bc' := 0) (bs' := 0) rfl dL_law_261 msL_low rfl lkL_151 (by decide) (by omega) (by omega) (Nat.le_of_ble_eq_true rfl) ?_
        refine e_L_low (by omega) (by omega) (fun j hj => ?_)
        refine Go_goto (tgt := 314) dL_law_264 (by decide) ?_
        exact Go_more (by omega) (by omega) (k314 _ (by omega) (by omega) (by omega))
      by_cases k1 : kd = 1
      · skip
        refine Go_ild7 dL_law_225 ?_
        refine Go_if_ne (tgt := 244) dL_law_227 (by decide) (by constructor <;> omega) (fun h227 => ?_) (fun h227 => by omega)
        refine Go_ild7 dL_law_244 ?_
        refine Go_iconst dL_law_246 ?_
        refine Go_icmp_eq (tgt := 256) dL_law_247 (by decide) (by constructor <;> omega) (by constructor <;> omega) (fun h247 => ?_) (fun h247 => by omega)
        exact s261
      · skip
        refine Go_ild7 dL_law_225 ?_
        refine Go_if_ne (tgt := 244) dL_law_227 (by decide) (by constructor <;> omega) (fun h227 => ?_) (fun h227 => by omega)
        refine Go_ild7 dL_law_244 ?_
        refine Go_iconst dL_law_246 ?_
        refine Go_icmp_eq (tgt := 256) dL_law_247 (by decide) (by constructor <;> omega) (by constructor <;> omega) (fun h247 => by omega) (fun h247 => ?_)
        refine Go_ild7 dL_law_250 ?_
        refine Go_iconst dL_law_252 ?_
        refine Go_icmp_ne (tgt := 267) dL_law_253 (by decide) (by constructor <;> omega) (by constructor <;> omega) (fun h253 => by omega) (fun h253 => ?_)
        exact s261
    by_cases k6 : kd = 6
    · skip
      refine Go_ild7 dL_law_225 ?_
      refine Go_if_ne (tgt := 244) dL_law_227 (by decide) (by constructor <;> omega) (fun h227 => ?_) (fun h227 => by omega)
      refine Go_ild7 dL_law_244 ?_
      refine Go_iconst dL_law_246 ?_
      refine Go_icmp_eq (tgt := 256) dL_law_247 (by decide) (by constructor <;> omega) (by constructor <;> omega) (fun h247 => by omega) (fun h247 => ?_)
      refine Go_ild7 dL_law_250 ?_
      refine Go_iconst dL_law_252 ?_
      refine Go_icmp_ne (tgt := 267) dL_law_253 (by decide) (by constructor <;> omega) (by constructor <;> omega) (fun h253 => ?_) (fun h253 => by omega)
      refine Go_ild7 dL_law_267 ?_
      refine Go_bipush dL_law_269 (by decide +kernel) ?_
      refine Go_icmp_ne (tgt := 289) dL_law_271 (by decide) (by constructor <;> omega) (by constructor <;> omega) (fun h271 => by omega) (fun h271 => ?_)
      refine Go_ild6 dL_law_274 ?_
      refine Go_iconst dL_law_276 ?_
      refine Go_ishrA dL_law_277 (fun y9 ry9 => ?_)
      refine Go_ald2 dL_law_278 ?_
      refine Go_iconst dL_law_279 ?_
      refine Go_iald dL_law_280 (by first | rfl | assumption) trivial (by omega) (by omega) (by decide) ?_
      rw [show (5 : Int).toNat = 5 from rfl, hN]
      refine Go_iconst dL_law_281 ?_
      refine Go_iadd dL_law_282 ?_
      refine Go_cS2 (d' := 0) (bc' := 0) (bs' := 0) rfl dL_law_283 msL_low rfl lkL_151 (by decide) (by omega) (by omega) (Nat.le_of_ble_eq_true rfl) ?_
      refine e_L_low (by omega) (by omega) (fun j hj => ?_)
      refine Go_goto (tgt := 314) dL_law_286 (by decide) ?_
      exact Go_more (by omega) (by omega) (k314 _ (by omega) (by omega) (by omega))
    by_cases ca : a < s.1.length
    · have hA := hr.1.2.2 a ca
      have hlen : w 68 (Int.toNat (a : Int)) = ((pth s.1 a).length : Int) := hA.1
      refine Go_ild7 dL_law_225 ?_
      refine Go_if_ne (tgt := 244) dL_law_227 (by decide) (by constructor <;> omega) (fun h227 => ?_) (fun h227 => by omega)
      refine Go_ild7 dL_law_244 ?_
      refine Go_iconst dL_law_246 ?_
      refine Go_icmp_eq (tgt := 256) dL_law_247 (by decide) (by constructor <;> omega) (by constructor <;> omega) (fun h247 => by omega) (fun h247 => ?_)
      refine Go_ild7 dL_law_250 ?_
      refine Go_iconst dL_law_252 ?_
      refine Go_icmp_ne (tgt := 267) dL_law_253 (by decide) (by constructor <;> omega) (by constructor <;> omega) (fun h253 => ?_) (fun h253 => by omega)
      refine Go_ild7 dL_law_267 ?_
      refine Go_bipush dL_law_269 (by decide +kernel) ?_
      refine Go_icmp_ne (tgt := 289) dL_law_271 (by decide) (by constructor <;> omega) (by constructor <;> omega) (fun h271 => ?_) (fun h271 => by omega)
      refine Go_ild6 dL_law_289 ?_
      refine Go_iconst dL_law_291 ?_
      refine Go_ishrA dL_law_292 (fun y9 ry9 => ?_)
      refine Go_iconst dL_law_293 ?_
      refine Go_ild8 dL_law_294 ?_
      refine Go_ald2 dL_law_296 ?_
      refine Go_iconst dL_law_297 ?_
      refine Go_iald dL_law_298 (by first | rfl | assumption) trivial (by omega) (by omega) (by decide) ?_
      rw [show (5 : Int).toNat = 5 from rfl, hN]
      refine Go_icmp_ge (tgt := 309) dL_law_299 (by decide) (by constructor <;> omega) (by constructor <;> omega) (fun h299 => by omega) (fun h299 => ?_)
      refine Go_ald2 dL_law_302 ?_
      refine Go_ild8 dL_law_303 ?_
      refine Go_iald dL_law_305 (by first | rfl | assumption) trivial (by omega) (by omega) (by decide) ?_
      rw [hlen]
      refine Go_goto (tgt := 310) dL_law_306 (by decide) ?_
      refine Go_iadd dL_law_310 ?_
      refine Go_cS2 (d' := 0) (bc' := 0) (bs' := 0) rfl dL_law_311 msL_low rfl lkL_151 (by decide) (by omega) (by omega) (Nat.le_of_ble_eq_true rfl) ?_
      refine e_L_low (by omega) (by omega) (fun j hj => ?_)
      exact Go_more (by omega) (by omega) (k314 _ (by omega) (by omega) (by omega))
    · skip
      refine Go_ild7 dL_law_225 ?_
      refine Go_if_ne (tgt := 244) dL_law_227 (by decide) (by constructor <;> omega) (fun h227 => ?_) (fun h227 => by omega)
      refine Go_ild7 dL_law_244 ?_
      refine Go_iconst dL_law_246 ?_
      refine Go_icmp_eq (tgt := 256) dL_law_247 (by decide) (by constructor <;> omega) (by constructor <;> omega) (fun h247 => by omega) (fun h247 => ?_)
      refine Go_ild7 dL_law_250 ?_
      refine Go_iconst dL_law_252 ?_
      refine Go_icmp_ne (tgt := 267) dL_law_253 (by decide) (by constructor <;> omega) (by constructor <;> omega) (fun h253 => ?_) (fun h253 => by omega)
      refine Go_ild7 dL_law_267 ?_
      refine Go_bipush dL_law_269 (by decide +kernel) ?_
      refine Go_icmp_ne (tgt := 289) dL_law_271 (by decide) (by constructor <;> omega) (by constructor <;> omega) (fun h271 => ?_) (fun h271 => by omega)
      refine Go_ild6 dL_law_289 ?_
      refine Go_iconst dL_law_291 ?_
      refine Go_ishrA dL_law_292 (fun y9 ry9 => ?_)
      refine Go_iconst dL_law_293 ?_
      refine Go_ild8 dL_law_294 ?_
      refine Go_ald2 dL_law_296 ?_
      refine Go_iconst dL_law_297 ?_
      refine Go_iald dL_law_298 (by first | rfl | assumption) trivial (by omega) (by omega) (by decide) ?_
      rw [show (5 : Int).toNat = 5 from rfl, hN]
      refine Go_icmp_ge (tgt := 309) dL_law_299 (by decide) (by constructor <;> omega) (by constructor <;> omega) (fun h299 => ?_) (fun h299 => by omega)
      refine Go_iconst dL_law_309 ?_
      refine Go_iadd dL_law_310 ?_
      refine Go_cS2 (d' := 0) (bc' := 0) (bs' := 0) rfl dL_law_311 msL_low rfl lkL_151 (by decide) (by omega) (by omega) (Nat.le_of_ble_eq_true rfl) ?_
      refine e_L_low (by omega) (by omega) (fun j hj => ?_)
      exact Go_more (by omega) (by omega) (k314 _ (by omega) (by omega) (by omega))
  have k167 : ∀ (x y : Int) (kd : Nat), inR x → inR y → kd ≤ 8 → Go G cL_law (mL_law tb) none 11 (bn + 1400) (sn + 8400) 167 [some (vr 1000), some (vr 1), some (vr 68), some (vr 69), some (vi (t : Int)), some (vi x), some (vi y), some (vi (kd : Int)), none, none, none, none, none, none] [] w K X := fun x y kd hx hy hkd => by
    have k223 : ∀ a : Nat, a < 10 → Go G cL_law (mL_law tb) none 11 (bn + 1400) (sn + 8400) 223 [some (vr 1000), some (vr 1), some (vr 68), some (vr 69), some (vi (t : Int)), some (vi x), some (vi y), some (vi (kd : Int)), none, none, none, none, none, none] [vi (a : Int)] w K X := fun a h1 => by
      refine Go_ist8 dL_law_223 rfl ?_
      exact k225 x y kd a hx hy hkd h1
    by_cases k0 : kd = 0
    · skip
      refine Go_ild7 dL_law_167 ?_
      refine Go_if_ne (tgt := 184) dL_law_169 (by decide) (by constructor <;> omega) (fun h169 => by omega) (fun h169 => ?_)
      refine Go_iconst dL_law_172 ?_
      refine Go_ild6 dL_law_173 ?_
      refine Go_bipush dL_law_175 (by decide +kernel) ?_
      refine Go_cS2 (d' := 0) (bc' := 0) (bs' := 0) rfl dL_law_177 msL_low rfl lkL_151 (by decide) (by omega) (by omega) (Nat.le_of_ble_eq_true rfl) ?_
      refine e_L_low (by omega) (by omega) (fun j hj => ?_)
      refine Go_iadd dL_law_180 ?_
      rw [show 2 + (j : Int) = ((2 + j : Nat) : Int) by omega]
      refine Go_goto (tgt := 223) dL_law_181 (by decide) ?_
      exact Go_more (by omega) (by omega) (k223 _ (by omega))
    · skip
      refine Go_ild7 dL_law_167 ?_
      refine Go_if_ne (tgt := 184) dL_law_169 (by decide) (by constructor <;> omega) (fun h169 => ?_) (fun h169 => by omega)
      refine Go_ild6 dL_law_184 ?_
      refine Go_ild6 dL_law_186 ?_
      refine Go_bipush dL_law_188 (by decide +kernel) ?_
      refine Go_ishrA dL_law_190 (fun y9 ry9 => ?_)
      refine Go_bipush dL_law_191 (by decide +kernel) ?_
      refine Go_cS2 (d' := 0) (bc' := 0) (bs' := 0) rfl dL_law_193 msL_low rfl lkL_151 (by decide) (by omega) (by omega) (Nat.le_of_ble_eq_true rfl) ?_
      refine e_L_low (by omega) (by omega) (fun j0 hj0 => ?_)
      refine Go_if_ne (tgt := 207) dL_law_196 (by decide) (by constructor <;> omega) (fun h196 => ?_) (fun h196 => ?_)
      · refine Go_ald2 dL_law_207 ?_
        refine Go_iconst dL_law_208 ?_
        refine Go_iald dL_law_209 (by first | rfl | assumption) trivial (by omega) (by omega) (by decide) ?_
        rw [show (5 : Int).toNat = 5 from rfl, hN]
        refine Go_if_ne (tgt := 217) dL_law_210 (by decide) (by constructor <;> omega) (fun h210 => ?_) (fun h210 => ?_)
        · refine Go_ald2 dL_law_217 ?_
          refine Go_iconst dL_law_218 ?_
          refine Go_iald dL_law_219 (by first | rfl | assumption) trivial (by omega) (by omega) (by decide) ?_
          try rw [show (5 : Int).toNat = 5 from rfl, hN]
          refine Go_cS2 (d' := 0) (bc' := 0) (bs' := 0) rfl dL_law_220 msL_low rfl lkL_151 (by decide) (by omega) (by omega) (Nat.le_of_ble_eq_true rfl) ?_
          refine e_L_low (by omega) (by omega) (fun j hj => ?_)
          exact Go_more (by omega) (by omega) (k223 _ (by omega))
        · refine Go_iconst dL_law_213 ?_
          refine Go_goto (tgt := 220) dL_law_214 (by decide) ?_
          try rw [show (5 : Int).toNat = 5 from rfl, hN]
          refine Go_cS2 (d' := 0) (bc' := 0) (bs' := 0) rfl dL_law_220 msL_low rfl lkL_151 (by decide) (by omega) (by omega) (Nat.le_of_ble_eq_true rfl) ?_
          refine e_L_low (by omega) (by omega) (fun j hj => ?_)
          exact Go_more (by omega) (by omega) (k223 _ (by omega))
      · refine Go_ald2 dL_law_199 ?_
        refine Go_iconst dL_law_200 ?_
        refine Go_iald dL_law_201 (by first | rfl | assumption) trivial (by omega) (by omega) (by decide) ?_
        rw [show (5 : Int).toNat = 5 from rfl, hN]
        refine Go_iconst dL_law_202 ?_
        refine Go_iadd dL_law_203 ?_
        refine Go_goto (tgt := 220) dL_law_204 (by decide) ?_
        try rw [show (5 : Int).toNat = 5 from rfl, hN]
        refine Go_cS2 (d' := 0) (bc' := 0) (bs' := 0) rfl dL_law_220 msL_low rfl lkL_151 (by decide) (by omega) (by omega) (Nat.le_of_ble_eq_true rfl) ?_
        refine e_L_low (by omega) (by omega) (fun j hj => ?_)
        exact Go_more (by omega) (by omega) (k223 _ (by omega))
  have k165 : ∀ (x y : Int), inR x → inR y → ∀ kd : Nat, kd ≤ 8 → Go G cL_law (mL_law tb) none 11 (bn + 1400) (sn + 8400) 165 [some (vr 1000), some (vr 1), some (vr 68), some (vr 69), some (vi (t : Int)), some (vi x), some (vi y), none, none, none, none, none, none, none] [vi (kd : Int)] w K X := fun x y hx hy kd hkd => by
    refine Go_ist7 dL_law_165 rfl ?_
    exact k167 x y kd hx hy hkd
  refine Go_ild4 dL_law_21 ?_
  refine Go_bipush dL_law_23 (by decide +kernel) ?_
  refine Go_icmp_ge (tgt := 454) dL_law_25 (by decide) (by constructor <;> omega) (by constructor <;> omega) (fun h25 => by omega) (fun h25 => ?_)
  refine Go_ald0 dL_law_28 ?_
  refine Go_iconst dL_law_29 ?_
  refine Go_ild4 dL_law_30 ?_
  refine Go_imul dL_law_32 ?_
  refine Go_cS2 (d' := 0) (bc' := 0) (bs' := 0) rfl dL_law_33 msL_cell rfl lkL_171 (by decide) (by omega) (by omega) (Nat.le_of_ble_eq_true rfl) ?_
  refine e_L_cell (by omega) (by omega) hL (fun x hx => ?_)
  refine Go_ist5 dL_law_36 rfl ?_
  refine Go_ald0 dL_law_38 ?_
  refine Go_iconst dL_law_39 ?_
  refine Go_ild4 dL_law_40 ?_
  refine Go_imul dL_law_42 ?_
  refine Go_iconst dL_law_43 ?_
  refine Go_iadd dL_law_44 ?_
  refine Go_cS2 (d' := 0) (bc' := 0) (bs' := 0) rfl dL_law_45 msL_cell rfl lkL_171 (by decide) (by omega) (by omega) (Nat.le_of_ble_eq_true rfl) ?_
  refine e_L_cell (by omega) (by omega) hL (fun y hy => ?_)
  refine Go_ist6 dL_law_48 rfl ?_
  refine Go_ild5 dL_law_50 ?_
  refine Go_bipush dL_law_52 (by decide +kernel) ?_
  refine Go_cS2 (d' := 0) (bc' := 0) (bs' := 0) rfl dL_law_54 msL_low rfl lkL_151 (by decide) (by omega) (by omega) (Nat.le_of_ble_eq_true rfl) ?_
  refine e_L_low (by omega) (by omega) (fun j hj => ?_)
  refine Go_ist7 dL_law_57 rfl ?_
  refine Go_ild4 dL_law_59 ?_
  refine Go_if_eq (tgt := 69) dL_law_61 (by decide) (by constructor <;> omega) (fun h61 => ?_) (fun h61 => ?_)
  · refine Go_iconst dL_law_69 ?_
    refine Go_goto (tgt := 165) dL_law_70 (by decide) ?_
    first | exact Go_more (by omega) (by omega) (Go_forget (by repeat' (first | exact Or.inl rfl | exact Or.inr rfl | exact Or.inr (lcg (by omega)) | exact trivial | constructor)) (k165 x y hx hy 0 (by decide))) | exact Go_more (by omega) (by omega) (Go_forget (by repeat' (first | exact Or.inl rfl | exact Or.inr rfl | exact Or.inr (lcg (by omega)) | exact trivial | constructor)) (k165 x y hx hy 1 (by decide))) | exact Go_more (by omega) (by omega) (Go_forget (by repeat' (first | exact Or.inl rfl | exact Or.inr rfl | exact Or.inr (lcg (by omega)) | exact trivial | constructor)) (k165 x y hx hy 2 (by decide))) | exact Go_more (by omega) (by omega) (Go_forget (by repeat' (first | exact Or.inl rfl | exact Or.inr rfl | exact Or.inr (lcg (by omega)) | exact trivial | constructor)) (k165 x y hx hy 3 (by decide))) | exact Go_more (by omega) (by omega) (Go_forget (by repeat' (first | exact Or.inl rfl | exact Or.inr rfl | exact Or.inr (lcg (by omega)) | exact trivial | constructor)) (k165 x y hx hy 4 (by decide))) | exact Go_more (by omega) (by omega) (Go_forget (by repeat' (first | exact Or.inl rfl | exact Or.inr rfl | exact Or.inr (lcg (by omega)) | exact trivial | constructor)) (k165 x y hx hy 5 (by decide))) | exact Go_more (by omega) (by omega) (Go_forget (by repeat' (first | exact Or.inl rfl | exact Or.inr rfl | exact Or.inr (lcg (by omega)) | exact trivial | constructor)) (k165 x y hx hy 6 (by decide))) | exact Go_more (by omega) (by omega) (Go_forget (by repeat' (first | exact Or.inl rfl | exact Or.inr rfl | exact Or.inr (lcg (by omega)) | exact trivial | constructor)) (k165 x y hx hy 7 (by decide))) | exact Go_more (by omega) (by omega) (Go_forget (by repeat' (first | exact Or.inl rfl | exact Or.inr rfl | exact Or.inr (lcg (by omega)) | exact trivial | constructor)) (k165 x y hx hy 8 (by decide)))
  · refine Go_ild7 dL_law_64 ?_
    refine Go_if_ne (tgt := 73) dL_law_66 (by decide) (by constructor <;> omega) (fun h66 => ?_) (fun h66 => ?_)
    · refine Go_ild7 dL_law_73 ?_
      refine Go_bipush dL_law_75 (by decide +kernel) ?_
      refine Go_icmp_ge (tgt := 84) dL_law_77 (by decide) (by constructor <;> omega) (by constructor <;> omega) (fun h77 => ?_) (fun h77 => ?_)
      · refine Go_ild7 dL_law_84 ?_
        refine Go_bipush dL_law_86 (by decide +kernel) ?_
        refine Go_icmp_ne (tgt := 95) dL_law_88 (by decide) (by constructor <;> omega) (by constructor <;> omega) (fun h88 => ?_) (fun h88 => ?_)
        · refine Go_ild7 dL_law_95 ?_
          refine Go_bipush dL_law_97 (by decide +kernel) ?_
          refine Go_icmp_ge (tgt := 106) dL_law_99 (by decide) (by constructor <;> omega) (by constructor <;> omega) (fun h99 => ?_) (fun h99 => ?_)
          · refine Go_ild7 dL_law_106 ?_
            refine Go_bipush dL_law_108 (by decide +kernel) ?_
            refine Go_icmp_ge (tgt := 117) dL_law_110 (by decide) (by constructor <;> omega) (by constructor <;> omega) (fun h110 => ?_) (fun h110 => ?_)
            · refine Go_ild7 dL_law_117 ?_
              refine Go_bipush dL_law_119 (by decide +kernel) ?_
              refine Go_icmp_ne (tgt := 128) dL_law_121 (by decide) (by constructor <;> omega) (by constructor <;> omega) (fun h121 => ?_) (fun h121 => ?_)
              · refine Go_ild7 dL_law_128 ?_
                refine Go_bipush dL_law_130 (by decide +kernel) ?_
                refine Go_icmp_ne (tgt := 140) dL_law_132 (by decide) (by constructor <;> omega) (by constructor <;> omega) (fun h132 => ?_) (fun h132 => ?_)
                · refine Go_ild7 dL_law_140 ?_
                  refine Go_bipush dL_law_142 (by decide +kernel) ?_
                  refine Go_icmp_ne (tgt := 152) dL_law_144 (by decide) (by constructor <;> omega) (by constructor <;> omega) (fun h144 => ?_) (fun h144 => ?_)
                  · refine Go_ild4 dL_law_152 ?_
                    refine Go_iconst dL_law_154 ?_
                    refine Go_irem dL_law_155 (by omega) (by omega) (by omega) (by omega) ?_
                    refine Go_if_ne (tgt := 164) dL_law_156 (by decide) (by constructor <;> omega) (fun h156 => ?_) (fun h156 => ?_)
                    · refine Go_iconst dL_law_164 ?_
                      first | exact Go_more (by omega) (by omega) (Go_forget (by repeat' (first | exact Or.inl rfl | exact Or.inr rfl | exact Or.inr (lcg (by omega)) | exact trivial | constructor)) (k165 x y hx hy 0 (by decide))) | exact Go_more (by omega) (by omega) (Go_forget (by repeat' (first | exact Or.inl rfl | exact Or.inr rfl | exact Or.inr (lcg (by omega)) | exact trivial | constructor)) (k165 x y hx hy 1 (by decide))) | exact Go_more (by omega) (by omega) (Go_forget (by repeat' (first | exact Or.inl rfl | exact Or.inr rfl | exact Or.inr (lcg (by omega)) | exact trivial | constructor)) (k165 x y hx hy 2 (by decide))) | exact Go_more (by omega) (by omega) (Go_forget (by repeat' (first | exact Or.inl rfl | exact Or.inr rfl | exact Or.inr (lcg (by omega)) | exact trivial | constructor)) (k165 x y hx hy 3 (by decide))) | exact Go_more (by omega) (by omega) (Go_forget (by repeat' (first | exact Or.inl rfl | exact Or.inr rfl | exact Or.inr (lcg (by omega)) | exact trivial | constructor)) (k165 x y hx hy 4 (by decide))) | exact Go_more (by omega) (by omega) (Go_forget (by repeat' (first | exact Or.inl rfl | exact Or.inr rfl | exact Or.inr (lcg (by omega)) | exact trivial | constructor)) (k165 x y hx hy 5 (by decide))) | exact Go_more (by omega) (by omega) (Go_forget (by repeat' (first | exact Or.inl rfl | exact Or.inr rfl | exact Or.inr (lcg (by omega)) | exact trivial | constructor)) (k165 x y hx hy 6 (by decide))) | exact Go_more (by omega) (by omega) (Go_forget (by repeat' (first | exact Or.inl rfl | exact Or.inr rfl | exact Or.inr (lcg (by omega)) | exact trivial | constructor)) (k165 x y hx hy 7 (by decide))) | exact Go_more (by omega) (by omega) (Go_forget (by repeat' (first | exact Or.inl rfl | exact Or.inr rfl | exact Or.inr (lcg (by omega)) | exact trivial | constructor)) (k165 x y hx hy 8 (by decide)))
                    · refine Go_bipush dL_law_159 (by decide +kernel) ?_
                      refine Go_goto (tgt := 165) dL_law_161 (by decide) ?_
                      first | exact Go_more (by omega) (by omega) (Go_forget (by repeat' (first | exact Or.inl rfl | exact Or.inr rfl | exact Or.inr (lcg (by omega)) | exact trivial | constructor)) (k165 x y hx hy 0 (by decide))) | exact Go_more (by omega) (by omega) (Go_forget (by repeat' (first | exact Or.inl rfl | exact Or.inr rfl | exact Or.inr (lcg (by omega)) | exact trivial | constructor)) (k165 x y hx hy 1 (by decide))) | exact Go_more (by omega) (by omega) (Go_forget (by repeat' (first | exact Or.inl rfl | exact Or.inr rfl | exact Or.inr (lcg (by omega)) | exact trivial | constructor)) (k165 x y hx hy 2 (by decide))) | exact Go_more (by omega) (by omega) (Go_forget (by repeat' (first | exact Or.inl rfl | exact Or.inr rfl | exact Or.inr (lcg (by omega)) | exact trivial | constructor)) (k165 x y hx hy 3 (by decide))) | exact Go_more (by omega) (by omega) (Go_forget (by repeat' (first | exact Or.inl rfl | exact Or.inr rfl | exact Or.inr (lcg (by omega)) | exact trivial | constructor)) (k165 x y hx hy 4 (by decide))) | exact Go_more (by omega) (by omega) (Go_forget (by repeat' (first | exact Or.inl rfl | exact Or.inr rfl | exact Or.inr (lcg (by omega)) | exact trivial | constructor)) (k165 x y hx hy 5 (by decide))) | exact Go_more (by omega) (by omega) (Go_forget (by repeat' (first | exact Or.inl rfl | exact Or.inr rfl | exact Or.inr (lcg (by omega)) | exact trivial | constructor)) (k165 x y hx hy 6 (by decide))) | exact Go_more (by omega) (by omega) (Go_forget (by repeat' (first | exact Or.inl rfl | exact Or.inr rfl | exact Or.inr (lcg (by omega)) | exact trivial | constructor)) (k165 x y hx hy 7 (by decide))) | exact Go_more (by omega) (by omega) (Go_forget (by repeat' (first | exact Or.inl rfl | exact Or.inr rfl | exact Or.inr (lcg (by omega)) | exact trivial | constructor)) (k165 x y hx hy 8 (by decide)))
                  · refine Go_bipush dL_law_147 (by decide +kernel) ?_
                    refine Go_goto (tgt := 165) dL_law_149 (by decide) ?_
                    first | exact Go_more (by omega) (by omega) (Go_forget (by repeat' (first | exact Or.inl rfl | exact Or.inr rfl | exact Or.inr (lcg (by omega)) | exact trivial | constructor)) (k165 x y hx hy 0 (by decide))) | exact Go_more (by omega) (by omega) (Go_forget (by repeat' (first | exact Or.inl rfl | exact Or.inr rfl | exact Or.inr (lcg (by omega)) | exact trivial | constructor)) (k165 x y hx hy 1 (by decide))) | exact Go_more (by omega) (by omega) (Go_forget (by repeat' (first | exact Or.inl rfl | exact Or.inr rfl | exact Or.inr (lcg (by omega)) | exact trivial | constructor)) (k165 x y hx hy 2 (by decide))) | exact Go_more (by omega) (by omega) (Go_forget (by repeat' (first | exact Or.inl rfl | exact Or.inr rfl | exact Or.inr (lcg (by omega)) | exact trivial | constructor)) (k165 x y hx hy 3 (by decide))) | exact Go_more (by omega) (by omega) (Go_forget (by repeat' (first | exact Or.inl rfl | exact Or.inr rfl | exact Or.inr (lcg (by omega)) | exact trivial | constructor)) (k165 x y hx hy 4 (by decide))) | exact Go_more (by omega) (by omega) (Go_forget (by repeat' (first | exact Or.inl rfl | exact Or.inr rfl | exact Or.inr (lcg (by omega)) | exact trivial | constructor)) (k165 x y hx hy 5 (by decide))) | exact Go_more (by omega) (by omega) (Go_forget (by repeat' (first | exact Or.inl rfl | exact Or.inr rfl | exact Or.inr (lcg (by omega)) | exact trivial | constructor)) (k165 x y hx hy 6 (by decide))) | exact Go_more (by omega) (by omega) (Go_forget (by repeat' (first | exact Or.inl rfl | exact Or.inr rfl | exact Or.inr (lcg (by omega)) | exact trivial | constructor)) (k165 x y hx hy 7 (by decide))) | exact Go_more (by omega) (by omega) (Go_forget (by repeat' (first | exact Or.inl rfl | exact Or.inr rfl | exact Or.inr (lcg (by omega)) | exact trivial | constructor)) (k165 x y hx hy 8 (by decide)))
                · refine Go_bipush dL_law_135 (by decide +kernel) ?_
                  refine Go_goto (tgt := 165) dL_law_137 (by decide) ?_
                  first | exact Go_more (by omega) (by omega) (Go_forget (by repeat' (first | exact Or.inl rfl | exact Or.inr rfl | exact Or.inr (lcg (by omega)) | exact trivial | constructor)) (k165 x y hx hy 0 (by decide))) | exact Go_more (by omega) (by omega) (Go_forget (by repeat' (first | exact Or.inl rfl | exact Or.inr rfl | exact Or.inr (lcg (by omega)) | exact trivial | constructor)) (k165 x y hx hy 1 (by decide))) | exact Go_more (by omega) (by omega) (Go_forget (by repeat' (first | exact Or.inl rfl | exact Or.inr rfl | exact Or.inr (lcg (by omega)) | exact trivial | constructor)) (k165 x y hx hy 2 (by decide))) | exact Go_more (by omega) (by omega) (Go_forget (by repeat' (first | exact Or.inl rfl | exact Or.inr rfl | exact Or.inr (lcg (by omega)) | exact trivial | constructor)) (k165 x y hx hy 3 (by decide))) | exact Go_more (by omega) (by omega) (Go_forget (by repeat' (first | exact Or.inl rfl | exact Or.inr rfl | exact Or.inr (lcg (by omega)) | exact trivial | constructor)) (k165 x y hx hy 4 (by decide))) | exact Go_more (by omega) (by omega) (Go_forget (by repeat' (first | exact Or.inl rfl | exact Or.inr rfl | exact Or.inr (lcg (by omega)) | exact trivial | constructor)) (k165 x y hx hy 5 (by decide))) | exact Go_more (by omega) (by omega) (Go_forget (by repeat' (first | exact Or.inl rfl | exact Or.inr rfl | exact Or.inr (lcg (by omega)) | exact trivial | constructor)) (k165 x y hx hy 6 (by decide))) | exact Go_more (by omega) (by omega) (Go_forget (by repeat' (first | exact Or.inl rfl | exact Or.inr rfl | exact Or.inr (lcg (by omega)) | exact trivial | constructor)) (k165 x y hx hy 7 (by decide))) | exact Go_more (by omega) (by omega) (Go_forget (by repeat' (first | exact Or.inl rfl | exact Or.inr rfl | exact Or.inr (lcg (by omega)) | exact trivial | constructor)) (k165 x y hx hy 8 (by decide)))
              · refine Go_iconst dL_law_124 ?_
                refine Go_goto (tgt := 165) dL_law_125 (by decide) ?_
                first | exact Go_more (by omega) (by omega) (Go_forget (by repeat' (first | exact Or.inl rfl | exact Or.inr rfl | exact Or.inr (lcg (by omega)) | exact trivial | constructor)) (k165 x y hx hy 0 (by decide))) | exact Go_more (by omega) (by omega) (Go_forget (by repeat' (first | exact Or.inl rfl | exact Or.inr rfl | exact Or.inr (lcg (by omega)) | exact trivial | constructor)) (k165 x y hx hy 1 (by decide))) | exact Go_more (by omega) (by omega) (Go_forget (by repeat' (first | exact Or.inl rfl | exact Or.inr rfl | exact Or.inr (lcg (by omega)) | exact trivial | constructor)) (k165 x y hx hy 2 (by decide))) | exact Go_more (by omega) (by omega) (Go_forget (by repeat' (first | exact Or.inl rfl | exact Or.inr rfl | exact Or.inr (lcg (by omega)) | exact trivial | constructor)) (k165 x y hx hy 3 (by decide))) | exact Go_more (by omega) (by omega) (Go_forget (by repeat' (first | exact Or.inl rfl | exact Or.inr rfl | exact Or.inr (lcg (by omega)) | exact trivial | constructor)) (k165 x y hx hy 4 (by decide))) | exact Go_more (by omega) (by omega) (Go_forget (by repeat' (first | exact Or.inl rfl | exact Or.inr rfl | exact Or.inr (lcg (by omega)) | exact trivial | constructor)) (k165 x y hx hy 5 (by decide))) | exact Go_more (by omega) (by omega) (Go_forget (by repeat' (first | exact Or.inl rfl | exact Or.inr rfl | exact Or.inr (lcg (by omega)) | exact trivial | constructor)) (k165 x y hx hy 6 (by decide))) | exact Go_more (by omega) (by omega) (Go_forget (by repeat' (first | exact Or.inl rfl | exact Or.inr rfl | exact Or.inr (lcg (by omega)) | exact trivial | constructor)) (k165 x y hx hy 7 (by decide))) | exact Go_more (by omega) (by omega) (Go_forget (by repeat' (first | exact Or.inl rfl | exact Or.inr rfl | exact Or.inr (lcg (by omega)) | exact trivial | constructor)) (k165 x y hx hy 8 (by decide)))
            · refine Go_iconst dL_law_113 ?_
              refine Go_goto (tgt := 165) dL_law_114 (by decide) ?_
              first | exact Go_more (by omega) (by omega) (Go_forget (by repeat' (first | exact Or.inl rfl | exact Or.inr rfl | exact Or.inr (lcg (by omega)) | exact trivial | constructor)) (k165 x y hx hy 0 (by decide))) | exact Go_more (by omega) (by omega) (Go_forget (by repeat' (first | exact Or.inl rfl | exact Or.inr rfl | exact Or.inr (lcg (by omega)) | exact trivial | constructor)) (k165 x y hx hy 1 (by decide))) | exact Go_more (by omega) (by omega) (Go_forget (by repeat' (first | exact Or.inl rfl | exact Or.inr rfl | exact Or.inr (lcg (by omega)) | exact trivial | constructor)) (k165 x y hx hy 2 (by decide))) | exact Go_more (by omega) (by omega) (Go_forget (by repeat' (first | exact Or.inl rfl | exact Or.inr rfl | exact Or.inr (lcg (by omega)) | exact trivial | constructor)) (k165 x y hx hy 3 (by decide))) | exact Go_more (by omega) (by omega) (Go_forget (by repeat' (first | exact Or.inl rfl | exact Or.inr rfl | exact Or.inr (lcg (by omega)) | exact trivial | constructor)) (k165 x y hx hy 4 (by decide))) | exact Go_more (by omega) (by omega) (Go_forget (by repeat' (first | exact Or.inl rfl | exact Or.inr rfl | exact Or.inr (lcg (by omega)) | exact trivial | constructor)) (k165 x y hx hy 5 (by decide))) | exact Go_more (by omega) (by omega) (Go_forget (by repeat' (first | exact Or.inl rfl | exact Or.inr rfl | exact Or.inr (lcg (by omega)) | exact trivial | constructor)) (k165 x y hx hy 6 (by decide))) | exact Go_more (by omega) (by omega) (Go_forget (by repeat' (first | exact Or.inl rfl | exact Or.inr rfl | exact Or.inr (lcg (by omega)) | exact trivial | constructor)) (k165 x y hx hy 7 (by decide))) | exact Go_more (by omega) (by omega) (Go_forget (by repeat' (first | exact Or.inl rfl | exact Or.inr rfl | exact Or.inr (lcg (by omega)) | exact trivial | constructor)) (k165 x y hx hy 8 (by decide)))
          · refine Go_iconst dL_law_102 ?_
            refine Go_goto (tgt := 165) dL_law_103 (by decide) ?_
            first | exact Go_more (by omega) (by omega) (Go_forget (by repeat' (first | exact Or.inl rfl | exact Or.inr rfl | exact Or.inr (lcg (by omega)) | exact trivial | constructor)) (k165 x y hx hy 0 (by decide))) | exact Go_more (by omega) (by omega) (Go_forget (by repeat' (first | exact Or.inl rfl | exact Or.inr rfl | exact Or.inr (lcg (by omega)) | exact trivial | constructor)) (k165 x y hx hy 1 (by decide))) | exact Go_more (by omega) (by omega) (Go_forget (by repeat' (first | exact Or.inl rfl | exact Or.inr rfl | exact Or.inr (lcg (by omega)) | exact trivial | constructor)) (k165 x y hx hy 2 (by decide))) | exact Go_more (by omega) (by omega) (Go_forget (by repeat' (first | exact Or.inl rfl | exact Or.inr rfl | exact Or.inr (lcg (by omega)) | exact trivial | constructor)) (k165 x y hx hy 3 (by decide))) | exact Go_more (by omega) (by omega) (Go_forget (by repeat' (first | exact Or.inl rfl | exact Or.inr rfl | exact Or.inr (lcg (by omega)) | exact trivial | constructor)) (k165 x y hx hy 4 (by decide))) | exact Go_more (by omega) (by omega) (Go_forget (by repeat' (first | exact Or.inl rfl | exact Or.inr rfl | exact Or.inr (lcg (by omega)) | exact trivial | constructor)) (k165 x y hx hy 5 (by decide))) | exact Go_more (by omega) (by omega) (Go_forget (by repeat' (first | exact Or.inl rfl | exact Or.inr rfl | exact Or.inr (lcg (by omega)) | exact trivial | constructor)) (k165 x y hx hy 6 (by decide))) | exact Go_more (by omega) (by omega) (Go_forget (by repeat' (first | exact Or.inl rfl | exact Or.inr rfl | exact Or.inr (lcg (by omega)) | exact trivial | constructor)) (k165 x y hx hy 7 (by decide))) | exact Go_more (by omega) (by omega) (Go_forget (by repeat' (first | exact Or.inl rfl | exact Or.inr rfl | exact Or.inr (lcg (by omega)) | exact trivial | constructor)) (k165 x y hx hy 8 (by decide)))
        · refine Go_iconst dL_law_91 ?_
          refine Go_goto (tgt := 165) dL_law_92 (by decide) ?_
          first | exact Go_more (by omega) (by omega) (Go_forget (by repeat' (first | exact Or.inl rfl | exact Or.inr rfl | exact Or.inr (lcg (by omega)) | exact trivial | constructor)) (k165 x y hx hy 0 (by decide))) | exact Go_more (by omega) (by omega) (Go_forget (by repeat' (first | exact Or.inl rfl | exact Or.inr rfl | exact Or.inr (lcg (by omega)) | exact trivial | constructor)) (k165 x y hx hy 1 (by decide))) | exact Go_more (by omega) (by omega) (Go_forget (by repeat' (first | exact Or.inl rfl | exact Or.inr rfl | exact Or.inr (lcg (by omega)) | exact trivial | constructor)) (k165 x y hx hy 2 (by decide))) | exact Go_more (by omega) (by omega) (Go_forget (by repeat' (first | exact Or.inl rfl | exact Or.inr rfl | exact Or.inr (lcg (by omega)) | exact trivial | constructor)) (k165 x y hx hy 3 (by decide))) | exact Go_more (by omega) (by omega) (Go_forget (by repeat' (first | exact Or.inl rfl | exact Or.inr rfl | exact Or.inr (lcg (by omega)) | exact trivial | constructor)) (k165 x y hx hy 4 (by decide))) | exact Go_more (by omega) (by omega) (Go_forget (by repeat' (first | exact Or.inl rfl | exact Or.inr rfl | exact Or.inr (lcg (by omega)) | exact trivial | constructor)) (k165 x y hx hy 5 (by decide))) | exact Go_more (by omega) (by omega) (Go_forget (by repeat' (first | exact Or.inl rfl | exact Or.inr rfl | exact Or.inr (lcg (by omega)) | exact trivial | constructor)) (k165 x y hx hy 6 (by decide))) | exact Go_more (by omega) (by omega) (Go_forget (by repeat' (first | exact Or.inl rfl | exact Or.inr rfl | exact Or.inr (lcg (by omega)) | exact trivial | constructor)) (k165 x y hx hy 7 (by decide))) | exact Go_more (by omega) (by omega) (Go_forget (by repeat' (first | exact Or.inl rfl | exact Or.inr rfl | exact Or.inr (lcg (by omega)) | exact trivial | constructor)) (k165 x y hx hy 8 (by decide)))
      · refine Go_iconst dL_law_80 ?_
        refine Go_goto (tgt := 165) dL_law_81 (by decide) ?_
        first | exact Go_more (by omega) (by omega) (Go_forget (by repeat' (first | exact Or.inl rfl | exact Or.inr rfl | exact Or.inr (lcg (by omega)) | exact trivial | constructor)) (k165 x y hx hy 0 (by decide))) | exact Go_more (by omega) (by omega) (Go_forget (by repeat' (first | exact Or.inl rfl | exact Or.inr rfl | exact Or.inr (lcg (by omega)) | exact trivial | constructor)) (k165 x y hx hy 1 (by decide))) | exact Go_more (by omega) (by omega) (Go_forget (by repeat' (first | exact Or.inl rfl | exact Or.inr rfl | exact Or.inr (lcg (by omega)) | exact trivial | constructor)) (k165 x y hx hy 2 (by decide))) | exact Go_more (by omega) (by omega) (Go_forget (by repeat' (first | exact Or.inl rfl | exact Or.inr rfl | exact Or.inr (lcg (by omega)) | exact trivial | constructor)) (k165 x y hx hy 3 (by decide))) | exact Go_more (by omega) (by omega) (Go_forget (by repeat' (first | exact Or.inl rfl | exact Or.inr rfl | exact Or.inr (lcg (by omega)) | exact trivial | constructor)) (k165 x y hx hy 4 (by decide))) | exact Go_more (by omega) (by omega) (Go_forget (by repeat' (first | exact Or.inl rfl | exact Or.inr rfl | exact Or.inr (lcg (by omega)) | exact trivial | constructor)) (k165 x y hx hy 5 (by decide))) | exact Go_more (by omega) (by omega) (Go_forget (by repeat' (first | exact Or.inl rfl | exact Or.inr rfl | exact Or.inr (lcg (by omega)) | exact trivial | constructor)) (k165 x y hx hy 6 (by decide))) | exact Go_more (by omega) (by omega) (Go_forget (by repeat' (first | exact Or.inl rfl | exact Or.inr rfl | exact Or.inr (lcg (by omega)) | exact trivial | constructor)) (k165 x y hx hy 7 (by decide))) | exact Go_more (by omega) (by omega) (Go_forget (by repeat' (first | exact Or.inl rfl | exact Or.inr rfl | exact Or.inr (lcg (by omega)) | exact trivial | constructor)) (k165 x y hx hy 8 (by decide)))
    · refine Go_iconst dL_law_69 ?_
      refine Go_goto (tgt := 165) dL_law_70 (by decide) ?_
      first | exact Go_more (by omega) (by omega) (Go_forget (by repeat' (first | exact Or.inl rfl | exact Or.inr rfl | exact Or.inr (lcg (by omega)) | exact trivial | constructor)) (k165 x y hx hy 0 (by decide))) | exact Go_more (by omega) (by omega) (Go_forget (by repeat' (first | exact Or.inl rfl | exact Or.inr rfl | exact Or.inr (lcg (by omega)) | exact trivial | constructor)) (k165 x y hx hy 1 (by decide))) | exact Go_more (by omega) (by omega) (Go_forget (by repeat' (first | exact Or.inl rfl | exact Or.inr rfl | exact Or.inr (lcg (by omega)) | exact trivial | constructor)) (k165 x y hx hy 2 (by decide))) | exact Go_more (by omega) (by omega) (Go_forget (by repeat' (first | exact Or.inl rfl | exact Or.inr rfl | exact Or.inr (lcg (by omega)) | exact trivial | constructor)) (k165 x y hx hy 3 (by decide))) | exact Go_more (by omega) (by omega) (Go_forget (by repeat' (first | exact Or.inl rfl | exact Or.inr rfl | exact Or.inr (lcg (by omega)) | exact trivial | constructor)) (k165 x y hx hy 4 (by decide))) | exact Go_more (by omega) (by omega) (Go_forget (by repeat' (first | exact Or.inl rfl | exact Or.inr rfl | exact Or.inr (lcg (by omega)) | exact trivial | constructor)) (k165 x y hx hy 5 (by decide))) | exact Go_more (by omega) (by omega) (Go_forget (by repeat' (first | exact Or.inl rfl | exact Or.inr rfl | exact Or.inr (lcg (by omega)) | exact trivial | constructor)) (k165 x y hx hy 6 (by decide))) | exact Go_more (by omega) (by omega) (Go_forget (by repeat' (first | exact Or.inl rfl | exact Or.inr rfl | exact Or.inr (lcg (by omega)) | exact trivial | constructor)) (k165 x y hx hy 7 (by decide))) | exact Go_more (by omega) (by omega) (Go_forget (by repeat' (first | exact Or.inl rfl | exact Or.inr rfl | exact Or.inr (lcg (by omega)) | exact trivial | constructor)) (k165 x y hx hy 8 (by decide)))
theorem l_law_loop (hL : GL G ≤ 260) (kr : ∀ w', K (vi 1) none w') : ∀ (m t : Nat), t + m = 44 → ∀ (w : Wd) (s : Sta) (sv : List Sta) (g : Nat → Option Sta) (tx : List Nat), CI w s sv g tx → RS w s → tot s.1 ≤ t → Go G cL_law (mL_law tb) none 11 (1400 * m) (8400 * m) 21 [some (vr 1000), some (vr 1), some (vr 68), some (vr 69), some (vi (t : Int)), none, none, none, none, none, none, none, none, none] [] w K X := by
  intro m
  induction m with
  | zero =>
    intro t htm w s sv g tx h hr htot
    refine Go_ild4 dL_law_21 ?_
    refine Go_bipush dL_law_23 (by decide +kernel) ?_
    refine Go_icmp_ge (tgt := 454) dL_law_25 (by decide) (by constructor <;> omega) (by constructor <;> omega) (fun h25 => ?_) (fun h25 => by omega)
    refine Go_iconst dL_law_454 ?_
    refine Go_ireturn dL_law_455 rfl (by first | rfl | decide | exact nar_b | simp [narrow]) ?_
    exact kr _
  | succ m ih =>
    intro t htm w s sv g tx h hr htot
    have e1 : 1400 * (m + 1) = 1400 * m + 1400 := by omega
    have e2 : 8400 * (m + 1) = 8400 * m + 8400 := by omega
    rw [e1, e2]
    exact l_law_turn (by omega) hL h hr htot (fun v s' sv' g' tx' h1 h2 h3 => ih (t + 1) (by omega) v s' sv' g' tx' h1 h2 h3)
theorem l_law_all (hL : GL G ≤ 260) (kr : ∀ w', K (vi 1) none w') : Go G cL_law (mL_law tb) (some 1) 11 100000 1000000 0 [some (vr 1000), none, none, none, none, none, none, none, none, none, none, none, none, none] [] w00 K X := by
  refine Go_new (n := 1) (m := 2) (ci := 10) (T := TX11) dL_law_0 clL_11 itX11 gi_RX11 rfl tyX11 tyX11_ok lys10 df10 rfl rfl (fun _ => rfl) (Nat.le_of_ble_eq_true rfl) (Nat.le_of_ble_eq_true rfl) ?_
  refine Go_dup dL_law_3 ?_
  refine Go_callI (d' := 3) (bc' := 66) (bs' := 2617) rfl dL_law_4 miX11_init rfl lkL_170 (Nat.le_of_ble_eq_true rfl) (by decide) (Nat.le_of_ble_eq_true rfl) (Nat.le_of_ble_eq_true rfl) ?_
  refine e_X11_init (fun w1 g1 => ?_)
  have hz1 : ∀ a k, 68 ≤ a → w1 a k = 0 := fun a k ha => g1.zero a (List.all_eq_true.mpr (fun q hq => by rw [decide_eq_true_eq]; have := lst1 q hq; omega)) (fun _ => by omega) k
  refine Go_ast1 dL_law_7 rfl ?_
  refine Go_bipush dL_law_8 (by decide +kernel) ?_
  refine Go_newI (n := 68) (m := 69) (N := 9) dL_law_10 rfl rfl (by decide) (fun k => hz1 _ _ (by decide)) (Nat.le_of_ble_eq_true rfl) (Nat.le_of_ble_eq_true rfl) ?_
  refine Go_ast2 dL_law_12 rfl ?_
  refine Go_bipush dL_law_13 (by decide +kernel) ?_
  refine Go_newI (n := 69) (m := 70) (N := 60) dL_law_15 rfl rfl (by decide) (fun k => hz1 _ _ (by decide)) (Nat.le_of_ble_eq_true rfl) (Nat.le_of_ble_eq_true rfl) ?_
  refine Go_ast3 dL_law_17 rfl ?_
  refine Go_iconst dL_law_18 ?_
  refine Go_ist4 dL_law_19 rfl ?_
  refine Go_all g1.allR ?_
  exact Go_more (bc' := 1400 * 44) (bs' := 8400 * 44) (Nat.le_of_ble_eq_true rfl) (Nat.le_of_ble_eq_true rfl) (l_law_loop hL kr 44 0 rfl _ _ _ _ _ g1.CI g1.RS (Nat.le_refl 0))
end Loop
