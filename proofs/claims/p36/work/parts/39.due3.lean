theorem RP_setL {w w' : Wd} {ps : List (List Nat)} {p : Nat} {l : List Nat} (h : RP w ps) (hp : p < ps.length) (ha : PA w') (hc : w' 68 5 = w 68 5) (ho : ∀ q, q < ps.length → q ≠ p → w' 68 q = w 68 q ∧ ∀ k, k < 48 → PK w' q k = PK w q k) (hn : w' 68 p = (l.length : Int)) (hl : l.length ≤ 48) (hk : ∀ k, k < l.length → PK w' p k = l.getD k 0) : RP w' (ps.set p l) := by
  refine ⟨ha, by rw [hc, List.length_set]; exact h.2.1, fun q hq => ?_⟩
  rw [List.length_set] at hq
  rw [pth_set hp]
  by_cases c : q = p
  · subst c
    rw [if_pos rfl]
    exact ⟨hn, hl, hk⟩
  · rw [if_neg c]
    have a := h.2.2 q hq
    have b := ho q hq c
    exact ⟨by rw [b.1]; exact a.1, a.2.1, fun k hk => by rw [b.2 k (by omega)]; exact a.2.2 k hk⟩
section Due3
variable {G : Gm} {w : Wd} {K : Kt} {X : Xt} {s : Sta}
theorem l_due_split {a kd b c : Nat} (h : RS w s) (ho : OKp s.1) (ha : a < s.1.length) (hb : b < 60)
    (k1 : b + 1 < (pth s.1 a).length → s.1.length < 5 → ∀ w', RS w' (s.1.set a ((pth s.1 a).take (b + 1)) ++ [(pth s.1 a).drop (b + 1)], s.2.1, s.2.2.1, s.2.2.2) → frm w w' [68, 69] → K (vi s.1.length) none w')
    (x1 : ¬ b + 1 < (pth s.1 a).length → K (vi (-101)) none w) (x2 : b + 1 < (pth s.1 a).length → s.1.length = 5 → K (vi (-103)) none w) : Go G cL_due mL_due none 4 0 0 314 [some (vi (kd : Int)), some (vi (a : Int)), some (vi (b : Int)), some (vi (c : Int)), some (vr 68), some (vr 69), none, none] [] w K X := by
  have h5 := ho.1
  have hA := h.1.2.2 a ha
  have hla := ho.len ha
  have hlen : w 68 (Int.toNat (a : Int)) = ((pth s.1 a).length : Int) := hA.1
  have hN : w 68 5 = (s.1.length : Int) := h.1.2.1
  by_cases c1 : b + 1 < (pth s.1 a).length
  · by_cases c2 : s.1.length = 5
    · skip
      refine Go_ild2 dL_due_314 ?_
      refine Go_ald4 dL_due_315 ?_
      refine Go_ild1 dL_due_317 ?_
      refine Go_iald dL_due_318 (by first | assumption | rfl) trivial (by omega) (by omega) (by decide) ?_
      rw [hlen]
      refine Go_iconst dL_due_319 ?_
      refine Go_isub dL_due_320 ?_
      refine Go_icmp_lt (tgt := 327) dL_due_321 (by decide) (by constructor <;> omega) (by constructor <;> omega) (fun h321 => ?_) (fun h321 => by omega)
      refine Go_ald4 dL_due_327 ?_
      refine Go_iconst dL_due_329 ?_
      refine Go_iald dL_due_330 (by first | assumption | rfl) trivial (by omega) (by omega) (by decide) ?_
      rw [show (5 : Int).toNat = 5 from rfl, hN]
      refine Go_iconst dL_due_331 ?_
      refine Go_icmp_ne (tgt := 338) dL_due_332 (by decide) (by constructor <;> omega) (by constructor <;> omega) (fun h332 => by omega) (fun h332 => ?_)
      refine Go_bipush dL_due_335 (by decide +kernel) ?_
      refine Go_ireturn dL_due_337 rfl (by first | rfl | decide | exact nar_b | simp [narrow]) ?_
      exact x2 c1 c2
    · have k1 := k1 c1 (by omega)
      refine Go_ild2 dL_due_314 ?_
      refine Go_ald4 dL_due_315 ?_
      refine Go_ild1 dL_due_317 ?_
      refine Go_iald dL_due_318 (by first | assumption | rfl) trivial (by omega) (by omega) (by decide) ?_
      rw [hlen]
      refine Go_iconst dL_due_319 ?_
      refine Go_isub dL_due_320 ?_
      refine Go_icmp_lt (tgt := 327) dL_due_321 (by decide) (by constructor <;> omega) (by constructor <;> omega) (fun h321 => ?_) (fun h321 => by omega)
      refine Go_ald4 dL_due_327 ?_
      refine Go_iconst dL_due_329 ?_
      refine Go_iald dL_due_330 (by first | assumption | rfl) trivial (by omega) (by omega) (by decide) ?_
      rw [show (5 : Int).toNat = 5 from rfl, hN]
      refine Go_iconst dL_due_331 ?_
      refine Go_icmp_ne (tgt := 338) dL_due_332 (by decide) (by constructor <;> omega) (by constructor <;> omega) (fun h332 => ?_) (fun h332 => by omega)
      refine Go_ild2 dL_due_338 ?_
      refine Go_iconst dL_due_339 ?_
      refine Go_iadd dL_due_340 ?_
      refine Go_ist6 dL_due_341 rfl ?_
      refine Go_upTo (n := (pth s.1 a).length - (b + 1)) (L := fun i => [some (vi (kd : Int)), some (vi (a : Int)), some (vi (b : Int)), some (vi (c : Int)), some (vr 68), some (vr 69), some (vi ((b : Int) + 1 + i)), none]) (P := fun i v => PA v ∧ frm w v [69] ∧ ∀ r m, r < 5 → m < 48 → PK v r m = if r = s.1.length ∧ m < i then PK w a (b + 1 + m) else PK w r m) (by repeat' (first | exact Or.inl rfl | exact Or.inr rfl | exact Or.inr (lcg (by omega)) | exact trivial | constructor)) (⟨h.1.1, frm.rfl, fun r m _ _ => by rw [if_neg (by omega)]⟩) (fun i v hi hP kn => ?_) (fun v hP => ?_)
      · try dsimp only at hP kn
        try dsimp only
        obtain ⟨pa, fr, hk⟩ := hP
        have e1 : PK v a (b + 1 + i) = PK w a (b + 1 + i) := by rw [hk a _ (by omega) (by omega), if_neg (by omega)]
        refine Go_ild6 dL_due_343 ?_
        refine Go_ald4 dL_due_345 ?_
        refine Go_ild1 dL_due_347 ?_
        refine Go_iald dL_due_348 (by first | assumption | rfl) trivial (by omega) (by omega) (by decide) ?_
        rw [fr.at (by simp), hlen]
        refine Go_icmp_ge (tgt := 381) dL_due_349 (by decide) (by constructor <;> omega) (by constructor <;> omega) (fun h349 => by omega) (fun h349 => ?_)
        refine Go_ald4 dL_due_352 ?_
        refine Go_iconst dL_due_354 ?_
        refine Go_iald dL_due_355 (by first | assumption | rfl) trivial (by omega) (by omega) (by decide) ?_
        rw [show (5 : Int).toNat = 5 from rfl, fr.at (by simp), hN]
        refine Go_ild6 dL_due_356 ?_
        refine Go_ild2 dL_due_358 ?_
        refine Go_isub dL_due_359 ?_
        refine Go_iconst dL_due_360 ?_
        refine Go_isub dL_due_361 ?_
        rw [show (b : Int) + 1 + (i : Int) - b - 1 = (i : Int) by omega]
        refine Go_ild1 dL_due_362 ?_
        refine Go_ild6 dL_due_363 ?_
        refine Go_ald5 dL_due_365 ?_
        rw [show (b : Int) + 1 + (i : Int) = ((b + 1 + i : Nat) : Int) by omega]
        refine Go_cS3 (d' := 0) (bc' := 0) (bs' := 0) rfl dL_due_367 msL_at rfl lkL_70 (by decide) (by omega) (by omega) (Nat.le_of_ble_eq_true rfl) ?_
        refine e_L_at pa (by omega) (by omega) ?_
        rw [e1]
        refine Go_ald5 dL_due_370 ?_
        refine Go_cSv4 (d' := 0) (bc' := 0) (bs' := 0) rfl dL_due_372 msL_puts rfl lkL_121 (by decide) (by omega) (by omega) (Nat.le_of_ble_eq_true rfl) ?_
        refine e_L_puts pa (by omega) (by omega) (PK_lt _ _ _) (fun w1 a1 f1 g1 => ?_)
        refine Go_inc6 dL_due_375 rfl ?_
        refine Go_goto (tgt := 343) dL_due_378 (by decide) ?_
        refine Go_forget (ls' := _) ?_ (kn _ ⟨a1, fr.trans f1 (by simp), fun r m hr hm => ?_⟩)
        · rw [show (b : Int) + 1 + ((i + 1 : Nat) : Int) = ((b + 1 + i : Nat) : Int) + 1 by omega]
          exact (by repeat' (first | exact Or.inl rfl | exact Or.inr rfl | exact Or.inr (lcg (by omega)) | exact trivial | constructor))
        · rw [g1 r m hr hm, hk r m hr hm]
          by_cases c3 : r = s.1.length ∧ m = i
          · rw [if_pos c3, if_pos (by omega), c3.2]
          · rw [if_neg c3]
            by_cases c4 : r = s.1.length ∧ m < i
            · rw [if_pos c4, if_pos (by omega)]
            · rw [if_neg c4, if_neg (by omega)]
      · try dsimp only at hP
        try dsimp only
        obtain ⟨pa, fr, hk⟩ := hP
        have lt1 : ((pth s.1 a).take (b + 1)).length = b + 1 := by rw [List.length_take]; omega
        have ld1 : ((pth s.1 a).drop (b + 1)).length = (pth s.1 a).length - (b + 1) := List.length_drop
        have pk68 : ∀ (u : Wd) (j : Nat) (z : Int) (r m : Nat), PK (up u 68 j z) r m = PK u r m := fun u j z r m => PK.frm (A := [68]) (frm.rfl.up (by simp)) (by simp) r m
        have pa68 : ∀ (u : Wd) (j : Nat) (z : Int), PA u → PA (up u 68 j z) := fun u j z hu => hu.frm (A := [68]) (frm.rfl.up (by simp)) (by simp)
        have rS : RP (up v 68 a ((b : Int) + 1)) (s.1.set a ((pth s.1 a).take (b + 1))) := by
          refine RP_setL h.1 ha (pa68 _ _ _ pa) (by rw [up_k (by omega), fr.at (by simp)]) (fun r hr hra => ⟨by rw [up_k hra, fr.at (by simp)], fun m hm => ?_⟩) (by rw [up_s, lt1]; rfl) (by omega) (fun m hm => ?_)
          · rw [pk68, hk r m (by omega) hm, if_neg (by omega)]
          · rw [lt1] at hm
            rw [pk68, hk a m (by omega) (by omega), if_neg (by omega), gD_take (by omega)]
            exact hA.2.2 m (by omega)
        refine Go_ild6 dL_due_343 ?_
        refine Go_ald4 dL_due_345 ?_
        refine Go_ild1 dL_due_347 ?_
        refine Go_iald dL_due_348 (by first | assumption | rfl) trivial (by omega) (by omega) (by decide) ?_
        rw [fr.at (by simp), hlen]
        refine Go_icmp_ge (tgt := 381) dL_due_349 (by decide) (by constructor <;> omega) (by constructor <;> omega) (fun h349 => ?_) (fun h349 => by omega)
        refine Go_ald4 dL_due_381 ?_
        refine Go_ald4 dL_due_383 ?_
        refine Go_iconst dL_due_385 ?_
        refine Go_iald dL_due_386 (by first | assumption | rfl) trivial (by omega) (by omega) (by decide) ?_
        rw [show (5 : Int).toNat = 5 from rfl, fr.at (by simp), hN]
        refine Go_ald4 dL_due_387 ?_
        refine Go_ild1 dL_due_389 ?_
        refine Go_iald dL_due_390 (by first | assumption | rfl) trivial (by omega) (by omega) (by decide) ?_
        rw [fr.at (by simp), hlen]
        refine Go_ild2 dL_due_391 ?_
        refine Go_isub dL_due_392 ?_
        refine Go_iconst dL_due_393 ?_
        refine Go_isub dL_due_394 ?_
        refine Go_iast dL_due_395 (by first | assumption | rfl) trivial (by omega) (by omega) (by decide) ?_
        rw [Int.toNat_natCast]
        refine Go_ald4 dL_due_396 ?_
        refine Go_ild1 dL_due_398 ?_
        refine Go_ild2 dL_due_399 ?_
        refine Go_iconst dL_due_400 ?_
        refine Go_iadd dL_due_401 ?_
        refine Go_iast dL_due_402 (by first | assumption | rfl) trivial (by omega) (by omega) (by decide) ?_
        rw [Int.toNat_natCast]
        refine Go_ald4 dL_due_403 ?_
        refine Go_iconst dL_due_405 ?_
        refine Go_dup2 dL_due_406 ?_
        refine Go_iald dL_due_407 (by first | assumption | rfl) trivial (by omega) (by omega) (by decide) ?_
        rw [show (5 : Int).toNat = 5 from rfl, up_k (by omega), up_k (by omega), fr.at (by simp), hN]
        refine Go_iconst dL_due_408 ?_
        refine Go_iadd dL_due_409 ?_
        refine Go_iast dL_due_410 (by first | assumption | rfl) trivial (by omega) (by omega) (by decide) ?_
        rw [show (5 : Int).toNat = 5 from rfl]
        refine Go_ald4 dL_due_411 ?_
        refine Go_iconst dL_due_413 ?_
        refine Go_iald dL_due_414 (by first | assumption | rfl) trivial (by omega) (by omega) (by decide) ?_
        rw [show (5 : Int).toNat = 5 from rfl, up_s]
        refine Go_iconst dL_due_415 ?_
        refine Go_isub dL_due_416 ?_
        refine Go_ireturn dL_due_417 rfl (by first | rfl | decide | exact nar_b | simp [narrow]) ?_
        have fA : frm w (up (up (up v 68 s.1.length (((pth s.1 a).length : Int) - b - 1)) 68 a ((b : Int) + 1)) 68 5 ((s.1.length : Int) + 1)) [68, 69] := (((fr.mono (by simp)).up (by simp)).up (by simp)).up (by simp)
        refine kI ?_ (k1 _ ⟨?_, ?_, ?_, ?_⟩ fA)
        · omega
        · refine RP_app rS (by rw [List.length_set]; omega) (pa68 _ _ _ (pa68 _ _ _ (pa68 _ _ _ pa))) (by rw [up_s, up_k (by omega), fr.at (by simp), hN]) (fun q hq => ⟨?_, fun m hm => by rw [pk68, pk68, pk68, pk68]⟩) (by rw [List.length_set, up_k (by omega), up_k (by omega), up_s, ld1]; omega) (by omega) (fun m hm => ?_)
          · rw [List.length_set] at hq
            rw [up_k (by omega)]
            by_cases c : q = a
            · rw [c, up_s, up_s]
            · rw [up_k c, up_k c, up_k (by omega)]
          · rw [ld1] at hm
            rw [List.length_set, pk68, pk68, pk68, hk _ m (by omega) (by omega), if_pos ⟨rfl, hm⟩, drop_getD]
            exact hA.2.2 _ (by omega)
        · rw [up_k (by decide), up_k (by omega), up_k (by omega), fr.at (by simp)]; exact h.2.1
        · rw [up_k (by decide), up_k (by omega), up_k (by omega), fr.at (by simp)]; exact h.2.2.1
        · rw [up_k (by decide), up_k (by omega), up_k (by omega), fr.at (by simp)]; exact h.2.2.2
  · skip
    refine Go_ild2 dL_due_314 ?_
    refine Go_ald4 dL_due_315 ?_
    refine Go_ild1 dL_due_317 ?_
    refine Go_iald dL_due_318 (by first | assumption | rfl) trivial (by omega) (by omega) (by decide) ?_
    rw [hlen]
    refine Go_iconst dL_due_319 ?_
    refine Go_isub dL_due_320 ?_
    refine Go_icmp_lt (tgt := 327) dL_due_321 (by decide) (by constructor <;> omega) (by constructor <;> omega) (fun h321 => by omega) (fun h321 => ?_)
    refine Go_bipush dL_due_324 (by decide +kernel) ?_
    refine Go_ireturn dL_due_326 rfl (by first | rfl | decide | exact nar_b | simp [narrow]) ?_
    exact x1 c1
end Due3
