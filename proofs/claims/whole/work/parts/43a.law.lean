section Law
variable {G : Gm} {tb : List (Nat × Nat × Nat × Nat)} {w : Wd} {K : Kt} {X : Xt} {s : Sta} {sv : List Sta} {g : Nat → Option Sta} {tx : List Nat} {i bn sn : Nat}
theorem l_law_start (hi : i + 4 ≤ GL G) (hL : GL G < 2147483648) (h : CI w s sv g tx) (hm : MInv w s sv g tx) (kn : ∀ v s sv g tx, CI v s sv g tx → MInv v s sv g tx → Go G cL_law (mL_law tb) none 18 bn sn 2106 [some (vr 1000), some (vr 1), some (vr 68), some (vr 84), some (vr 85), some (vi (i : Int)), none, none, none, none] [] v K X) : Go G cL_law (mL_law tb) none 18 (bn + 8) (sn + 48) 192 [some (vr 1000), some (vr 1), some (vr 68), some (vr 84), some (vr 85), some (vi (i : Int)), none, none, none, none] [] w K X := by
  have q_k : ∀ w' (x : Nat), numI (sx G (i + 1)) (sx G (i + 2)) = x → ow s.1 x = -1 → s.1.length < 5 → CI w' ((s.1 ++ [[x]], s.2.1, s.2.2.1, s.2.2.2)) (pushS sv s) g tx → frm w w' ccs → Go G cL_law (mL_law tb) none 18 (bn + 8 - 2) (sn + 48 - 12) 209 [some (vr 1000), some (vr 1), some (vr 68), some (vr 84), some (vr 85), some (vi (i : Int)), none, none, none, none] [vi 0] (up w' 84 0 (nz s.1.length)) K X := fun w1 x a1 a2 a3 c1 fr1 => by
    have hm1 : MInv (up w1 84 0 (nz s.1.length)) s sv g tx := (hm.out fr1 (by decide +kernel)).out (A := [84]) (frm.rfl.up (by simp)) (by decide)
    have c2 : CI (up w1 84 0 (nz s.1.length)) _ _ _ _ := c1.frm (A := [84]) (frm.rfl.up (by simp)) (by decide)
    refine Go_ist6 dL_law_209 rfl ?_
    refine Go_ald2 dL_law_211 ?_
    refine Go_ald0 dL_law_212 ?_
    refine Go_ild5 dL_law_213 ?_
    refine Go_iconst dL_law_215 ?_
    refine Go_iadd dL_law_216 ?_
    refine Go_xld (j := i + 1) dL_law_217 (by omega) (by omega) hL ?_
    refine Go_ald0 dL_law_218 ?_
    refine Go_ild5 dL_law_219 ?_
    refine Go_iconst dL_law_221 ?_
    refine Go_iadd dL_law_222 ?_
    refine Go_xld (j := i + 2) dL_law_223 (by omega) (by omega) hL ?_
    refine Go_cV2 (d' := 2) (bc' := 0) (bs' := 0) rfl dL_law_224 mvX12_start rfl lkL_117 (by first | assumption | rfl) rfl trivial (by decide) (by omega) (by omega) (Nat.le_of_ble_eq_true rfl) ?_
    refine e_X12_start hm1 (sx_in G _) (sx_in G _) (fun w2 x_2 b1 b2 b3 mx => ?_) (fun w2 b1 mx => by (exfalso; first | omega | (first | omega))) (fun w2 x_2 b1 b2 mx => by (exfalso; first | omega | (have e_x_2 : x_2 = x := (by omega); subst e_x_2; first | omega | exact b2 ⟨a1, a2⟩ | exact b2 ⟨a2, a3⟩)))
    have e_x_2 : x_2 = x := (by omega)
    subst e_x_2
    refine Go_ist7 dL_law_227 rfl ?_
    refine Go_ald2 dL_law_229 ?_
    refine Go_cV0 (d' := 0) (bc' := 0) (bs' := 0) rfl dL_law_230 mvX12_thrown rfl lkL_118 (by first | assumption | rfl) rfl trivial (by decide) (by omega) (by omega) (Nat.le_of_ble_eq_true rfl) ?_
    refine e_X12_thrown ?_
    rw [mx.2.1]
    refine Go_ild6 dL_law_233 ?_
    refine Go_icmp_eq (tgt := 240) dL_law_235 (by decide) (by constructor <;> omega) (by constructor <;> omega) (fun h235 => ?_) (fun h235 => by omega)
    refine Go_ild6 dL_law_240 ?_
    refine Go_if_ne (tgt := 257) dL_law_242 (by decide) (by constructor <;> omega) (fun h242 => by omega) (fun h242 => ?_)
    refine Go_ald3 dL_law_245 ?_
    refine Go_iconst dL_law_246 ?_
    refine Go_lald dL_law_247 (by first | assumption | rfl) trivial (by omega) (by omega) (by decide) ?_
    rw [show (0 : Int).toNat = 0 from rfl, mx.2.2.at (by decide), up_s]
    refine Go_ild7 dL_law_248 ?_
    refine Go_i2lN dL_law_250 ?_
    refine Go_lcmp_same dL_law_251 ?_
    refine Go_if_eq (tgt := 257) dL_law_252 (by decide) (by constructor <;> omega) (fun h252 => ?_) (fun h252 => by omega)
    refine Go_goto (tgt := 2106) dL_law_257 (by decide) ?_
    exact Go_more (by omega) (by omega) (Go_forget (by repeat' (first | exact Or.inl rfl | exact Or.inr rfl | exact Or.inr (lcg (by omega)) | exact trivial | constructor)) (kn w2 _ _ _ _ (c2.frm mx.2.2 (by decide +kernel)) mx.1))
  have q_x1 : numI (sx G (i + 1)) (sx G (i + 2)) = -1 → Go G cL_law (mL_law tb) none 18 (bn + 8 - 2) (sn + 48 - 12) 209 [some (vr 1000), some (vr 1), some (vr 68), some (vr 84), some (vr 85), some (vi (i : Int)), none, none, none, none] [vi 1] (w) K X := fun a1 => by
    have c1 := h
    have hm1 := hm
    have c2 := c1
    refine Go_ist6 dL_law_209 rfl ?_
    refine Go_ald2 dL_law_211 ?_
    refine Go_ald0 dL_law_212 ?_
    refine Go_ild5 dL_law_213 ?_
    refine Go_iconst dL_law_215 ?_
    refine Go_iadd dL_law_216 ?_
    refine Go_xld (j := i + 1) dL_law_217 (by omega) (by omega) hL ?_
    refine Go_ald0 dL_law_218 ?_
    refine Go_ild5 dL_law_219 ?_
    refine Go_iconst dL_law_221 ?_
    refine Go_iadd dL_law_222 ?_
    refine Go_xld (j := i + 2) dL_law_223 (by omega) (by omega) hL ?_
    refine Go_cV2 (d' := 2) (bc' := 0) (bs' := 0) rfl dL_law_224 mvX12_start rfl lkL_117 (by first | assumption | rfl) rfl trivial (by decide) (by omega) (by omega) (Nat.le_of_ble_eq_true rfl) ?_
    refine e_X12_start hm1 (sx_in G _) (sx_in G _) (fun w2 x_2 b1 b2 b3 mx => by (exfalso; first | omega | (first | omega))) (fun w2 b1 mx => ?_) (fun w2 x_2 b1 b2 mx => by (exfalso; first | omega | (first | omega)))
    refine Go_ist7 dL_law_227 rfl ?_
    refine Go_ald2 dL_law_229 ?_
    refine Go_cV0 (d' := 0) (bc' := 0) (bs' := 0) rfl dL_law_230 mvX12_thrown rfl lkL_118 (by first | assumption | rfl) rfl trivial (by decide) (by omega) (by omega) (Nat.le_of_ble_eq_true rfl) ?_
    refine e_X12_thrown ?_
    rw [mx.2.1]
    refine Go_ild6 dL_law_233 ?_
    refine Go_icmp_eq (tgt := 240) dL_law_235 (by decide) (by constructor <;> omega) (by constructor <;> omega) (fun h235 => ?_) (fun h235 => by omega)
    refine Go_ild6 dL_law_240 ?_
    refine Go_if_ne (tgt := 257) dL_law_242 (by decide) (by constructor <;> omega) (fun h242 => ?_) (fun h242 => by omega)
    refine Go_goto (tgt := 2106) dL_law_257 (by decide) ?_
    exact Go_more (by omega) (by omega) (Go_forget (by repeat' (first | exact Or.inl rfl | exact Or.inr rfl | exact Or.inr (lcg (by omega)) | exact trivial | constructor)) (kn w2 _ _ _ _ (c2.frm mx.2.2 (by decide +kernel)) mx.1))
  have q_x2 : ∀ x : Nat, numI (sx G (i + 1)) (sx G (i + 2)) = x → ¬ (ow s.1 x = -1 ∧ s.1.length < 5) → Go G cL_law (mL_law tb) none 18 (bn + 8 - 2) (sn + 48 - 12) 209 [some (vr 1000), some (vr 1), some (vr 68), some (vr 84), some (vr 85), some (vi (i : Int)), none, none, none, none] [vi 2] (w) K X := fun x a1 a2 => by
    have c1 := h
    have hm1 := hm
    have c2 := c1
    refine Go_ist6 dL_law_209 rfl ?_
    refine Go_ald2 dL_law_211 ?_
    refine Go_ald0 dL_law_212 ?_
    refine Go_ild5 dL_law_213 ?_
    refine Go_iconst dL_law_215 ?_
    refine Go_iadd dL_law_216 ?_
    refine Go_xld (j := i + 1) dL_law_217 (by omega) (by omega) hL ?_
    refine Go_ald0 dL_law_218 ?_
    refine Go_ild5 dL_law_219 ?_
    refine Go_iconst dL_law_221 ?_
    refine Go_iadd dL_law_222 ?_
    refine Go_xld (j := i + 2) dL_law_223 (by omega) (by omega) hL ?_
    refine Go_cV2 (d' := 2) (bc' := 0) (bs' := 0) rfl dL_law_224 mvX12_start rfl lkL_117 (by first | assumption | rfl) rfl trivial (by decide) (by omega) (by omega) (Nat.le_of_ble_eq_true rfl) ?_
    refine e_X12_start hm1 (sx_in G _) (sx_in G _) (fun w2 x_2 b1 b2 b3 mx => by (exfalso; first | omega | (have e_x_2 : x_2 = x := (by omega); subst e_x_2; first | omega | exact a2 ⟨b1, b2⟩ | exact a2 ⟨b2, b3⟩))) (fun w2 b1 mx => by (exfalso; first | omega | (first | omega))) (fun w2 x_2 b1 b2 mx => ?_)
    have e_x_2 : x_2 = x := (by omega)
    subst e_x_2
    refine Go_ist7 dL_law_227 rfl ?_
    refine Go_ald2 dL_law_229 ?_
    refine Go_cV0 (d' := 0) (bc' := 0) (bs' := 0) rfl dL_law_230 mvX12_thrown rfl lkL_118 (by first | assumption | rfl) rfl trivial (by decide) (by omega) (by omega) (Nat.le_of_ble_eq_true rfl) ?_
    refine e_X12_thrown ?_
    rw [mx.2.1]
    refine Go_ild6 dL_law_233 ?_
    refine Go_icmp_eq (tgt := 240) dL_law_235 (by decide) (by constructor <;> omega) (by constructor <;> omega) (fun h235 => ?_) (fun h235 => by omega)
    refine Go_ild6 dL_law_240 ?_
    refine Go_if_ne (tgt := 257) dL_law_242 (by decide) (by constructor <;> omega) (fun h242 => ?_) (fun h242 => by omega)
    refine Go_goto (tgt := 2106) dL_law_257 (by decide) ?_
    exact Go_more (by omega) (by omega) (Go_forget (by repeat' (first | exact Or.inl rfl | exact Or.inr rfl | exact Or.inr (lcg (by omega)) | exact trivial | constructor)) (kn w2 _ _ _ _ (c2.frm mx.2.2 (by decide +kernel)) mx.1))
  refine Go_ald1 dL_law_192 ?_
  refine Go_ald0 dL_law_193 ?_
  refine Go_ild5 dL_law_194 ?_
  refine Go_iconst dL_law_196 ?_
  refine Go_iadd dL_law_197 ?_
  refine Go_xld (j := i + 1) dL_law_198 (by omega) (by omega) hL ?_
  refine Go_ald0 dL_law_199 ?_
  refine Go_ild5 dL_law_200 ?_
  refine Go_iconst dL_law_202 ?_
  refine Go_iadd dL_law_203 ?_
  refine Go_xld (j := i + 2) dL_law_204 (by omega) (by omega) hL ?_
  refine Go_ald3 dL_law_205 ?_
  refine Go_cSW (d' := 8) (bc' := 2) (bs' := 12) (as := [vr 1, vi (sx G (i + 1)), vi (sx G (i + 2)), vr 84]) rfl dL_law_206 msL_start rfl lkL_112 rfl rfl (Nat.le_of_ble_eq_true rfl) (by decide) (by omega) (by omega) ?_
  refine e_L_start h (sx_in G _) (sx_in G _) q_k q_x1 q_x2
theorem l_law_step (hi : i + 4 ≤ GL G) (hL : GL G < 2147483648) (h : CI w s sv g tx) (hm : MInv w s sv g tx) (kn : ∀ v s sv g tx, CI v s sv g tx → MInv v s sv g tx → Go G cL_law (mL_law tb) none 18 bn sn 2106 [some (vr 1000), some (vr 1), some (vr 68), some (vr 84), some (vr 85), some (vi (i : Int)), none, none, none, none] [] v K X) : Go G cL_law (mL_law tb) none 18 (bn + 8) (sn + 48) 260 [some (vr 1000), some (vr 1), some (vr 68), some (vr 84), some (vr 85), some (vi (i : Int)), none, none, none, none] [] w K X := by
  have q_k : ∀ w' (p d : Nat), (sx G (i + 1)) = p → p < s.1.length → (sx G (i + 2)) = d → d < 4 → CI w' (stepS s p d) (pushS sv s) g tx → frm w w' ccs → Go G cL_law (mL_law tb) none 18 (bn + 8 - 2) (sn + 48 - 12) 277 [some (vr 1000), some (vr 1), some (vr 68), some (vr 84), some (vr 85), some (vi (i : Int)), none, none, none, none] [vi 0] (up w' 84 0 (nz (stepR s.1 p d))) K X := fun w1 p d a1 a2 a3 a4 c1 fr1 => by
    have hm1 : MInv (up w1 84 0 (nz (stepR s.1 p d))) s sv g tx := (hm.out fr1 (by decide +kernel)).out (A := [84]) (frm.rfl.up (by simp)) (by decide)
    have c2 : CI (up w1 84 0 (nz (stepR s.1 p d))) _ _ _ _ := c1.frm (A := [84]) (frm.rfl.up (by simp)) (by decide)
    refine Go_ist6 dL_law_277 rfl ?_
    refine Go_ald2 dL_law_279 ?_
    refine Go_ald0 dL_law_280 ?_
    refine Go_ild5 dL_law_281 ?_
    refine Go_iconst dL_law_283 ?_
    refine Go_iadd dL_law_284 ?_
    refine Go_xld (j := i + 1) dL_law_285 (by omega) (by omega) hL ?_
    refine Go_ald0 dL_law_286 ?_
    refine Go_ild5 dL_law_287 ?_
    refine Go_iconst dL_law_289 ?_
    refine Go_iadd dL_law_290 ?_
    refine Go_xld (j := i + 2) dL_law_291 (by omega) (by omega) hL ?_
    refine Go_cV2 (d' := 2) (bc' := 0) (bs' := 0) rfl dL_law_292 mvX12_step rfl lkL_123 (by first | assumption | rfl) rfl trivial (by decide) (by omega) (by omega) (Nat.le_of_ble_eq_true rfl) ?_
    refine e_X12_step hm1 (sx_in G _) (sx_in G _) (fun w2 p_2 d_2 b1 b2 b3 b4 mx => ?_) (fun w2 b1 mx => by (exfalso; first | omega | (first | omega | exact b1 ⟨a1, a2⟩ | exact b1 ⟨a2, a3⟩ | exact b1 ⟨a3, a4⟩))) (fun w2 b1 b2 b3 mx => by (exfalso; first | omega | (first | omega | exact b3 ⟨a1, a2⟩ | exact b3 ⟨a2, a3⟩ | exact b3 ⟨a3, a4⟩)))
    have e_p_2 : p_2 = p := (by omega)
    subst e_p_2
    have e_d_2 : d_2 = d := (by omega)
    subst e_d_2
    refine Go_ist7 dL_law_295 rfl ?_
    refine Go_ald2 dL_law_297 ?_
    refine Go_cV0 (d' := 0) (bc' := 0) (bs' := 0) rfl dL_law_298 mvX12_thrown rfl lkL_118 (by first | assumption | rfl) rfl trivial (by decide) (by omega) (by omega) (Nat.le_of_ble_eq_true rfl) ?_
    refine e_X12_thrown ?_
    rw [mx.2.1]
    refine Go_ild6 dL_law_301 ?_
    refine Go_icmp_eq (tgt := 308) dL_law_303 (by decide) (by constructor <;> omega) (by constructor <;> omega) (fun h303 => ?_) (fun h303 => by omega)
    refine Go_ild6 dL_law_308 ?_
    refine Go_if_ne (tgt := 325) dL_law_310 (by decide) (by constructor <;> omega) (fun h310 => by omega) (fun h310 => ?_)
    refine Go_ald3 dL_law_313 ?_
    refine Go_iconst dL_law_314 ?_
    refine Go_lald dL_law_315 (by first | assumption | rfl) trivial (by omega) (by omega) (by decide) ?_
    rw [show (0 : Int).toNat = 0 from rfl, mx.2.2.at (by decide), up_s]
    refine Go_ild7 dL_law_316 ?_
    refine Go_i2lN dL_law_318 ?_
    refine Go_lcmp_same dL_law_319 ?_
    refine Go_if_eq (tgt := 325) dL_law_320 (by decide) (by constructor <;> omega) (fun h320 => ?_) (fun h320 => by omega)
    refine Go_goto (tgt := 2106) dL_law_325 (by decide) ?_
    exact Go_more (by omega) (by omega) (Go_forget (by repeat' (first | exact Or.inl rfl | exact Or.inr rfl | exact Or.inr (lcg (by omega)) | exact trivial | constructor)) (kn w2 _ _ _ _ (c2.frm mx.2.2 (by decide +kernel)) mx.1))
  have q_x1 : ¬ (0 ≤ (sx G (i + 1)) ∧ (sx G (i + 1)) < s.1.length) → Go G cL_law (mL_law tb) none 18 (bn + 8 - 2) (sn + 48 - 12) 277 [some (vr 1000), some (vr 1), some (vr 68), some (vr 84), some (vr 85), some (vi (i : Int)), none, none, none, none] [vi 1] (w) K X := fun a1 => by
    have c1 := h
    have hm1 := hm
    have c2 := c1
    refine Go_ist6 dL_law_277 rfl ?_
    refine Go_ald2 dL_law_279 ?_
    refine Go_ald0 dL_law_280 ?_
    refine Go_ild5 dL_law_281 ?_
    refine Go_iconst dL_law_283 ?_
    refine Go_iadd dL_law_284 ?_
    refine Go_xld (j := i + 1) dL_law_285 (by omega) (by omega) hL ?_
    refine Go_ald0 dL_law_286 ?_
    refine Go_ild5 dL_law_287 ?_
    refine Go_iconst dL_law_289 ?_
    refine Go_iadd dL_law_290 ?_
    refine Go_xld (j := i + 2) dL_law_291 (by omega) (by omega) hL ?_
    refine Go_cV2 (d' := 2) (bc' := 0) (bs' := 0) rfl dL_law_292 mvX12_step rfl lkL_123 (by first | assumption | rfl) rfl trivial (by decide) (by omega) (by omega) (Nat.le_of_ble_eq_true rfl) ?_
    refine e_X12_step hm1 (sx_in G _) (sx_in G _) (fun w2 p_2 d_2 b1 b2 b3 b4 mx => by (exfalso; first | omega | (first | omega | exact a1 ⟨b1, b2⟩ | exact a1 ⟨b2, b3⟩ | exact a1 ⟨b3, b4⟩ | exact a1 ⟨b1, b2, b3, b4⟩))) (fun w2 b1 mx => ?_) (fun w2 b1 b2 b3 mx => by (exfalso; first | omega | (first | omega | exact a1 ⟨b1, b2⟩ | exact a1 ⟨b2, b3⟩)))
    refine Go_ist7 dL_law_295 rfl ?_
    refine Go_ald2 dL_law_297 ?_
    refine Go_cV0 (d' := 0) (bc' := 0) (bs' := 0) rfl dL_law_298 mvX12_thrown rfl lkL_118 (by first | assumption | rfl) rfl trivial (by decide) (by omega) (by omega) (Nat.le_of_ble_eq_true rfl) ?_
    refine e_X12_thrown ?_
    rw [mx.2.1]
    refine Go_ild6 dL_law_301 ?_
    refine Go_icmp_eq (tgt := 308) dL_law_303 (by decide) (by constructor <;> omega) (by constructor <;> omega) (fun h303 => ?_) (fun h303 => by omega)
    refine Go_ild6 dL_law_308 ?_
    refine Go_if_ne (tgt := 325) dL_law_310 (by decide) (by constructor <;> omega) (fun h310 => ?_) (fun h310 => by omega)
    refine Go_goto (tgt := 2106) dL_law_325 (by decide) ?_
    exact Go_more (by omega) (by omega) (Go_forget (by repeat' (first | exact Or.inl rfl | exact Or.inr rfl | exact Or.inr (lcg (by omega)) | exact trivial | constructor)) (kn w2 _ _ _ _ (c2.frm mx.2.2 (by decide +kernel)) mx.1))
  have q_x3 : 0 ≤ (sx G (i + 1)) → (sx G (i + 1)) < s.1.length → ¬ (0 ≤ (sx G (i + 2)) ∧ (sx G (i + 2)) ≤ 3) → Go G cL_law (mL_law tb) none 18 (bn + 8 - 2) (sn + 48 - 12) 277 [some (vr 1000), some (vr 1), some (vr 68), some (vr 84), some (vr 85), some (vi (i : Int)), none, none, none, none] [vi 2] (w) K X := fun a1 a2 a3 => by
    have c1 := h
    have hm1 := hm
    have c2 := c1
    refine Go_ist6 dL_law_277 rfl ?_
    refine Go_ald2 dL_law_279 ?_
    refine Go_ald0 dL_law_280 ?_
    refine Go_ild5 dL_law_281 ?_
    refine Go_iconst dL_law_283 ?_
    refine Go_iadd dL_law_284 ?_
    refine Go_xld (j := i + 1) dL_law_285 (by omega) (by omega) hL ?_
    refine Go_ald0 dL_law_286 ?_
    refine Go_ild5 dL_law_287 ?_
    refine Go_iconst dL_law_289 ?_
    refine Go_iadd dL_law_290 ?_
    refine Go_xld (j := i + 2) dL_law_291 (by omega) (by omega) hL ?_
    refine Go_cV2 (d' := 2) (bc' := 0) (bs' := 0) rfl dL_law_292 mvX12_step rfl lkL_123 (by first | assumption | rfl) rfl trivial (by decide) (by omega) (by omega) (Nat.le_of_ble_eq_true rfl) ?_
    refine e_X12_step hm1 (sx_in G _) (sx_in G _) (fun w2 p_2 d_2 b1 b2 b3 b4 mx => by (exfalso; first | omega | (first | omega | exact a3 ⟨b1, b2⟩ | exact a3 ⟨b2, b3⟩ | exact a3 ⟨b3, b4⟩ | exact a3 ⟨b1, b2, b3, b4⟩))) (fun w2 b1 mx => by (exfalso; first | omega | (first | omega | exact b1 ⟨a1, a2⟩ | exact b1 ⟨a2, a3⟩))) (fun w2 b1 b2 b3 mx => ?_)
    refine Go_ist7 dL_law_295 rfl ?_
    refine Go_ald2 dL_law_297 ?_
    refine Go_cV0 (d' := 0) (bc' := 0) (bs' := 0) rfl dL_law_298 mvX12_thrown rfl lkL_118 (by first | assumption | rfl) rfl trivial (by decide) (by omega) (by omega) (Nat.le_of_ble_eq_true rfl) ?_
    refine e_X12_thrown ?_
    rw [mx.2.1]
    refine Go_ild6 dL_law_301 ?_
    refine Go_icmp_eq (tgt := 308) dL_law_303 (by decide) (by constructor <;> omega) (by constructor <;> omega) (fun h303 => ?_) (fun h303 => by omega)
    refine Go_ild6 dL_law_308 ?_
    refine Go_if_ne (tgt := 325) dL_law_310 (by decide) (by constructor <;> omega) (fun h310 => ?_) (fun h310 => by omega)
    refine Go_goto (tgt := 2106) dL_law_325 (by decide) ?_
    exact Go_more (by omega) (by omega) (Go_forget (by repeat' (first | exact Or.inl rfl | exact Or.inr rfl | exact Or.inr (lcg (by omega)) | exact trivial | constructor)) (kn w2 _ _ _ _ (c2.frm mx.2.2 (by decide +kernel)) mx.1))
  refine Go_ald1 dL_law_260 ?_
  refine Go_ald0 dL_law_261 ?_
  refine Go_ild5 dL_law_262 ?_
  refine Go_iconst dL_law_264 ?_
  refine Go_iadd dL_law_265 ?_
  refine Go_xld (j := i + 1) dL_law_266 (by omega) (by omega) hL ?_
  refine Go_ald0 dL_law_267 ?_
  refine Go_ild5 dL_law_268 ?_
  refine Go_iconst dL_law_270 ?_
  refine Go_iadd dL_law_271 ?_
  refine Go_xld (j := i + 2) dL_law_272 (by omega) (by omega) hL ?_
  refine Go_ald3 dL_law_273 ?_
  refine Go_cSW (d' := 9) (bc' := 2) (bs' := 12) (as := [vr 1, vi (sx G (i + 1)), vi (sx G (i + 2)), vr 84]) rfl dL_law_274 msL_step rfl lkL_121 rfl rfl (Nat.le_of_ble_eq_true rfl) (by decide) (by omega) (by omega) ?_
  refine e_L_step h (sx_in G _) (sx_in G _) q_k q_x1 q_x3
theorem l_law_back (hi : i + 4 ≤ GL G) (hL : GL G < 2147483648) (h : CI w s sv g tx) (hm : MInv w s sv g tx) (kn : ∀ v s sv g tx, CI v s sv g tx → MInv v s sv g tx → Go G cL_law (mL_law tb) none 18 bn sn 2106 [some (vr 1000), some (vr 1), some (vr 68), some (vr 84), some (vr 85), some (vi (i : Int)), none, none, none, none] [] v K X) : Go G cL_law (mL_law tb) none 18 (bn + 8) (sn + 48) 328 [some (vr 1000), some (vr 1), some (vr 68), some (vr 84), some (vr 85), some (vi (i : Int)), none, none, none, none] [] w K X := by
  have q_k : ∀ w' (p : Nat), (sx G (i + 1)) = p → p < s.1.length → 2 ≤ (pth s.1 p).length → CI w' ((s.1.set p ((pth s.1 p).take ((pth s.1 p).length - 1)), s.2.1, s.2.2.1, s.2.2.2)) (pushS sv s) g tx → frm w w' ccs → Go G cL_law (mL_law tb) none 18 (bn + 8 - 2) (sn + 48 - 12) 339 [some (vr 1000), some (vr 1), some (vr 68), some (vr 84), some (vr 85), some (vi (i : Int)), none, none, none, none] [vi 0] (up w' 84 0 (nz ((pth s.1 p).length - 1))) K X := fun w1 p a1 a2 a3 c1 fr1 => by
    have hm1 : MInv (up w1 84 0 (nz ((pth s.1 p).length - 1))) s sv g tx := (hm.out fr1 (by decide +kernel)).out (A := [84]) (frm.rfl.up (by simp)) (by decide)
    have c2 : CI (up w1 84 0 (nz ((pth s.1 p).length - 1))) _ _ _ _ := c1.frm (A := [84]) (frm.rfl.up (by simp)) (by decide)
    refine Go_ist6 dL_law_339 rfl ?_
    refine Go_ald2 dL_law_341 ?_
    refine Go_ald0 dL_law_342 ?_
    refine Go_ild5 dL_law_343 ?_
    refine Go_iconst dL_law_345 ?_
    refine Go_iadd dL_law_346 ?_
    refine Go_xld (j := i + 1) dL_law_347 (by omega) (by omega) hL ?_
    refine Go_cV1 (d' := 2) (bc' := 0) (bs' := 0) rfl dL_law_348 mvX12_back rfl lkL_127 (by first | assumption | rfl) rfl trivial (by decide) (by omega) (by omega) (Nat.le_of_ble_eq_true rfl) ?_
    refine e_X12_back hm1 (sx_in G _) (fun w2 p_2 b1 b2 b3 mx => ?_) (fun w2 b1 mx => by (exfalso; first | omega | (first | omega | exact b1 ⟨a1, a2⟩ | exact b1 ⟨a2, a3⟩))) (fun w2 p_2 b1 b2 b3 mx => by (exfalso; first | omega | (have e_p_2 : p_2 = p := (by omega); subst e_p_2; first | omega)))
    have e_p_2 : p_2 = p := (by omega)
    subst e_p_2
    refine Go_ist7 dL_law_351 rfl ?_
    refine Go_ald2 dL_law_353 ?_
    refine Go_cV0 (d' := 0) (bc' := 0) (bs' := 0) rfl dL_law_354 mvX12_thrown rfl lkL_118 (by first | assumption | rfl) rfl trivial (by decide) (by omega) (by omega) (Nat.le_of_ble_eq_true rfl) ?_
    refine e_X12_thrown ?_
    rw [mx.2.1]
    refine Go_ild6 dL_law_357 ?_
    refine Go_icmp_eq (tgt := 364) dL_law_359 (by decide) (by constructor <;> omega) (by constructor <;> omega) (fun h359 => ?_) (fun h359 => by omega)
    refine Go_ild6 dL_law_364 ?_
    refine Go_if_ne (tgt := 381) dL_law_366 (by decide) (by constructor <;> omega) (fun h366 => by omega) (fun h366 => ?_)
    refine Go_ald3 dL_law_369 ?_
    refine Go_iconst dL_law_370 ?_
    refine Go_lald dL_law_371 (by first | assumption | rfl) trivial (by omega) (by omega) (by decide) ?_
    rw [show (0 : Int).toNat = 0 from rfl, mx.2.2.at (by decide), up_s]
    refine Go_ild7 dL_law_372 ?_
    refine Go_i2lN dL_law_374 ?_
    refine Go_lcmp_same dL_law_375 ?_
    refine Go_if_eq (tgt := 381) dL_law_376 (by decide) (by constructor <;> omega) (fun h376 => ?_) (fun h376 => by omega)
    refine Go_goto (tgt := 2106) dL_law_381 (by decide) ?_
    exact Go_more (by omega) (by omega) (Go_forget (by repeat' (first | exact Or.inl rfl | exact Or.inr rfl | exact Or.inr (lcg (by omega)) | exact trivial | constructor)) (kn w2 _ _ _ _ (c2.frm mx.2.2 (by decide +kernel)) mx.1))
  have q_x1 : ¬ (0 ≤ (sx G (i + 1)) ∧ (sx G (i + 1)) < s.1.length) → Go G cL_law (mL_law tb) none 18 (bn + 8 - 2) (sn + 48 - 12) 339 [some (vr 1000), some (vr 1), some (vr 68), some (vr 84), some (vr 85), some (vi (i : Int)), none, none, none, none] [vi 1] (w) K X := fun a1 => by
    have c1 := h
    have hm1 := hm
    have c2 := c1
    refine Go_ist6 dL_law_339 rfl ?_
    refine Go_ald2 dL_law_341 ?_
    refine Go_ald0 dL_law_342 ?_
    refine Go_ild5 dL_law_343 ?_
    refine Go_iconst dL_law_345 ?_
    refine Go_iadd dL_law_346 ?_
    refine Go_xld (j := i + 1) dL_law_347 (by omega) (by omega) hL ?_
    refine Go_cV1 (d' := 2) (bc' := 0) (bs' := 0) rfl dL_law_348 mvX12_back rfl lkL_127 (by first | assumption | rfl) rfl trivial (by decide) (by omega) (by omega) (Nat.le_of_ble_eq_true rfl) ?_
    refine e_X12_back hm1 (sx_in G _) (fun w2 p_2 b1 b2 b3 mx => by (exfalso; first | omega | (first | omega | exact a1 ⟨b1, b2⟩ | exact a1 ⟨b2, b3⟩))) (fun w2 b1 mx => ?_) (fun w2 p_2 b1 b2 b3 mx => by (exfalso; first | omega | (first | omega | exact a1 ⟨b1, b2⟩ | exact a1 ⟨b2, b3⟩)))
    refine Go_ist7 dL_law_351 rfl ?_
    refine Go_ald2 dL_law_353 ?_
    refine Go_cV0 (d' := 0) (bc' := 0) (bs' := 0) rfl dL_law_354 mvX12_thrown rfl lkL_118 (by first | assumption | rfl) rfl trivial (by decide) (by omega) (by omega) (Nat.le_of_ble_eq_true rfl) ?_
    refine e_X12_thrown ?_
    rw [mx.2.1]
    refine Go_ild6 dL_law_357 ?_
    refine Go_icmp_eq (tgt := 364) dL_law_359 (by decide) (by constructor <;> omega) (by constructor <;> omega) (fun h359 => ?_) (fun h359 => by omega)
    refine Go_ild6 dL_law_364 ?_
    refine Go_if_ne (tgt := 381) dL_law_366 (by decide) (by constructor <;> omega) (fun h366 => ?_) (fun h366 => by omega)
    refine Go_goto (tgt := 2106) dL_law_381 (by decide) ?_
    exact Go_more (by omega) (by omega) (Go_forget (by repeat' (first | exact Or.inl rfl | exact Or.inr rfl | exact Or.inr (lcg (by omega)) | exact trivial | constructor)) (kn w2 _ _ _ _ (c2.frm mx.2.2 (by decide +kernel)) mx.1))
  have q_x2 : ∀ p : Nat, (sx G (i + 1)) = p → p < s.1.length → (pth s.1 p).length = 1 → Go G cL_law (mL_law tb) none 18 (bn + 8 - 2) (sn + 48 - 12) 339 [some (vr 1000), some (vr 1), some (vr 68), some (vr 84), some (vr 85), some (vi (i : Int)), none, none, none, none] [vi 2] (w) K X := fun p a1 a2 a3 => by
    have c1 := h
    have hm1 := hm
    have c2 := c1
    refine Go_ist6 dL_law_339 rfl ?_
    refine Go_ald2 dL_law_341 ?_
    refine Go_ald0 dL_law_342 ?_
    refine Go_ild5 dL_law_343 ?_
    refine Go_iconst dL_law_345 ?_
    refine Go_iadd dL_law_346 ?_
    refine Go_xld (j := i + 1) dL_law_347 (by omega) (by omega) hL ?_
    refine Go_cV1 (d' := 2) (bc' := 0) (bs' := 0) rfl dL_law_348 mvX12_back rfl lkL_127 (by first | assumption | rfl) rfl trivial (by decide) (by omega) (by omega) (Nat.le_of_ble_eq_true rfl) ?_
    refine e_X12_back hm1 (sx_in G _) (fun w2 p_2 b1 b2 b3 mx => by (exfalso; first | omega | (have e_p_2 : p_2 = p := (by omega); subst e_p_2; first | omega))) (fun w2 b1 mx => by (exfalso; first | omega | (first | omega | exact b1 ⟨a1, a2⟩ | exact b1 ⟨a2, a3⟩))) (fun w2 p_2 b1 b2 b3 mx => ?_)
    have e_p_2 : p_2 = p := (by omega)
    subst e_p_2
    refine Go_ist7 dL_law_351 rfl ?_
    refine Go_ald2 dL_law_353 ?_
    refine Go_cV0 (d' := 0) (bc' := 0) (bs' := 0) rfl dL_law_354 mvX12_thrown rfl lkL_118 (by first | assumption | rfl) rfl trivial (by decide) (by omega) (by omega) (Nat.le_of_ble_eq_true rfl) ?_
    refine e_X12_thrown ?_
    rw [mx.2.1]
    refine Go_ild6 dL_law_357 ?_
    refine Go_icmp_eq (tgt := 364) dL_law_359 (by decide) (by constructor <;> omega) (by constructor <;> omega) (fun h359 => ?_) (fun h359 => by omega)
    refine Go_ild6 dL_law_364 ?_
    refine Go_if_ne (tgt := 381) dL_law_366 (by decide) (by constructor <;> omega) (fun h366 => ?_) (fun h366 => by omega)
    refine Go_goto (tgt := 2106) dL_law_381 (by decide) ?_
    exact Go_more (by omega) (by omega) (Go_forget (by repeat' (first | exact Or.inl rfl | exact Or.inr rfl | exact Or.inr (lcg (by omega)) | exact trivial | constructor)) (kn w2 _ _ _ _ (c2.frm mx.2.2 (by decide +kernel)) mx.1))
  refine Go_ald1 dL_law_328 ?_
  refine Go_ald0 dL_law_329 ?_
  refine Go_ild5 dL_law_330 ?_
  refine Go_iconst dL_law_332 ?_
  refine Go_iadd dL_law_333 ?_
  refine Go_xld (j := i + 1) dL_law_334 (by omega) (by omega) hL ?_
  refine Go_ald3 dL_law_335 ?_
  refine Go_cSW (d' := 8) (bc' := 2) (bs' := 12) (as := [vr 1, vi (sx G (i + 1)), vr 84]) rfl dL_law_336 msL_back rfl lkL_124 rfl rfl (Nat.le_of_ble_eq_true rfl) (by decide) (by omega) (by omega) ?_
  refine e_L_back h (sx_in G _) q_k q_x1 q_x2
theorem l_law_slither (hi : i + 4 ≤ GL G) (hL : GL G < 2147483648) (h : CI w s sv g tx) (hm : MInv w s sv g tx) (kn : ∀ v s sv g tx, CI v s sv g tx → MInv v s sv g tx → Go G cL_law (mL_law tb) none 18 bn sn 2106 [some (vr 1000), some (vr 1), some (vr 68), some (vr 84), some (vr 85), some (vi (i : Int)), none, none, none, none] [] v K X) : Go G cL_law (mL_law tb) none 18 (bn + 8) (sn + 48) 384 [some (vr 1000), some (vr 1), some (vr 68), some (vr 84), some (vr 85), some (vi (i : Int)), none, none, none, none] [] w K X := by
  have q_k : ∀ w' (p d : Nat), (sx G (i + 1)) = p → p < s.1.length → (sx G (i + 2)) = d → d < 4 → CI w' (slithS s p d) (pushS sv s) g tx → frm w w' ccs → Go G cL_law (mL_law tb) none 18 (bn + 8 - 2) (sn + 48 - 12) 401 [some (vr 1000), some (vr 1), some (vr 68), some (vr 84), some (vr 85), some (vi (i : Int)), none, none, none, none] [vi 0] (up w' 84 0 (nz (slithR s.1 p d))) K X := fun w1 p d a1 a2 a3 a4 c1 fr1 => by
    have hm1 : MInv (up w1 84 0 (nz (slithR s.1 p d))) s sv g tx := (hm.out fr1 (by decide +kernel)).out (A := [84]) (frm.rfl.up (by simp)) (by decide)
    have c2 : CI (up w1 84 0 (nz (slithR s.1 p d))) _ _ _ _ := c1.frm (A := [84]) (frm.rfl.up (by simp)) (by decide)
    refine Go_ist6 dL_law_401 rfl ?_
    refine Go_ald2 dL_law_403 ?_
    refine Go_ald0 dL_law_404 ?_
    refine Go_ild5 dL_law_405 ?_
    refine Go_iconst dL_law_407 ?_
    refine Go_iadd dL_law_408 ?_
    refine Go_xld (j := i + 1) dL_law_409 (by omega) (by omega) hL ?_
    refine Go_ald0 dL_law_410 ?_
    refine Go_ild5 dL_law_411 ?_
    refine Go_iconst dL_law_413 ?_
    refine Go_iadd dL_law_414 ?_
    refine Go_xld (j := i + 2) dL_law_415 (by omega) (by omega) hL ?_
    refine Go_cV2 (d' := 2) (bc' := 0) (bs' := 0) rfl dL_law_416 mvX12_slither rfl lkL_130 (by first | assumption | rfl) rfl trivial (by decide) (by omega) (by omega) (Nat.le_of_ble_eq_true rfl) ?_
    refine e_X12_slither hm1 (sx_in G _) (sx_in G _) (fun w2 p_2 d_2 b1 b2 b3 b4 mx => ?_) (fun w2 b1 mx => by (exfalso; first | omega | (first | omega | exact b1 ⟨a1, a2⟩ | exact b1 ⟨a2, a3⟩ | exact b1 ⟨a3, a4⟩))) (fun w2 b1 b2 b3 mx => by (exfalso; first | omega | (first | omega | exact b3 ⟨a1, a2⟩ | exact b3 ⟨a2, a3⟩ | exact b3 ⟨a3, a4⟩)))
    have e_p_2 : p_2 = p := (by omega)
    subst e_p_2
    have e_d_2 : d_2 = d := (by omega)
    subst e_d_2
    refine Go_ist7 dL_law_419 rfl ?_
    refine Go_ald2 dL_law_421 ?_
    refine Go_cV0 (d' := 0) (bc' := 0) (bs' := 0) rfl dL_law_422 mvX12_thrown rfl lkL_118 (by first | assumption | rfl) rfl trivial (by decide) (by omega) (by omega) (Nat.le_of_ble_eq_true rfl) ?_
    refine e_X12_thrown ?_
    rw [mx.2.1]
    refine Go_ild6 dL_law_425 ?_
    refine Go_icmp_eq (tgt := 432) dL_law_427 (by decide) (by constructor <;> omega) (by constructor <;> omega) (fun h427 => ?_) (fun h427 => by omega)
    refine Go_ild6 dL_law_432 ?_
    refine Go_if_ne (tgt := 449) dL_law_434 (by decide) (by constructor <;> omega) (fun h434 => by omega) (fun h434 => ?_)
    refine Go_ald3 dL_law_437 ?_
    refine Go_iconst dL_law_438 ?_
    refine Go_lald dL_law_439 (by first | assumption | rfl) trivial (by omega) (by omega) (by decide) ?_
    rw [show (0 : Int).toNat = 0 from rfl, mx.2.2.at (by decide), up_s]
    refine Go_ild7 dL_law_440 ?_
    refine Go_i2lN dL_law_442 ?_
    refine Go_lcmp_same dL_law_443 ?_
    refine Go_if_eq (tgt := 449) dL_law_444 (by decide) (by constructor <;> omega) (fun h444 => ?_) (fun h444 => by omega)
    refine Go_goto (tgt := 2106) dL_law_449 (by decide) ?_
    exact Go_more (by omega) (by omega) (Go_forget (by repeat' (first | exact Or.inl rfl | exact Or.inr rfl | exact Or.inr (lcg (by omega)) | exact trivial | constructor)) (kn w2 _ _ _ _ (c2.frm mx.2.2 (by decide +kernel)) mx.1))
  have q_x1 : ¬ (0 ≤ (sx G (i + 1)) ∧ (sx G (i + 1)) < s.1.length) → Go G cL_law (mL_law tb) none 18 (bn + 8 - 2) (sn + 48 - 12) 401 [some (vr 1000), some (vr 1), some (vr 68), some (vr 84), some (vr 85), some (vi (i : Int)), none, none, none, none] [vi 1] (w) K X := fun a1 => by
    have c1 := h
    have hm1 := hm
    have c2 := c1
    refine Go_ist6 dL_law_401 rfl ?_
    refine Go_ald2 dL_law_403 ?_
    refine Go_ald0 dL_law_404 ?_
    refine Go_ild5 dL_law_405 ?_
    refine Go_iconst dL_law_407 ?_
    refine Go_iadd dL_law_408 ?_
    refine Go_xld (j := i + 1) dL_law_409 (by omega) (by omega) hL ?_
    refine Go_ald0 dL_law_410 ?_
    refine Go_ild5 dL_law_411 ?_
    refine Go_iconst dL_law_413 ?_
    refine Go_iadd dL_law_414 ?_
    refine Go_xld (j := i + 2) dL_law_415 (by omega) (by omega) hL ?_
    refine Go_cV2 (d' := 2) (bc' := 0) (bs' := 0) rfl dL_law_416 mvX12_slither rfl lkL_130 (by first | assumption | rfl) rfl trivial (by decide) (by omega) (by omega) (Nat.le_of_ble_eq_true rfl) ?_
    refine e_X12_slither hm1 (sx_in G _) (sx_in G _) (fun w2 p_2 d_2 b1 b2 b3 b4 mx => by (exfalso; first | omega | (first | omega | exact a1 ⟨b1, b2⟩ | exact a1 ⟨b2, b3⟩ | exact a1 ⟨b3, b4⟩ | exact a1 ⟨b1, b2, b3, b4⟩))) (fun w2 b1 mx => ?_) (fun w2 b1 b2 b3 mx => by (exfalso; first | omega | (first | omega | exact a1 ⟨b1, b2⟩ | exact a1 ⟨b2, b3⟩)))
    refine Go_ist7 dL_law_419 rfl ?_
    refine Go_ald2 dL_law_421 ?_
    refine Go_cV0 (d' := 0) (bc' := 0) (bs' := 0) rfl dL_law_422 mvX12_thrown rfl lkL_118 (by first | assumption | rfl) rfl trivial (by decide) (by omega) (by omega) (Nat.le_of_ble_eq_true rfl) ?_
    refine e_X12_thrown ?_
    rw [mx.2.1]
    refine Go_ild6 dL_law_425 ?_
    refine Go_icmp_eq (tgt := 432) dL_law_427 (by decide) (by constructor <;> omega) (by constructor <;> omega) (fun h427 => ?_) (fun h427 => by omega)
    refine Go_ild6 dL_law_432 ?_
    refine Go_if_ne (tgt := 449) dL_law_434 (by decide) (by constructor <;> omega) (fun h434 => ?_) (fun h434 => by omega)
    refine Go_goto (tgt := 2106) dL_law_449 (by decide) ?_
    exact Go_more (by omega) (by omega) (Go_forget (by repeat' (first | exact Or.inl rfl | exact Or.inr rfl | exact Or.inr (lcg (by omega)) | exact trivial | constructor)) (kn w2 _ _ _ _ (c2.frm mx.2.2 (by decide +kernel)) mx.1))
  have q_x3 : 0 ≤ (sx G (i + 1)) → (sx G (i + 1)) < s.1.length → ¬ (0 ≤ (sx G (i + 2)) ∧ (sx G (i + 2)) ≤ 3) → Go G cL_law (mL_law tb) none 18 (bn + 8 - 2) (sn + 48 - 12) 401 [some (vr 1000), some (vr 1), some (vr 68), some (vr 84), some (vr 85), some (vi (i : Int)), none, none, none, none] [vi 2] (w) K X := fun a1 a2 a3 => by
    have c1 := h
    have hm1 := hm
    have c2 := c1
    refine Go_ist6 dL_law_401 rfl ?_
    refine Go_ald2 dL_law_403 ?_
    refine Go_ald0 dL_law_404 ?_
    refine Go_ild5 dL_law_405 ?_
    refine Go_iconst dL_law_407 ?_
    refine Go_iadd dL_law_408 ?_
    refine Go_xld (j := i + 1) dL_law_409 (by omega) (by omega) hL ?_
    refine Go_ald0 dL_law_410 ?_
    refine Go_ild5 dL_law_411 ?_
    refine Go_iconst dL_law_413 ?_
    refine Go_iadd dL_law_414 ?_
    refine Go_xld (j := i + 2) dL_law_415 (by omega) (by omega) hL ?_
    refine Go_cV2 (d' := 2) (bc' := 0) (bs' := 0) rfl dL_law_416 mvX12_slither rfl lkL_130 (by first | assumption | rfl) rfl trivial (by decide) (by omega) (by omega) (Nat.le_of_ble_eq_true rfl) ?_
    refine e_X12_slither hm1 (sx_in G _) (sx_in G _) (fun w2 p_2 d_2 b1 b2 b3 b4 mx => by (exfalso; first | omega | (first | omega | exact a3 ⟨b1, b2⟩ | exact a3 ⟨b2, b3⟩ | exact a3 ⟨b3, b4⟩ | exact a3 ⟨b1, b2, b3, b4⟩))) (fun w2 b1 mx => by (exfalso; first | omega | (first | omega | exact b1 ⟨a1, a2⟩ | exact b1 ⟨a2, a3⟩))) (fun w2 b1 b2 b3 mx => ?_)
    refine Go_ist7 dL_law_419 rfl ?_
    refine Go_ald2 dL_law_421 ?_
    refine Go_cV0 (d' := 0) (bc' := 0) (bs' := 0) rfl dL_law_422 mvX12_thrown rfl lkL_118 (by first | assumption | rfl) rfl trivial (by decide) (by omega) (by omega) (Nat.le_of_ble_eq_true rfl) ?_
    refine e_X12_thrown ?_
    rw [mx.2.1]
    refine Go_ild6 dL_law_425 ?_
    refine Go_icmp_eq (tgt := 432) dL_law_427 (by decide) (by constructor <;> omega) (by constructor <;> omega) (fun h427 => ?_) (fun h427 => by omega)
    refine Go_ild6 dL_law_432 ?_
    refine Go_if_ne (tgt := 449) dL_law_434 (by decide) (by constructor <;> omega) (fun h434 => ?_) (fun h434 => by omega)
    refine Go_goto (tgt := 2106) dL_law_449 (by decide) ?_
    exact Go_more (by omega) (by omega) (Go_forget (by repeat' (first | exact Or.inl rfl | exact Or.inr rfl | exact Or.inr (lcg (by omega)) | exact trivial | constructor)) (kn w2 _ _ _ _ (c2.frm mx.2.2 (by decide +kernel)) mx.1))
  refine Go_ald1 dL_law_384 ?_
  refine Go_ald0 dL_law_385 ?_
  refine Go_ild5 dL_law_386 ?_
  refine Go_iconst dL_law_388 ?_
  refine Go_iadd dL_law_389 ?_
  refine Go_xld (j := i + 1) dL_law_390 (by omega) (by omega) hL ?_
  refine Go_ald0 dL_law_391 ?_
  refine Go_ild5 dL_law_392 ?_
  refine Go_iconst dL_law_394 ?_
  refine Go_iadd dL_law_395 ?_
  refine Go_xld (j := i + 2) dL_law_396 (by omega) (by omega) hL ?_
  refine Go_ald3 dL_law_397 ?_
  refine Go_cSW (d' := 9) (bc' := 2) (bs' := 12) (as := [vr 1, vi (sx G (i + 1)), vi (sx G (i + 2)), vr 84]) rfl dL_law_398 msL_slither rfl lkL_128 rfl rfl (Nat.le_of_ble_eq_true rfl) (by decide) (by omega) (by omega) ?_
  refine e_L_slither h (sx_in G _) (sx_in G _) q_k q_x1 q_x3
theorem l_law_turn (hi : i + 4 ≤ GL G) (hL : GL G < 2147483648) (h : CI w s sv g tx) (hm : MInv w s sv g tx) (kn : ∀ v s sv g tx, CI v s sv g tx → MInv v s sv g tx → Go G cL_law (mL_law tb) none 18 bn sn 2106 [some (vr 1000), some (vr 1), some (vr 68), some (vr 84), some (vr 85), some (vi (i : Int)), none, none, none, none] [] v K X) : Go G cL_law (mL_law tb) none 18 (bn + 8) (sn + 48) 452 [some (vr 1000), some (vr 1), some (vr 68), some (vr 84), some (vr 85), some (vi (i : Int)), none, none, none, none] [] w K X := by
  have q_kt : ∀ w' (p j q : Nat), (sx G (i + 1)) = p → p < s.1.length → (sx G (i + 2)) = j → j < (pth s.1 p).length → (sx G (i + 3)) = q → 1 ≤ q → q ≤ 3 → whyT s.1 p j q = 0 → CI w' (turS s p j q) (pushS sv s) g tx → frm w w' ccs → Go G cL_law (mL_law tb) none 18 (bn + 8 - 3) (sn + 48 - 18) 475 [some (vr 1000), some (vr 1), some (vr 68), some (vr 84), some (vr 85), some (vi (i : Int)), none, none, none, none] [vi 0] (up w' 84 0 (nz 0)) K X := fun w1 p j q a1 a2 a3 a4 a5 a6 a7 a8 c1 fr1 => by
    have hm1 : MInv (up w1 84 0 (nz 0)) s sv g tx := (hm.out fr1 (by decide +kernel)).out (A := [84]) (frm.rfl.up (by simp)) (by decide)
    have c2 : CI (up w1 84 0 (nz 0)) _ _ _ _ := c1.frm (A := [84]) (frm.rfl.up (by simp)) (by decide)
    refine Go_ist6 dL_law_475 rfl ?_
    refine Go_ald2 dL_law_477 ?_
    refine Go_ald0 dL_law_478 ?_
    refine Go_ild5 dL_law_479 ?_
    refine Go_iconst dL_law_481 ?_
    refine Go_iadd dL_law_482 ?_
    refine Go_xld (j := i + 1) dL_law_483 (by omega) (by omega) hL ?_
    refine Go_ald0 dL_law_484 ?_
    refine Go_ild5 dL_law_485 ?_
    refine Go_iconst dL_law_487 ?_
    refine Go_iadd dL_law_488 ?_
    refine Go_xld (j := i + 2) dL_law_489 (by omega) (by omega) hL ?_
    refine Go_ald0 dL_law_490 ?_
    refine Go_ild5 dL_law_491 ?_
    refine Go_iconst dL_law_493 ?_
    refine Go_iadd dL_law_494 ?_
    refine Go_xld (j := i + 3) dL_law_495 (by omega) (by omega) hL ?_
    refine Go_cV3 (d' := 3) (bc' := 0) (bs' := 0) rfl dL_law_496 mvX12_turn rfl lkL_134 (by first | assumption | rfl) rfl trivial (by decide) (by omega) (by omega) (Nat.le_of_ble_eq_true rfl) ?_
    refine e_X12_turn hm1 (sx_in G _) (sx_in G _) (sx_in G _) (fun w2 p_2 j_2 q_2 b1 b2 b3 b4 b5 b6 b7 b8 mx => ?_) (fun w2 p_2 j_2 q_2 b1 b2 b3 b4 b5 b6 b7 b8 mx => by (exfalso; first | omega | (have e_p_2 : p_2 = p := (by omega); subst e_p_2; have e_j_2 : j_2 = j := (by omega); subst e_j_2; have e_q_2 : q_2 = q := (by omega); subst e_q_2; first | omega))) (fun w2 b1 mx => by (exfalso; first | omega | (first | omega | exact b1 _ _ a1 a2 a3 a4))) (fun w2 p_2 j_2 b1 b2 b3 b4 b5 mx => by (exfalso; first | omega | (have e_p_2 : p_2 = p := (by omega); subst e_p_2; have e_j_2 : j_2 = j := (by omega); subst e_j_2; first | omega | exact b5 ⟨a1, a2⟩ | exact b5 ⟨a2, a3⟩ | exact b5 ⟨a3, a4⟩ | exact b5 ⟨a4, a5⟩ | exact b5 ⟨a5, a6⟩ | exact b5 ⟨a6, a7⟩ | exact b5 ⟨a7, a8⟩)))
    have e_p_2 : p_2 = p := (by omega)
    subst e_p_2
    have e_j_2 : j_2 = j := (by omega)
    subst e_j_2
    have e_q_2 : q_2 = q := (by omega)
    subst e_q_2
    refine Go_ist7 dL_law_499 rfl ?_
    refine Go_ald2 dL_law_501 ?_
    refine Go_cV0 (d' := 0) (bc' := 0) (bs' := 0) rfl dL_law_502 mvX12_thrown rfl lkL_118 (by first | assumption | rfl) rfl trivial (by decide) (by omega) (by omega) (Nat.le_of_ble_eq_true rfl) ?_
    refine e_X12_thrown ?_
    rw [mx.2.1]
    refine Go_ild6 dL_law_505 ?_
    refine Go_icmp_eq (tgt := 512) dL_law_507 (by decide) (by constructor <;> omega) (by constructor <;> omega) (fun h507 => ?_) (fun h507 => by omega)
    refine Go_ild6 dL_law_512 ?_
    refine Go_if_ne (tgt := 529) dL_law_514 (by decide) (by constructor <;> omega) (fun h514 => by omega) (fun h514 => ?_)
    refine Go_ald3 dL_law_517 ?_
    refine Go_iconst dL_law_518 ?_
    refine Go_lald dL_law_519 (by first | assumption | rfl) trivial (by omega) (by omega) (by decide) ?_
    rw [show (0 : Int).toNat = 0 from rfl, mx.2.2.at (by decide), up_s]
    refine Go_ild7 dL_law_520 ?_
    refine Go_i2lN dL_law_522 ?_
    refine Go_lcmp_same dL_law_523 ?_
    refine Go_if_eq (tgt := 529) dL_law_524 (by decide) (by constructor <;> omega) (fun h524 => ?_) (fun h524 => by omega)
    refine Go_goto (tgt := 2106) dL_law_529 (by decide) ?_
    exact Go_more (by omega) (by omega) (Go_forget (by repeat' (first | exact Or.inl rfl | exact Or.inr rfl | exact Or.inr (lcg (by omega)) | exact trivial | constructor)) (kn w2 _ _ _ _ (c2.frm mx.2.2 (by decide +kernel)) mx.1))
  have q_kf : ∀ w' (p j q : Nat), (sx G (i + 1)) = p → p < s.1.length → (sx G (i + 2)) = j → j < (pth s.1 p).length → (sx G (i + 3)) = q → 1 ≤ q → q ≤ 3 → whyT s.1 p j q ≠ 0 → CI w' ((s.1, s.2.1, s.2.2.1 + 1, s.2.2.2)) (pushS sv s) g tx → frm w w' ccs → Go G cL_law (mL_law tb) none 18 (bn + 8 - 3) (sn + 48 - 18) 475 [some (vr 1000), some (vr 1), some (vr 68), some (vr 84), some (vr 85), some (vi (i : Int)), none, none, none, none] [vi 0] (up w' 84 0 (nz (whyT s.1 p j q))) K X := fun w1 p j q a1 a2 a3 a4 a5 a6 a7 a8 c1 fr1 => by
    have hm1 : MInv (up w1 84 0 (nz (whyT s.1 p j q))) s sv g tx := (hm.out fr1 (by decide +kernel)).out (A := [84]) (frm.rfl.up (by simp)) (by decide)
    have c2 : CI (up w1 84 0 (nz (whyT s.1 p j q))) _ _ _ _ := c1.frm (A := [84]) (frm.rfl.up (by simp)) (by decide)
    refine Go_ist6 dL_law_475 rfl ?_
    refine Go_ald2 dL_law_477 ?_
    refine Go_ald0 dL_law_478 ?_
    refine Go_ild5 dL_law_479 ?_
    refine Go_iconst dL_law_481 ?_
    refine Go_iadd dL_law_482 ?_
    refine Go_xld (j := i + 1) dL_law_483 (by omega) (by omega) hL ?_
    refine Go_ald0 dL_law_484 ?_
    refine Go_ild5 dL_law_485 ?_
    refine Go_iconst dL_law_487 ?_
    refine Go_iadd dL_law_488 ?_
    refine Go_xld (j := i + 2) dL_law_489 (by omega) (by omega) hL ?_
    refine Go_ald0 dL_law_490 ?_
    refine Go_ild5 dL_law_491 ?_
    refine Go_iconst dL_law_493 ?_
    refine Go_iadd dL_law_494 ?_
    refine Go_xld (j := i + 3) dL_law_495 (by omega) (by omega) hL ?_
    refine Go_cV3 (d' := 3) (bc' := 0) (bs' := 0) rfl dL_law_496 mvX12_turn rfl lkL_134 (by first | assumption | rfl) rfl trivial (by decide) (by omega) (by omega) (Nat.le_of_ble_eq_true rfl) ?_
    refine e_X12_turn hm1 (sx_in G _) (sx_in G _) (sx_in G _) (fun w2 p_2 j_2 q_2 b1 b2 b3 b4 b5 b6 b7 b8 mx => by (exfalso; first | omega | (have e_p_2 : p_2 = p := (by omega); subst e_p_2; have e_j_2 : j_2 = j := (by omega); subst e_j_2; have e_q_2 : q_2 = q := (by omega); subst e_q_2; first | omega))) (fun w2 p_2 j_2 q_2 b1 b2 b3 b4 b5 b6 b7 b8 mx => ?_) (fun w2 b1 mx => by (exfalso; first | omega | (first | omega | exact b1 _ _ a1 a2 a3 a4))) (fun w2 p_2 j_2 b1 b2 b3 b4 b5 mx => by (exfalso; first | omega | (have e_p_2 : p_2 = p := (by omega); subst e_p_2; have e_j_2 : j_2 = j := (by omega); subst e_j_2; first | omega | exact b5 ⟨a1, a2⟩ | exact b5 ⟨a2, a3⟩ | exact b5 ⟨a3, a4⟩ | exact b5 ⟨a4, a5⟩ | exact b5 ⟨a5, a6⟩ | exact b5 ⟨a6, a7⟩ | exact b5 ⟨a7, a8⟩)))
    have e_p_2 : p_2 = p := (by omega)
    subst e_p_2
    have e_j_2 : j_2 = j := (by omega)
    subst e_j_2
    have e_q_2 : q_2 = q := (by omega)
    subst e_q_2
    refine Go_ist7 dL_law_499 rfl ?_
    refine Go_ald2 dL_law_501 ?_
    refine Go_cV0 (d' := 0) (bc' := 0) (bs' := 0) rfl dL_law_502 mvX12_thrown rfl lkL_118 (by first | assumption | rfl) rfl trivial (by decide) (by omega) (by omega) (Nat.le_of_ble_eq_true rfl) ?_
    refine e_X12_thrown ?_
    rw [mx.2.1]
    refine Go_ild6 dL_law_505 ?_
    refine Go_icmp_eq (tgt := 512) dL_law_507 (by decide) (by constructor <;> omega) (by constructor <;> omega) (fun h507 => ?_) (fun h507 => by omega)
    refine Go_ild6 dL_law_512 ?_
    refine Go_if_ne (tgt := 529) dL_law_514 (by decide) (by constructor <;> omega) (fun h514 => by omega) (fun h514 => ?_)
    refine Go_ald3 dL_law_517 ?_
    refine Go_iconst dL_law_518 ?_
    refine Go_lald dL_law_519 (by first | assumption | rfl) trivial (by omega) (by omega) (by decide) ?_
    rw [show (0 : Int).toNat = 0 from rfl, mx.2.2.at (by decide), up_s]
    refine Go_ild7 dL_law_520 ?_
    refine Go_i2lN dL_law_522 ?_
    refine Go_lcmp_same dL_law_523 ?_
    refine Go_if_eq (tgt := 529) dL_law_524 (by decide) (by constructor <;> omega) (fun h524 => ?_) (fun h524 => by omega)
    refine Go_goto (tgt := 2106) dL_law_529 (by decide) ?_
    exact Go_more (by omega) (by omega) (Go_forget (by repeat' (first | exact Or.inl rfl | exact Or.inr rfl | exact Or.inr (lcg (by omega)) | exact trivial | constructor)) (kn w2 _ _ _ _ (c2.frm mx.2.2 (by decide +kernel)) mx.1))
  have q_x1 : (∀ p j : Nat, (sx G (i + 1)) = p → p < s.1.length → (sx G (i + 2)) = j → ¬ j < (pth s.1 p).length) → Go G cL_law (mL_law tb) none 18 (bn + 8 - 3) (sn + 48 - 18) 475 [some (vr 1000), some (vr 1), some (vr 68), some (vr 84), some (vr 85), some (vi (i : Int)), none, none, none, none] [vi 1] (w) K X := fun a1 => by
    have c1 := h
    have hm1 := hm
    have c2 := c1
    refine Go_ist6 dL_law_475 rfl ?_
    refine Go_ald2 dL_law_477 ?_
    refine Go_ald0 dL_law_478 ?_
    refine Go_ild5 dL_law_479 ?_
    refine Go_iconst dL_law_481 ?_
    refine Go_iadd dL_law_482 ?_
    refine Go_xld (j := i + 1) dL_law_483 (by omega) (by omega) hL ?_
    refine Go_ald0 dL_law_484 ?_
    refine Go_ild5 dL_law_485 ?_
    refine Go_iconst dL_law_487 ?_
    refine Go_iadd dL_law_488 ?_
    refine Go_xld (j := i + 2) dL_law_489 (by omega) (by omega) hL ?_
    refine Go_ald0 dL_law_490 ?_
    refine Go_ild5 dL_law_491 ?_
    refine Go_iconst dL_law_493 ?_
    refine Go_iadd dL_law_494 ?_
    refine Go_xld (j := i + 3) dL_law_495 (by omega) (by omega) hL ?_
    refine Go_cV3 (d' := 3) (bc' := 0) (bs' := 0) rfl dL_law_496 mvX12_turn rfl lkL_134 (by first | assumption | rfl) rfl trivial (by decide) (by omega) (by omega) (Nat.le_of_ble_eq_true rfl) ?_
    refine e_X12_turn hm1 (sx_in G _) (sx_in G _) (sx_in G _) (fun w2 p_2 j_2 q_2 b1 b2 b3 b4 b5 b6 b7 b8 mx => by (exfalso; first | omega | (first | omega | exact a1 _ _ b1 b2 b3 b4))) (fun w2 p_2 j_2 q_2 b1 b2 b3 b4 b5 b6 b7 b8 mx => by (exfalso; first | omega | (first | omega | exact a1 _ _ b1 b2 b3 b4))) (fun w2 b1 mx => ?_) (fun w2 p_2 j_2 b1 b2 b3 b4 b5 mx => by (exfalso; first | omega | (first | omega | exact a1 _ _ b1 b2 b3 b4)))
    refine Go_ist7 dL_law_499 rfl ?_
    refine Go_ald2 dL_law_501 ?_
    refine Go_cV0 (d' := 0) (bc' := 0) (bs' := 0) rfl dL_law_502 mvX12_thrown rfl lkL_118 (by first | assumption | rfl) rfl trivial (by decide) (by omega) (by omega) (Nat.le_of_ble_eq_true rfl) ?_
    refine e_X12_thrown ?_
    rw [mx.2.1]
    refine Go_ild6 dL_law_505 ?_
    refine Go_icmp_eq (tgt := 512) dL_law_507 (by decide) (by constructor <;> omega) (by constructor <;> omega) (fun h507 => ?_) (fun h507 => by omega)
    refine Go_ild6 dL_law_512 ?_
    refine Go_if_ne (tgt := 529) dL_law_514 (by decide) (by constructor <;> omega) (fun h514 => ?_) (fun h514 => by omega)
    refine Go_goto (tgt := 2106) dL_law_529 (by decide) ?_
    exact Go_more (by omega) (by omega) (Go_forget (by repeat' (first | exact Or.inl rfl | exact Or.inr rfl | exact Or.inr (lcg (by omega)) | exact trivial | constructor)) (kn w2 _ _ _ _ (c2.frm mx.2.2 (by decide +kernel)) mx.1))
  have q_x3 : ∀ p j : Nat, (sx G (i + 1)) = p → p < s.1.length → (sx G (i + 2)) = j → j < (pth s.1 p).length → ¬ (1 ≤ (sx G (i + 3)) ∧ (sx G (i + 3)) ≤ 3) → Go G cL_law (mL_law tb) none 18 (bn + 8 - 3) (sn + 48 - 18) 475 [some (vr 1000), some (vr 1), some (vr 68), some (vr 84), some (vr 85), some (vi (i : Int)), none, none, none, none] [vi 2] (w) K X := fun p j a1 a2 a3 a4 a5 => by
    have c1 := h
    have hm1 := hm
    have c2 := c1
    refine Go_ist6 dL_law_475 rfl ?_
    refine Go_ald2 dL_law_477 ?_
    refine Go_ald0 dL_law_478 ?_
    refine Go_ild5 dL_law_479 ?_
    refine Go_iconst dL_law_481 ?_
    refine Go_iadd dL_law_482 ?_
    refine Go_xld (j := i + 1) dL_law_483 (by omega) (by omega) hL ?_
    refine Go_ald0 dL_law_484 ?_
    refine Go_ild5 dL_law_485 ?_
    refine Go_iconst dL_law_487 ?_
    refine Go_iadd dL_law_488 ?_
    refine Go_xld (j := i + 2) dL_law_489 (by omega) (by omega) hL ?_
    refine Go_ald0 dL_law_490 ?_
    refine Go_ild5 dL_law_491 ?_
    refine Go_iconst dL_law_493 ?_
    refine Go_iadd dL_law_494 ?_
    refine Go_xld (j := i + 3) dL_law_495 (by omega) (by omega) hL ?_
    refine Go_cV3 (d' := 3) (bc' := 0) (bs' := 0) rfl dL_law_496 mvX12_turn rfl lkL_134 (by first | assumption | rfl) rfl trivial (by decide) (by omega) (by omega) (Nat.le_of_ble_eq_true rfl) ?_
    refine e_X12_turn hm1 (sx_in G _) (sx_in G _) (sx_in G _) (fun w2 p_2 j_2 q_2 b1 b2 b3 b4 b5 b6 b7 b8 mx => by (exfalso; first | omega | (have e_p_2 : p_2 = p := (by omega); subst e_p_2; have e_j_2 : j_2 = j := (by omega); subst e_j_2; first | omega | exact a5 ⟨b1, b2⟩ | exact a5 ⟨b2, b3⟩ | exact a5 ⟨b3, b4⟩ | exact a5 ⟨b4, b5⟩ | exact a5 ⟨b5, b6⟩ | exact a5 ⟨b6, b7⟩ | exact a5 ⟨b7, b8⟩ | exact a5 ⟨b1, b2, b3, b4⟩ | exact a5 ⟨b2, b3, b4, b5⟩ | exact a5 ⟨b3, b4, b5, b6⟩ | exact a5 ⟨b4, b5, b6, b7⟩ | exact a5 ⟨b5, b6, b7, b8⟩))) (fun w2 p_2 j_2 q_2 b1 b2 b3 b4 b5 b6 b7 b8 mx => by (exfalso; first | omega | (have e_p_2 : p_2 = p := (by omega); subst e_p_2; have e_j_2 : j_2 = j := (by omega); subst e_j_2; first | omega | exact a5 ⟨b1, b2⟩ | exact a5 ⟨b2, b3⟩ | exact a5 ⟨b3, b4⟩ | exact a5 ⟨b4, b5⟩ | exact a5 ⟨b5, b6⟩ | exact a5 ⟨b6, b7⟩ | exact a5 ⟨b7, b8⟩ | exact a5 ⟨b1, b2, b3, b4⟩ | exact a5 ⟨b2, b3, b4, b5⟩ | exact a5 ⟨b3, b4, b5, b6⟩ | exact a5 ⟨b4, b5, b6, b7⟩ | exact a5 ⟨b5, b6, b7, b8⟩))) (fun w2 b1 mx => by (exfalso; first | omega | (first | omega | exact b1 _ _ a1 a2 a3 a4))) (fun w2 p_2 j_2 b1 b2 b3 b4 b5 mx => ?_)
    have e_p_2 : p_2 = p := (by omega)
    subst e_p_2
    have e_j_2 : j_2 = j := (by omega)
    subst e_j_2
    refine Go_ist7 dL_law_499 rfl ?_
    refine Go_ald2 dL_law_501 ?_
    refine Go_cV0 (d' := 0) (bc' := 0) (bs' := 0) rfl dL_law_502 mvX12_thrown rfl lkL_118 (by first | assumption | rfl) rfl trivial (by decide) (by omega) (by omega) (Nat.le_of_ble_eq_true rfl) ?_
    refine e_X12_thrown ?_
    rw [mx.2.1]
    refine Go_ild6 dL_law_505 ?_
    refine Go_icmp_eq (tgt := 512) dL_law_507 (by decide) (by constructor <;> omega) (by constructor <;> omega) (fun h507 => ?_) (fun h507 => by omega)
    refine Go_ild6 dL_law_512 ?_
    refine Go_if_ne (tgt := 529) dL_law_514 (by decide) (by constructor <;> omega) (fun h514 => ?_) (fun h514 => by omega)
    refine Go_goto (tgt := 2106) dL_law_529 (by decide) ?_
    exact Go_more (by omega) (by omega) (Go_forget (by repeat' (first | exact Or.inl rfl | exact Or.inr rfl | exact Or.inr (lcg (by omega)) | exact trivial | constructor)) (kn w2 _ _ _ _ (c2.frm mx.2.2 (by decide +kernel)) mx.1))
  refine Go_ald1 dL_law_452 ?_
  refine Go_ald0 dL_law_453 ?_
  refine Go_ild5 dL_law_454 ?_
  refine Go_iconst dL_law_456 ?_
  refine Go_iadd dL_law_457 ?_
  refine Go_xld (j := i + 1) dL_law_458 (by omega) (by omega) hL ?_
  refine Go_ald0 dL_law_459 ?_
  refine Go_ild5 dL_law_460 ?_
  refine Go_iconst dL_law_462 ?_
  refine Go_iadd dL_law_463 ?_
  refine Go_xld (j := i + 2) dL_law_464 (by omega) (by omega) hL ?_
  refine Go_ald0 dL_law_465 ?_
  refine Go_ild5 dL_law_466 ?_
  refine Go_iconst dL_law_468 ?_
  refine Go_iadd dL_law_469 ?_
  refine Go_xld (j := i + 3) dL_law_470 (by omega) (by omega) hL ?_
  refine Go_ald3 dL_law_471 ?_
  refine Go_cSW (d' := 9) (bc' := 3) (bs' := 18) (as := [vr 1, vi (sx G (i + 1)), vi (sx G (i + 2)), vi (sx G (i + 3)), vr 84]) rfl dL_law_472 msL_turn rfl lkL_131 rfl rfl (Nat.le_of_ble_eq_true rfl) (by decide) (by omega) (by omega) ?_
  refine e_L_turn h (sx_in G _) (sx_in G _) (sx_in G _) q_kt q_kf q_x1 q_x3
theorem l_law_reverse (hi : i + 4 ≤ GL G) (hL : GL G < 2147483648) (h : CI w s sv g tx) (hm : MInv w s sv g tx) (kn : ∀ v s sv g tx, CI v s sv g tx → MInv v s sv g tx → Go G cL_law (mL_law tb) none 18 bn sn 2106 [some (vr 1000), some (vr 1), some (vr 68), some (vr 84), some (vr 85), some (vi (i : Int)), none, none, none, none] [] v K X) : Go G cL_law (mL_law tb) none 18 (bn + 8) (sn + 48) 532 [some (vr 1000), some (vr 1), some (vr 68), some (vr 84), some (vr 85), some (vi (i : Int)), none, none, none, none] [] w K X := by
  have q_k : ∀ w' (p : Nat), (sx G (i + 1)) = p → p < s.1.length → CI w' ((s.1.set p (pth s.1 p).reverse, s.2.1, s.2.2.1, s.2.2.2)) (pushS sv s) g tx → frm w w' ccs → Go G cL_law (mL_law tb) none 18 (bn + 8 - 1) (sn + 48 - 6) 543 [some (vr 1000), some (vr 1), some (vr 68), some (vr 84), some (vr 85), some (vi (i : Int)), none, none, none, none] [vi 0] (up w' 84 0 (nz (hdL (pth s.1 p).reverse))) K X := fun w1 p a1 a2 c1 fr1 => by
    have hm1 : MInv (up w1 84 0 (nz (hdL (pth s.1 p).reverse))) s sv g tx := (hm.out fr1 (by decide +kernel)).out (A := [84]) (frm.rfl.up (by simp)) (by decide)
    have c2 : CI (up w1 84 0 (nz (hdL (pth s.1 p).reverse))) _ _ _ _ := c1.frm (A := [84]) (frm.rfl.up (by simp)) (by decide)
    refine Go_ist6 dL_law_543 rfl ?_
    refine Go_ald2 dL_law_545 ?_
    refine Go_ald0 dL_law_546 ?_
    refine Go_ild5 dL_law_547 ?_
    refine Go_iconst dL_law_549 ?_
    refine Go_iadd dL_law_550 ?_
    refine Go_xld (j := i + 1) dL_law_551 (by omega) (by omega) hL ?_
    refine Go_cV1 (d' := 2) (bc' := 0) (bs' := 0) rfl dL_law_552 mvX12_reverse rfl lkL_137 (by first | assumption | rfl) rfl trivial (by decide) (by omega) (by omega) (Nat.le_of_ble_eq_true rfl) ?_
    refine e_X12_reverse hm1 (sx_in G _) (fun w2 p_2 b1 b2 mx => ?_) (fun w2 b1 mx => by (exfalso; first | omega | (first | omega | exact b1 ⟨a1, a2⟩)))
    have e_p_2 : p_2 = p := (by omega)
    subst e_p_2
    refine Go_ist7 dL_law_555 rfl ?_
    refine Go_ald2 dL_law_557 ?_
    refine Go_cV0 (d' := 0) (bc' := 0) (bs' := 0) rfl dL_law_558 mvX12_thrown rfl lkL_118 (by first | assumption | rfl) rfl trivial (by decide) (by omega) (by omega) (Nat.le_of_ble_eq_true rfl) ?_
    refine e_X12_thrown ?_
    rw [mx.2.1]
    refine Go_ild6 dL_law_561 ?_
    refine Go_icmp_eq (tgt := 568) dL_law_563 (by decide) (by constructor <;> omega) (by constructor <;> omega) (fun h563 => ?_) (fun h563 => by omega)
    refine Go_ild6 dL_law_568 ?_
    refine Go_if_ne (tgt := 585) dL_law_570 (by decide) (by constructor <;> omega) (fun h570 => by omega) (fun h570 => ?_)
    refine Go_ald3 dL_law_573 ?_
    refine Go_iconst dL_law_574 ?_
    refine Go_lald dL_law_575 (by first | assumption | rfl) trivial (by omega) (by omega) (by decide) ?_
    rw [show (0 : Int).toNat = 0 from rfl, mx.2.2.at (by decide), up_s]
    refine Go_ild7 dL_law_576 ?_
    refine Go_i2lN dL_law_578 ?_
    refine Go_lcmp_same dL_law_579 ?_
    refine Go_if_eq (tgt := 585) dL_law_580 (by decide) (by constructor <;> omega) (fun h580 => ?_) (fun h580 => by omega)
    refine Go_goto (tgt := 2106) dL_law_585 (by decide) ?_
    exact Go_more (by omega) (by omega) (Go_forget (by repeat' (first | exact Or.inl rfl | exact Or.inr rfl | exact Or.inr (lcg (by omega)) | exact trivial | constructor)) (kn w2 _ _ _ _ (c2.frm mx.2.2 (by decide +kernel)) mx.1))
  have q_x1 : ¬ (0 ≤ (sx G (i + 1)) ∧ (sx G (i + 1)) < s.1.length) → Go G cL_law (mL_law tb) none 18 (bn + 8 - 1) (sn + 48 - 6) 543 [some (vr 1000), some (vr 1), some (vr 68), some (vr 84), some (vr 85), some (vi (i : Int)), none, none, none, none] [vi 1] (w) K X := fun a1 => by
    have c1 := h
    have hm1 := hm
    have c2 := c1
    refine Go_ist6 dL_law_543 rfl ?_
    refine Go_ald2 dL_law_545 ?_
    refine Go_ald0 dL_law_546 ?_
    refine Go_ild5 dL_law_547 ?_
    refine Go_iconst dL_law_549 ?_
    refine Go_iadd dL_law_550 ?_
    refine Go_xld (j := i + 1) dL_law_551 (by omega) (by omega) hL ?_
    refine Go_cV1 (d' := 2) (bc' := 0) (bs' := 0) rfl dL_law_552 mvX12_reverse rfl lkL_137 (by first | assumption | rfl) rfl trivial (by decide) (by omega) (by omega) (Nat.le_of_ble_eq_true rfl) ?_
    refine e_X12_reverse hm1 (sx_in G _) (fun w2 p_2 b1 b2 mx => by (exfalso; first | omega | (first | omega | exact a1 ⟨b1, b2⟩))) (fun w2 b1 mx => ?_)
    refine Go_ist7 dL_law_555 rfl ?_
    refine Go_ald2 dL_law_557 ?_
    refine Go_cV0 (d' := 0) (bc' := 0) (bs' := 0) rfl dL_law_558 mvX12_thrown rfl lkL_118 (by first | assumption | rfl) rfl trivial (by decide) (by omega) (by omega) (Nat.le_of_ble_eq_true rfl) ?_
    refine e_X12_thrown ?_
    rw [mx.2.1]
    refine Go_ild6 dL_law_561 ?_
    refine Go_icmp_eq (tgt := 568) dL_law_563 (by decide) (by constructor <;> omega) (by constructor <;> omega) (fun h563 => ?_) (fun h563 => by omega)
    refine Go_ild6 dL_law_568 ?_
    refine Go_if_ne (tgt := 585) dL_law_570 (by decide) (by constructor <;> omega) (fun h570 => ?_) (fun h570 => by omega)
    refine Go_goto (tgt := 2106) dL_law_585 (by decide) ?_
    exact Go_more (by omega) (by omega) (Go_forget (by repeat' (first | exact Or.inl rfl | exact Or.inr rfl | exact Or.inr (lcg (by omega)) | exact trivial | constructor)) (kn w2 _ _ _ _ (c2.frm mx.2.2 (by decide +kernel)) mx.1))
  refine Go_ald1 dL_law_532 ?_
  refine Go_ald0 dL_law_533 ?_
  refine Go_ild5 dL_law_534 ?_
  refine Go_iconst dL_law_536 ?_
  refine Go_iadd dL_law_537 ?_
  refine Go_xld (j := i + 1) dL_law_538 (by omega) (by omega) hL ?_
  refine Go_ald3 dL_law_539 ?_
  refine Go_cSW (d' := 8) (bc' := 1) (bs' := 6) (as := [vr 1, vi (sx G (i + 1)), vr 84]) rfl dL_law_540 msL_reverse rfl lkL_135 rfl rfl (Nat.le_of_ble_eq_true rfl) (by decide) (by omega) (by omega) ?_
  refine e_L_reverse h (sx_in G _) q_k q_x1
theorem l_law_join (hi : i + 4 ≤ GL G) (hL : GL G < 2147483648) (h : CI w s sv g tx) (hm : MInv w s sv g tx) (kn : ∀ v s sv g tx, CI v s sv g tx → MInv v s sv g tx → Go G cL_law (mL_law tb) none 18 bn sn 2106 [some (vr 1000), some (vr 1), some (vr 68), some (vr 84), some (vr 85), some (vi (i : Int)), none, none, none, none] [] v K X) : Go G cL_law (mL_law tb) none 18 (bn + 8) (sn + 48) 588 [some (vr 1000), some (vr 1), some (vr 68), some (vr 84), some (vr 85), some (vi (i : Int)), none, none, none, none] [] w K X := by
  have q_k : ∀ w' (p o : Nat), (sx G (i + 1)) = p → p < s.1.length → (sx G (i + 2)) = o → o < s.1.length → p ≠ o → nbr (hdL (pth s.1 p)) (hdL (pth s.1 o)) → (pth s.1 p).length + (pth s.1 o).length ≤ 60 → CI w' (weldP s.1 p o, s.2.1, s.2.2.1, s.2.2.2) (pushS sv s) g tx → frm w w' ccs → Go G cL_law (mL_law tb) none 18 (bn + 8 - 4) (sn + 48 - 24) 605 [some (vr 1000), some (vr 1), some (vr 68), some (vr 84), some (vr 85), some (vi (i : Int)), none, none, none, none] [vi 0] (up w' 84 0 (nz (((pth s.1 p).length : Int) + (pth s.1 o).length))) K X := fun w1 p o a1 a2 a3 a4 a5 a6 a7 c1 fr1 => by
    have hm1 : MInv (up w1 84 0 (nz (((pth s.1 p).length : Int) + (pth s.1 o).length))) s sv g tx := (hm.out fr1 (by decide +kernel)).out (A := [84]) (frm.rfl.up (by simp)) (by decide)
    have c2 : CI (up w1 84 0 (nz (((pth s.1 p).length : Int) + (pth s.1 o).length))) _ _ _ _ := c1.frm (A := [84]) (frm.rfl.up (by simp)) (by decide)
    refine Go_ist6 dL_law_605 rfl ?_
    refine Go_ald2 dL_law_607 ?_
    refine Go_ald0 dL_law_608 ?_
    refine Go_ild5 dL_law_609 ?_
    refine Go_iconst dL_law_611 ?_
    refine Go_iadd dL_law_612 ?_
    refine Go_xld (j := i + 1) dL_law_613 (by omega) (by omega) hL ?_
    refine Go_ald0 dL_law_614 ?_
    refine Go_ild5 dL_law_615 ?_
    refine Go_iconst dL_law_617 ?_
    refine Go_iadd dL_law_618 ?_
    refine Go_xld (j := i + 2) dL_law_619 (by omega) (by omega) hL ?_
    refine Go_cV2 (d' := 3) (bc' := 0) (bs' := 0) rfl dL_law_620 mvX12_join rfl lkL_140 (by first | assumption | rfl) rfl trivial (by decide) (by omega) (by omega) (Nat.le_of_ble_eq_true rfl) ?_
    refine e_X12_join hm1 (sx_in G _) (sx_in G _) (fun w2 p_2 o_2 b1 b2 b3 b4 b5 b6 b7 mx => ?_) (fun w2 b1 mx => by (exfalso; first | omega | (first | omega | exact b1 ⟨a1, a2⟩ | exact b1 ⟨a2, a3⟩ | exact b1 ⟨a3, a4⟩ | exact b1 ⟨a4, a5⟩ | exact b1 ⟨a5, a6⟩ | exact b1 ⟨a6, a7⟩))) (fun w2 b1 b2 b3 mx => by (exfalso; first | omega | (first | omega))) (fun w2 p_2 o_2 b1 b2 b3 b4 b5 b6 mx => by (exfalso; first | omega | (have e_p_2 : p_2 = p := (by omega); subst e_p_2; have e_o_2 : o_2 = o := (by omega); subst e_o_2; first | omega | exact b6 ⟨a1, a2⟩ | exact b6 ⟨a2, a3⟩ | exact b6 ⟨a3, a4⟩ | exact b6 ⟨a4, a5⟩ | exact b6 ⟨a5, a6⟩ | exact b6 ⟨a6, a7⟩)))
    have e_p_2 : p_2 = p := (by omega)
    subst e_p_2
    have e_o_2 : o_2 = o := (by omega)
    subst e_o_2
    refine Go_ist7 dL_law_623 rfl ?_
    refine Go_ald2 dL_law_625 ?_
    refine Go_cV0 (d' := 0) (bc' := 0) (bs' := 0) rfl dL_law_626 mvX12_thrown rfl lkL_118 (by first | assumption | rfl) rfl trivial (by decide) (by omega) (by omega) (Nat.le_of_ble_eq_true rfl) ?_
    refine e_X12_thrown ?_
    rw [mx.2.1]
    refine Go_ild6 dL_law_629 ?_
    refine Go_icmp_eq (tgt := 636) dL_law_631 (by decide) (by constructor <;> omega) (by constructor <;> omega) (fun h631 => ?_) (fun h631 => by omega)
    refine Go_ild6 dL_law_636 ?_
    refine Go_if_ne (tgt := 653) dL_law_638 (by decide) (by constructor <;> omega) (fun h638 => by omega) (fun h638 => ?_)
    refine Go_ald3 dL_law_641 ?_
    refine Go_iconst dL_law_642 ?_
    refine Go_lald dL_law_643 (by first | assumption | rfl) trivial (by omega) (by omega) (by decide) ?_
    rw [show (0 : Int).toNat = 0 from rfl, mx.2.2.at (by decide), up_s]
    refine Go_ild7 dL_law_644 ?_
    refine Go_i2lN dL_law_646 ?_
    refine Go_lcmp_same dL_law_647 ?_
    refine Go_if_eq (tgt := 653) dL_law_648 (by decide) (by constructor <;> omega) (fun h648 => ?_) (fun h648 => by omega)
    refine Go_goto (tgt := 2106) dL_law_653 (by decide) ?_
    exact Go_more (by omega) (by omega) (Go_forget (by repeat' (first | exact Or.inl rfl | exact Or.inr rfl | exact Or.inr (lcg (by omega)) | exact trivial | constructor)) (kn w2 _ _ _ _ (c2.frm mx.2.2 (by decide +kernel)) mx.1))
  have q_x1 : ¬ (0 ≤ (sx G (i + 1)) ∧ (sx G (i + 1)) < s.1.length ∧ 0 ≤ (sx G (i + 2)) ∧ (sx G (i + 2)) < s.1.length) → Go G cL_law (mL_law tb) none 18 (bn + 8 - 4) (sn + 48 - 24) 605 [some (vr 1000), some (vr 1), some (vr 68), some (vr 84), some (vr 85), some (vi (i : Int)), none, none, none, none] [vi 1] (w) K X := fun a1 => by
    have c1 := h
    have hm1 := hm
    have c2 := c1
    refine Go_ist6 dL_law_605 rfl ?_
    refine Go_ald2 dL_law_607 ?_
    refine Go_ald0 dL_law_608 ?_
    refine Go_ild5 dL_law_609 ?_
    refine Go_iconst dL_law_611 ?_
    refine Go_iadd dL_law_612 ?_
    refine Go_xld (j := i + 1) dL_law_613 (by omega) (by omega) hL ?_
    refine Go_ald0 dL_law_614 ?_
    refine Go_ild5 dL_law_615 ?_
    refine Go_iconst dL_law_617 ?_
    refine Go_iadd dL_law_618 ?_
    refine Go_xld (j := i + 2) dL_law_619 (by omega) (by omega) hL ?_
    refine Go_cV2 (d' := 3) (bc' := 0) (bs' := 0) rfl dL_law_620 mvX12_join rfl lkL_140 (by first | assumption | rfl) rfl trivial (by decide) (by omega) (by omega) (Nat.le_of_ble_eq_true rfl) ?_
    refine e_X12_join hm1 (sx_in G _) (sx_in G _) (fun w2 p_2 o_2 b1 b2 b3 b4 b5 b6 b7 mx => by (exfalso; first | omega | (first | omega | exact a1 ⟨b1, b2⟩ | exact a1 ⟨b2, b3⟩ | exact a1 ⟨b3, b4⟩ | exact a1 ⟨b4, b5⟩ | exact a1 ⟨b5, b6⟩ | exact a1 ⟨b6, b7⟩ | exact a1 ⟨b1, b2, b3, b4⟩ | exact a1 ⟨b2, b3, b4, b5⟩ | exact a1 ⟨b3, b4, b5, b6⟩ | exact a1 ⟨b4, b5, b6, b7⟩))) (fun w2 b1 mx => ?_) (fun w2 b1 b2 b3 mx => by (exfalso; first | omega | (first | omega | exact a1 ⟨b1, b2⟩ | exact a1 ⟨b2, b3⟩))) (fun w2 p_2 o_2 b1 b2 b3 b4 b5 b6 mx => by (exfalso; first | omega | (first | omega | exact a1 ⟨b1, b2⟩ | exact a1 ⟨b2, b3⟩ | exact a1 ⟨b3, b4⟩ | exact a1 ⟨b4, b5⟩ | exact a1 ⟨b5, b6⟩ | exact a1 ⟨b1, b2, b3, b4⟩ | exact a1 ⟨b2, b3, b4, b5⟩ | exact a1 ⟨b3, b4, b5, b6⟩)))
    refine Go_ist7 dL_law_623 rfl ?_
    refine Go_ald2 dL_law_625 ?_
    refine Go_cV0 (d' := 0) (bc' := 0) (bs' := 0) rfl dL_law_626 mvX12_thrown rfl lkL_118 (by first | assumption | rfl) rfl trivial (by decide) (by omega) (by omega) (Nat.le_of_ble_eq_true rfl) ?_
    refine e_X12_thrown ?_
    rw [mx.2.1]
    refine Go_ild6 dL_law_629 ?_
    refine Go_icmp_eq (tgt := 636) dL_law_631 (by decide) (by constructor <;> omega) (by constructor <;> omega) (fun h631 => ?_) (fun h631 => by omega)
    refine Go_ild6 dL_law_636 ?_
    refine Go_if_ne (tgt := 653) dL_law_638 (by decide) (by constructor <;> omega) (fun h638 => ?_) (fun h638 => by omega)
    refine Go_goto (tgt := 2106) dL_law_653 (by decide) ?_
    exact Go_more (by omega) (by omega) (Go_forget (by repeat' (first | exact Or.inl rfl | exact Or.inr rfl | exact Or.inr (lcg (by omega)) | exact trivial | constructor)) (kn w2 _ _ _ _ (c2.frm mx.2.2 (by decide +kernel)) mx.1))
  have q_x3 : 0 ≤ (sx G (i + 1)) → (sx G (i + 1)) < s.1.length → (sx G (i + 1)) = (sx G (i + 2)) → Go G cL_law (mL_law tb) none 18 (bn + 8 - 4) (sn + 48 - 24) 605 [some (vr 1000), some (vr 1), some (vr 68), some (vr 84), some (vr 85), some (vi (i : Int)), none, none, none, none] [vi 2] (w) K X := fun a1 a2 a3 => by
    have c1 := h
    have hm1 := hm
    have c2 := c1
    refine Go_ist6 dL_law_605 rfl ?_
    refine Go_ald2 dL_law_607 ?_
    refine Go_ald0 dL_law_608 ?_
    refine Go_ild5 dL_law_609 ?_
    refine Go_iconst dL_law_611 ?_
    refine Go_iadd dL_law_612 ?_
    refine Go_xld (j := i + 1) dL_law_613 (by omega) (by omega) hL ?_
    refine Go_ald0 dL_law_614 ?_
    refine Go_ild5 dL_law_615 ?_
    refine Go_iconst dL_law_617 ?_
    refine Go_iadd dL_law_618 ?_
    refine Go_xld (j := i + 2) dL_law_619 (by omega) (by omega) hL ?_
    refine Go_cV2 (d' := 3) (bc' := 0) (bs' := 0) rfl dL_law_620 mvX12_join rfl lkL_140 (by first | assumption | rfl) rfl trivial (by decide) (by omega) (by omega) (Nat.le_of_ble_eq_true rfl) ?_
    refine e_X12_join hm1 (sx_in G _) (sx_in G _) (fun w2 p_2 o_2 b1 b2 b3 b4 b5 b6 b7 mx => by (exfalso; first | omega | (first | omega))) (fun w2 b1 mx => by (exfalso; first | omega | (first | omega | exact b1 ⟨a1, a2⟩ | exact b1 ⟨a2, a3⟩))) (fun w2 b1 b2 b3 mx => ?_) (fun w2 p_2 o_2 b1 b2 b3 b4 b5 b6 mx => by (exfalso; first | omega | (first | omega | exact b6 ⟨a1, a2⟩ | exact b6 ⟨a2, a3⟩)))
    refine Go_ist7 dL_law_623 rfl ?_
    refine Go_ald2 dL_law_625 ?_
    refine Go_cV0 (d' := 0) (bc' := 0) (bs' := 0) rfl dL_law_626 mvX12_thrown rfl lkL_118 (by first | assumption | rfl) rfl trivial (by decide) (by omega) (by omega) (Nat.le_of_ble_eq_true rfl) ?_
    refine e_X12_thrown ?_
    rw [mx.2.1]
    refine Go_ild6 dL_law_629 ?_
    refine Go_icmp_eq (tgt := 636) dL_law_631 (by decide) (by constructor <;> omega) (by constructor <;> omega) (fun h631 => ?_) (fun h631 => by omega)
    refine Go_ild6 dL_law_636 ?_
    refine Go_if_ne (tgt := 653) dL_law_638 (by decide) (by constructor <;> omega) (fun h638 => ?_) (fun h638 => by omega)
    refine Go_goto (tgt := 2106) dL_law_653 (by decide) ?_
    exact Go_more (by omega) (by omega) (Go_forget (by repeat' (first | exact Or.inl rfl | exact Or.inr rfl | exact Or.inr (lcg (by omega)) | exact trivial | constructor)) (kn w2 _ _ _ _ (c2.frm mx.2.2 (by decide +kernel)) mx.1))
  have q_x2 : ∀ p o : Nat, (sx G (i + 1)) = p → p < s.1.length → (sx G (i + 2)) = o → o < s.1.length → p ≠ o → ¬ (nbr (hdL (pth s.1 p)) (hdL (pth s.1 o)) ∧ (pth s.1 p).length + (pth s.1 o).length ≤ 60) → Go G cL_law (mL_law tb) none 18 (bn + 8 - 4) (sn + 48 - 24) 605 [some (vr 1000), some (vr 1), some (vr 68), some (vr 84), some (vr 85), some (vi (i : Int)), none, none, none, none] [vi 3] (w) K X := fun p o a1 a2 a3 a4 a5 a6 => by
    have c1 := h
    have hm1 := hm
    have c2 := c1
    refine Go_ist6 dL_law_605 rfl ?_
    refine Go_ald2 dL_law_607 ?_
    refine Go_ald0 dL_law_608 ?_
    refine Go_ild5 dL_law_609 ?_
    refine Go_iconst dL_law_611 ?_
    refine Go_iadd dL_law_612 ?_
    refine Go_xld (j := i + 1) dL_law_613 (by omega) (by omega) hL ?_
    refine Go_ald0 dL_law_614 ?_
    refine Go_ild5 dL_law_615 ?_
    refine Go_iconst dL_law_617 ?_
    refine Go_iadd dL_law_618 ?_
    refine Go_xld (j := i + 2) dL_law_619 (by omega) (by omega) hL ?_
    refine Go_cV2 (d' := 3) (bc' := 0) (bs' := 0) rfl dL_law_620 mvX12_join rfl lkL_140 (by first | assumption | rfl) rfl trivial (by decide) (by omega) (by omega) (Nat.le_of_ble_eq_true rfl) ?_
    refine e_X12_join hm1 (sx_in G _) (sx_in G _) (fun w2 p_2 o_2 b1 b2 b3 b4 b5 b6 b7 mx => by (exfalso; first | omega | (have e_p_2 : p_2 = p := (by omega); subst e_p_2; have e_o_2 : o_2 = o := (by omega); subst e_o_2; first | omega | exact a6 ⟨b1, b2⟩ | exact a6 ⟨b2, b3⟩ | exact a6 ⟨b3, b4⟩ | exact a6 ⟨b4, b5⟩ | exact a6 ⟨b5, b6⟩ | exact a6 ⟨b6, b7⟩ | exact a6 ⟨b1, b2, b3, b4⟩ | exact a6 ⟨b2, b3, b4, b5⟩ | exact a6 ⟨b3, b4, b5, b6⟩ | exact a6 ⟨b4, b5, b6, b7⟩))) (fun w2 b1 mx => by (exfalso; first | omega | (first | omega | exact b1 ⟨a1, a2⟩ | exact b1 ⟨a2, a3⟩ | exact b1 ⟨a3, a4⟩ | exact b1 ⟨a4, a5⟩ | exact b1 ⟨a5, a6⟩))) (fun w2 b1 b2 b3 mx => by (exfalso; first | omega | (first | omega | exact a6 ⟨b1, b2⟩ | exact a6 ⟨b2, b3⟩))) (fun w2 p_2 o_2 b1 b2 b3 b4 b5 b6 mx => ?_)
    have e_p_2 : p_2 = p := (by omega)
    subst e_p_2
    have e_o_2 : o_2 = o := (by omega)
    subst e_o_2
    refine Go_ist7 dL_law_623 rfl ?_
    refine Go_ald2 dL_law_625 ?_
    refine Go_cV0 (d' := 0) (bc' := 0) (bs' := 0) rfl dL_law_626 mvX12_thrown rfl lkL_118 (by first | assumption | rfl) rfl trivial (by decide) (by omega) (by omega) (Nat.le_of_ble_eq_true rfl) ?_
    refine e_X12_thrown ?_
    rw [mx.2.1]
    refine Go_ild6 dL_law_629 ?_
    refine Go_icmp_eq (tgt := 636) dL_law_631 (by decide) (by constructor <;> omega) (by constructor <;> omega) (fun h631 => ?_) (fun h631 => by omega)
    refine Go_ild6 dL_law_636 ?_
    refine Go_if_ne (tgt := 653) dL_law_638 (by decide) (by constructor <;> omega) (fun h638 => ?_) (fun h638 => by omega)
    refine Go_goto (tgt := 2106) dL_law_653 (by decide) ?_
    exact Go_more (by omega) (by omega) (Go_forget (by repeat' (first | exact Or.inl rfl | exact Or.inr rfl | exact Or.inr (lcg (by omega)) | exact trivial | constructor)) (kn w2 _ _ _ _ (c2.frm mx.2.2 (by decide +kernel)) mx.1))
  refine Go_ald1 dL_law_588 ?_
  refine Go_ald0 dL_law_589 ?_
  refine Go_ild5 dL_law_590 ?_
  refine Go_iconst dL_law_592 ?_
  refine Go_iadd dL_law_593 ?_
  refine Go_xld (j := i + 1) dL_law_594 (by omega) (by omega) hL ?_
  refine Go_ald0 dL_law_595 ?_
  refine Go_ild5 dL_law_596 ?_
  refine Go_iconst dL_law_598 ?_
  refine Go_iadd dL_law_599 ?_
  refine Go_xld (j := i + 2) dL_law_600 (by omega) (by omega) hL ?_
  refine Go_ald3 dL_law_601 ?_
  refine Go_cSW (d' := 9) (bc' := 4) (bs' := 24) (as := [vr 1, vi (sx G (i + 1)), vi (sx G (i + 2)), vr 84]) rfl dL_law_602 msL_join rfl lkL_138 rfl rfl (Nat.le_of_ble_eq_true rfl) (by decide) (by omega) (by omega) ?_
  refine e_L_join h (sx_in G _) (sx_in G _) q_k q_x1 q_x3 q_x2
theorem l_law_split (hi : i + 4 ≤ GL G) (hL : GL G < 2147483648) (h : CI w s sv g tx) (hm : MInv w s sv g tx) (kn : ∀ v s sv g tx, CI v s sv g tx → MInv v s sv g tx → Go G cL_law (mL_law tb) none 18 bn sn 2106 [some (vr 1000), some (vr 1), some (vr 68), some (vr 84), some (vr 85), some (vi (i : Int)), none, none, none, none] [] v K X) : Go G cL_law (mL_law tb) none 18 (bn + 8) (sn + 48) 656 [some (vr 1000), some (vr 1), some (vr 68), some (vr 84), some (vr 85), some (vi (i : Int)), none, none, none, none] [] w K X := by
  have q_k : ∀ w' (p j : Nat), (sx G (i + 1)) = p → p < s.1.length → (sx G (i + 2)) = j → j + 1 < (pth s.1 p).length → s.1.length < 5 → CI w' (s.1.set p ((pth s.1 p).take (j + 1)) ++ [(pth s.1 p).drop (j + 1)], s.2.1, s.2.2.1, s.2.2.2) (pushS sv s) g tx → frm w w' ccs → Go G cL_law (mL_law tb) none 18 (bn + 8 - 3) (sn + 48 - 18) 673 [some (vr 1000), some (vr 1), some (vr 68), some (vr 84), some (vr 85), some (vi (i : Int)), none, none, none, none] [vi 0] (up w' 84 0 (nz s.1.length)) K X := fun w1 p j a1 a2 a3 a4 a5 c1 fr1 => by
    have hm1 : MInv (up w1 84 0 (nz s.1.length)) s sv g tx := (hm.out fr1 (by decide +kernel)).out (A := [84]) (frm.rfl.up (by simp)) (by decide)
    have c2 : CI (up w1 84 0 (nz s.1.length)) _ _ _ _ := c1.frm (A := [84]) (frm.rfl.up (by simp)) (by decide)
    refine Go_ist6 dL_law_673 rfl ?_
    refine Go_ald2 dL_law_675 ?_
    refine Go_ald0 dL_law_676 ?_
    refine Go_ild5 dL_law_677 ?_
    refine Go_iconst dL_law_679 ?_
    refine Go_iadd dL_law_680 ?_
    refine Go_xld (j := i + 1) dL_law_681 (by omega) (by omega) hL ?_
    refine Go_ald0 dL_law_682 ?_
    refine Go_ild5 dL_law_683 ?_
    refine Go_iconst dL_law_685 ?_
    refine Go_iadd dL_law_686 ?_
    refine Go_xld (j := i + 2) dL_law_687 (by omega) (by omega) hL ?_
    refine Go_cV2 (d' := 3) (bc' := 0) (bs' := 0) rfl dL_law_688 mvX12_split rfl lkL_143 (by first | assumption | rfl) rfl trivial (by decide) (by omega) (by omega) (Nat.le_of_ble_eq_true rfl) ?_
    refine e_X12_split hm1 (sx_in G _) (sx_in G _) (fun w2 p_2 j_2 b1 b2 b3 b4 b5 mx => ?_) (fun w2 b1 mx => by (exfalso; first | omega | (first | omega | exact b1 _ _ a1 a2 a3 a4))) (fun w2 p_2 j_2 b1 b2 b3 b4 b5 mx => by (exfalso; first | omega | (have e_p_2 : p_2 = p := (by omega); subst e_p_2; have e_j_2 : j_2 = j := (by omega); subst e_j_2; first | omega)))
    have e_p_2 : p_2 = p := (by omega)
    subst e_p_2
    have e_j_2 : j_2 = j := (by omega)
    subst e_j_2
    refine Go_ist7 dL_law_691 rfl ?_
    refine Go_ald2 dL_law_693 ?_
    refine Go_cV0 (d' := 0) (bc' := 0) (bs' := 0) rfl dL_law_694 mvX12_thrown rfl lkL_118 (by first | assumption | rfl) rfl trivial (by decide) (by omega) (by omega) (Nat.le_of_ble_eq_true rfl) ?_
    refine e_X12_thrown ?_
    rw [mx.2.1]
    refine Go_ild6 dL_law_697 ?_
    refine Go_icmp_eq (tgt := 704) dL_law_699 (by decide) (by constructor <;> omega) (by constructor <;> omega) (fun h699 => ?_) (fun h699 => by omega)
    refine Go_ild6 dL_law_704 ?_
    refine Go_if_ne (tgt := 721) dL_law_706 (by decide) (by constructor <;> omega) (fun h706 => by omega) (fun h706 => ?_)
    refine Go_ald3 dL_law_709 ?_
    refine Go_iconst dL_law_710 ?_
    refine Go_lald dL_law_711 (by first | assumption | rfl) trivial (by omega) (by omega) (by decide) ?_
    rw [show (0 : Int).toNat = 0 from rfl, mx.2.2.at (by decide), up_s]
    refine Go_ild7 dL_law_712 ?_
    refine Go_i2lN dL_law_714 ?_
    refine Go_lcmp_same dL_law_715 ?_
    refine Go_if_eq (tgt := 721) dL_law_716 (by decide) (by constructor <;> omega) (fun h716 => ?_) (fun h716 => by omega)
    refine Go_goto (tgt := 2106) dL_law_721 (by decide) ?_
    exact Go_more (by omega) (by omega) (Go_forget (by repeat' (first | exact Or.inl rfl | exact Or.inr rfl | exact Or.inr (lcg (by omega)) | exact trivial | constructor)) (kn w2 _ _ _ _ (c2.frm mx.2.2 (by decide +kernel)) mx.1))
  have q_x1 : (∀ p j : Nat, (sx G (i + 1)) = p → p < s.1.length → (sx G (i + 2)) = j → ¬ j + 1 < (pth s.1 p).length) → Go G cL_law (mL_law tb) none 18 (bn + 8 - 3) (sn + 48 - 18) 673 [some (vr 1000), some (vr 1), some (vr 68), some (vr 84), some (vr 85), some (vi (i : Int)), none, none, none, none] [vi 1] (w) K X := fun a1 => by
    have c1 := h
    have hm1 := hm
    have c2 := c1
    refine Go_ist6 dL_law_673 rfl ?_
    refine Go_ald2 dL_law_675 ?_
    refine Go_ald0 dL_law_676 ?_
    refine Go_ild5 dL_law_677 ?_
    refine Go_iconst dL_law_679 ?_
    refine Go_iadd dL_law_680 ?_
    refine Go_xld (j := i + 1) dL_law_681 (by omega) (by omega) hL ?_
    refine Go_ald0 dL_law_682 ?_
    refine Go_ild5 dL_law_683 ?_
    refine Go_iconst dL_law_685 ?_
    refine Go_iadd dL_law_686 ?_
    refine Go_xld (j := i + 2) dL_law_687 (by omega) (by omega) hL ?_
    refine Go_cV2 (d' := 3) (bc' := 0) (bs' := 0) rfl dL_law_688 mvX12_split rfl lkL_143 (by first | assumption | rfl) rfl trivial (by decide) (by omega) (by omega) (Nat.le_of_ble_eq_true rfl) ?_
    refine e_X12_split hm1 (sx_in G _) (sx_in G _) (fun w2 p_2 j_2 b1 b2 b3 b4 b5 mx => by (exfalso; first | omega | (first | omega | exact a1 _ _ b1 b2 b3 b4))) (fun w2 b1 mx => ?_) (fun w2 p_2 j_2 b1 b2 b3 b4 b5 mx => by (exfalso; first | omega | (first | omega | exact a1 _ _ b1 b2 b3 b4)))
    refine Go_ist7 dL_law_691 rfl ?_
    refine Go_ald2 dL_law_693 ?_
    refine Go_cV0 (d' := 0) (bc' := 0) (bs' := 0) rfl dL_law_694 mvX12_thrown rfl lkL_118 (by first | assumption | rfl) rfl trivial (by decide) (by omega) (by omega) (Nat.le_of_ble_eq_true rfl) ?_
    refine e_X12_thrown ?_
    rw [mx.2.1]
    refine Go_ild6 dL_law_697 ?_
    refine Go_icmp_eq (tgt := 704) dL_law_699 (by decide) (by constructor <;> omega) (by constructor <;> omega) (fun h699 => ?_) (fun h699 => by omega)
    refine Go_ild6 dL_law_704 ?_
    refine Go_if_ne (tgt := 721) dL_law_706 (by decide) (by constructor <;> omega) (fun h706 => ?_) (fun h706 => by omega)
    refine Go_goto (tgt := 2106) dL_law_721 (by decide) ?_
    exact Go_more (by omega) (by omega) (Go_forget (by repeat' (first | exact Or.inl rfl | exact Or.inr rfl | exact Or.inr (lcg (by omega)) | exact trivial | constructor)) (kn w2 _ _ _ _ (c2.frm mx.2.2 (by decide +kernel)) mx.1))
  have q_x2 : ∀ p j : Nat, (sx G (i + 1)) = p → p < s.1.length → (sx G (i + 2)) = j → j + 1 < (pth s.1 p).length → s.1.length = 5 → Go G cL_law (mL_law tb) none 18 (bn + 8 - 3) (sn + 48 - 18) 673 [some (vr 1000), some (vr 1), some (vr 68), some (vr 84), some (vr 85), some (vi (i : Int)), none, none, none, none] [vi 2] (w) K X := fun p j a1 a2 a3 a4 a5 => by
    have c1 := h
    have hm1 := hm
    have c2 := c1
    refine Go_ist6 dL_law_673 rfl ?_
    refine Go_ald2 dL_law_675 ?_
    refine Go_ald0 dL_law_676 ?_
    refine Go_ild5 dL_law_677 ?_
    refine Go_iconst dL_law_679 ?_
    refine Go_iadd dL_law_680 ?_
    refine Go_xld (j := i + 1) dL_law_681 (by omega) (by omega) hL ?_
    refine Go_ald0 dL_law_682 ?_
    refine Go_ild5 dL_law_683 ?_
    refine Go_iconst dL_law_685 ?_
    refine Go_iadd dL_law_686 ?_
    refine Go_xld (j := i + 2) dL_law_687 (by omega) (by omega) hL ?_
    refine Go_cV2 (d' := 3) (bc' := 0) (bs' := 0) rfl dL_law_688 mvX12_split rfl lkL_143 (by first | assumption | rfl) rfl trivial (by decide) (by omega) (by omega) (Nat.le_of_ble_eq_true rfl) ?_
    refine e_X12_split hm1 (sx_in G _) (sx_in G _) (fun w2 p_2 j_2 b1 b2 b3 b4 b5 mx => by (exfalso; first | omega | (have e_p_2 : p_2 = p := (by omega); subst e_p_2; have e_j_2 : j_2 = j := (by omega); subst e_j_2; first | omega))) (fun w2 b1 mx => by (exfalso; first | omega | (first | omega | exact b1 _ _ a1 a2 a3 a4))) (fun w2 p_2 j_2 b1 b2 b3 b4 b5 mx => ?_)
    have e_p_2 : p_2 = p := (by omega)
    subst e_p_2
    have e_j_2 : j_2 = j := (by omega)
    subst e_j_2
    refine Go_ist7 dL_law_691 rfl ?_
    refine Go_ald2 dL_law_693 ?_
    refine Go_cV0 (d' := 0) (bc' := 0) (bs' := 0) rfl dL_law_694 mvX12_thrown rfl lkL_118 (by first | assumption | rfl) rfl trivial (by decide) (by omega) (by omega) (Nat.le_of_ble_eq_true rfl) ?_
    refine e_X12_thrown ?_
    rw [mx.2.1]
    refine Go_ild6 dL_law_697 ?_
    refine Go_icmp_eq (tgt := 704) dL_law_699 (by decide) (by constructor <;> omega) (by constructor <;> omega) (fun h699 => ?_) (fun h699 => by omega)
    refine Go_ild6 dL_law_704 ?_
    refine Go_if_ne (tgt := 721) dL_law_706 (by decide) (by constructor <;> omega) (fun h706 => ?_) (fun h706 => by omega)
    refine Go_goto (tgt := 2106) dL_law_721 (by decide) ?_
    exact Go_more (by omega) (by omega) (Go_forget (by repeat' (first | exact Or.inl rfl | exact Or.inr rfl | exact Or.inr (lcg (by omega)) | exact trivial | constructor)) (kn w2 _ _ _ _ (c2.frm mx.2.2 (by decide +kernel)) mx.1))
  refine Go_ald1 dL_law_656 ?_
  refine Go_ald0 dL_law_657 ?_
  refine Go_ild5 dL_law_658 ?_
  refine Go_iconst dL_law_660 ?_
  refine Go_iadd dL_law_661 ?_
  refine Go_xld (j := i + 1) dL_law_662 (by omega) (by omega) hL ?_
  refine Go_ald0 dL_law_663 ?_
  refine Go_ild5 dL_law_664 ?_
  refine Go_iconst dL_law_666 ?_
  refine Go_iadd dL_law_667 ?_
  refine Go_xld (j := i + 2) dL_law_668 (by omega) (by omega) hL ?_
  refine Go_ald3 dL_law_669 ?_
  refine Go_cSW (d' := 9) (bc' := 3) (bs' := 18) (as := [vr 1, vi (sx G (i + 1)), vi (sx G (i + 2)), vr 84]) rfl dL_law_670 msL_split rfl lkL_141 rfl rfl (Nat.le_of_ble_eq_true rfl) (by decide) (by omega) (by omega) ?_
  refine e_L_split h (sx_in G _) (sx_in G _) q_k q_x1 q_x2
theorem l_law_remove (hi : i + 4 ≤ GL G) (hL : GL G < 2147483648) (h : CI w s sv g tx) (hm : MInv w s sv g tx) (kn : ∀ v s sv g tx, CI v s sv g tx → MInv v s sv g tx → Go G cL_law (mL_law tb) none 18 bn sn 2106 [some (vr 1000), some (vr 1), some (vr 68), some (vr 84), some (vr 85), some (vi (i : Int)), none, none, none, none] [] v K X) : Go G cL_law (mL_law tb) none 18 (bn + 8) (sn + 48) 724 [some (vr 1000), some (vr 1), some (vr 68), some (vr 84), some (vr 85), some (vi (i : Int)), none, none, none, none] [] w K X := by
  have q_k : ∀ w' (p : Nat), (sx G (i + 1)) = p → p < s.1.length → CI w' (s.1.eraseIdx p, s.2.1, s.2.2.1, s.2.2.2) (pushS sv s) g tx → frm w w' ccs → Go G cL_law (mL_law tb) none 18 (bn + 8 - 1) (sn + 48 - 6) 735 [some (vr 1000), some (vr 1), some (vr 68), some (vr 84), some (vr 85), some (vi (i : Int)), none, none, none, none] [vi 0] (up w' 84 0 (nz ((s.1.eraseIdx p).length))) K X := fun w1 p a1 a2 c1 fr1 => by
    have hm1 : MInv (up w1 84 0 (nz ((s.1.eraseIdx p).length))) s sv g tx := (hm.out fr1 (by decide +kernel)).out (A := [84]) (frm.rfl.up (by simp)) (by decide)
    have c2 : CI (up w1 84 0 (nz ((s.1.eraseIdx p).length))) _ _ _ _ := c1.frm (A := [84]) (frm.rfl.up (by simp)) (by decide)
    refine Go_ist6 dL_law_735 rfl ?_
    refine Go_ald2 dL_law_737 ?_
    refine Go_ald0 dL_law_738 ?_
    refine Go_ild5 dL_law_739 ?_
    refine Go_iconst dL_law_741 ?_
    refine Go_iadd dL_law_742 ?_
    refine Go_xld (j := i + 1) dL_law_743 (by omega) (by omega) hL ?_
    refine Go_cV1 (d' := 3) (bc' := 0) (bs' := 0) rfl dL_law_744 mvX12_remove rfl lkL_146 (by first | assumption | rfl) rfl trivial (by decide) (by omega) (by omega) (Nat.le_of_ble_eq_true rfl) ?_
    refine e_X12_remove hm1 (sx_in G _) (fun w2 p_2 b1 b2 mx => ?_) (fun w2 b1 mx => by (exfalso; first | omega | (first | omega | exact b1 ⟨a1, a2⟩)))
    have e_p_2 : p_2 = p := (by omega)
    subst e_p_2
    refine Go_ist7 dL_law_747 rfl ?_
    refine Go_ald2 dL_law_749 ?_
    refine Go_cV0 (d' := 0) (bc' := 0) (bs' := 0) rfl dL_law_750 mvX12_thrown rfl lkL_118 (by first | assumption | rfl) rfl trivial (by decide) (by omega) (by omega) (Nat.le_of_ble_eq_true rfl) ?_
    refine e_X12_thrown ?_
    rw [mx.2.1]
    refine Go_ild6 dL_law_753 ?_
    refine Go_icmp_eq (tgt := 760) dL_law_755 (by decide) (by constructor <;> omega) (by constructor <;> omega) (fun h755 => ?_) (fun h755 => by omega)
    refine Go_ild6 dL_law_760 ?_
    refine Go_if_ne (tgt := 777) dL_law_762 (by decide) (by constructor <;> omega) (fun h762 => by omega) (fun h762 => ?_)
    refine Go_ald3 dL_law_765 ?_
    refine Go_iconst dL_law_766 ?_
    refine Go_lald dL_law_767 (by first | assumption | rfl) trivial (by omega) (by omega) (by decide) ?_
    rw [show (0 : Int).toNat = 0 from rfl, mx.2.2.at (by decide), up_s]
    refine Go_ild7 dL_law_768 ?_
    refine Go_i2lN dL_law_770 ?_
    refine Go_lcmp_same dL_law_771 ?_
    refine Go_if_eq (tgt := 777) dL_law_772 (by decide) (by constructor <;> omega) (fun h772 => ?_) (fun h772 => by omega)
    refine Go_goto (tgt := 2106) dL_law_777 (by decide) ?_
    exact Go_more (by omega) (by omega) (Go_forget (by repeat' (first | exact Or.inl rfl | exact Or.inr rfl | exact Or.inr (lcg (by omega)) | exact trivial | constructor)) (kn w2 _ _ _ _ (c2.frm mx.2.2 (by decide +kernel)) mx.1))
  have q_x1 : ¬ (0 ≤ (sx G (i + 1)) ∧ (sx G (i + 1)) < s.1.length) → Go G cL_law (mL_law tb) none 18 (bn + 8 - 1) (sn + 48 - 6) 735 [some (vr 1000), some (vr 1), some (vr 68), some (vr 84), some (vr 85), some (vi (i : Int)), none, none, none, none] [vi 1] (w) K X := fun a1 => by
    have c1 := h
    have hm1 := hm
    have c2 := c1
    refine Go_ist6 dL_law_735 rfl ?_
    refine Go_ald2 dL_law_737 ?_
    refine Go_ald0 dL_law_738 ?_
    refine Go_ild5 dL_law_739 ?_
    refine Go_iconst dL_law_741 ?_
    refine Go_iadd dL_law_742 ?_
    refine Go_xld (j := i + 1) dL_law_743 (by omega) (by omega) hL ?_
    refine Go_cV1 (d' := 3) (bc' := 0) (bs' := 0) rfl dL_law_744 mvX12_remove rfl lkL_146 (by first | assumption | rfl) rfl trivial (by decide) (by omega) (by omega) (Nat.le_of_ble_eq_true rfl) ?_
    refine e_X12_remove hm1 (sx_in G _) (fun w2 p_2 b1 b2 mx => by (exfalso; first | omega | (first | omega | exact a1 ⟨b1, b2⟩))) (fun w2 b1 mx => ?_)
    refine Go_ist7 dL_law_747 rfl ?_
    refine Go_ald2 dL_law_749 ?_
    refine Go_cV0 (d' := 0) (bc' := 0) (bs' := 0) rfl dL_law_750 mvX12_thrown rfl lkL_118 (by first | assumption | rfl) rfl trivial (by decide) (by omega) (by omega) (Nat.le_of_ble_eq_true rfl) ?_
    refine e_X12_thrown ?_
    rw [mx.2.1]
    refine Go_ild6 dL_law_753 ?_
    refine Go_icmp_eq (tgt := 760) dL_law_755 (by decide) (by constructor <;> omega) (by constructor <;> omega) (fun h755 => ?_) (fun h755 => by omega)
    refine Go_ild6 dL_law_760 ?_
    refine Go_if_ne (tgt := 777) dL_law_762 (by decide) (by constructor <;> omega) (fun h762 => ?_) (fun h762 => by omega)
    refine Go_goto (tgt := 2106) dL_law_777 (by decide) ?_
    exact Go_more (by omega) (by omega) (Go_forget (by repeat' (first | exact Or.inl rfl | exact Or.inr rfl | exact Or.inr (lcg (by omega)) | exact trivial | constructor)) (kn w2 _ _ _ _ (c2.frm mx.2.2 (by decide +kernel)) mx.1))
  refine Go_ald1 dL_law_724 ?_
  refine Go_ald0 dL_law_725 ?_
  refine Go_ild5 dL_law_726 ?_
  refine Go_iconst dL_law_728 ?_
  refine Go_iadd dL_law_729 ?_
  refine Go_xld (j := i + 1) dL_law_730 (by omega) (by omega) hL ?_
  refine Go_ald3 dL_law_731 ?_
  refine Go_cSW (d' := 8) (bc' := 1) (bs' := 6) (as := [vr 1, vi (sx G (i + 1)), vr 84]) rfl dL_law_732 msL_remove rfl lkL_144 rfl rfl (Nat.le_of_ble_eq_true rfl) (by decide) (by omega) (by omega) ?_
  refine e_L_remove h (sx_in G _) q_k q_x1
end Law
