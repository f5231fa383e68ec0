theorem sq9 {a b : Nat} (ha : a < 100) (hb : b < 100) : 0 ≤ sqD (a : Int) (b : Int) ∧ sqD (a : Int) (b : Int) ≤ 162 := by
  have key : ∀ x : Int, -9 ≤ x → x ≤ 9 → 0 ≤ x * x ∧ x * x ≤ 81 := fun x h1 h2 => by
    have k : ∀ c : Nat, c < 19 → 0 ≤ ((c : Int) - 9) * ((c : Int) - 9) ∧ ((c : Int) - 9) * ((c : Int) - 9) ≤ 81 := by decide +kernel
    have := k (x + 9).toNat (by omega)
    rwa [show (((x + 9).toNat : Nat) : Int) - 9 = x by omega] at this
  have k1 := key ((a : Int) % 10 - (b : Int) % 10) (by omega) (by omega)
  have k2 := key ((a : Int) / 10 - (b : Int) / 10) (by omega) (by omega)
  unfold sqD
  omega
section IcmpN
variable {G : Gm} {cc : ByteArray} {mt : Mt} {nx : Option Nat} {d bc bs pc : Nat} {ls : List (Option Vl)} {st : List Vl} {w : Wd} {K : Kt} {X : Xt}
/-- two that are the same aren't two -/
theorem Go_icmpN_ne {a : Int} {off : Int} (tgt : Nat) (dec : decode cc pc = .ok (.if_icmp .ne off, 3)) (ht : (pc : Int) + off = (tgt : Int)) (kt : Go G cc mt nx d bc bs (pc + 3) ls st w K X) : Go G cc mt nx d bc bs pc ls (vi a :: vi a :: st) w K X := by
  intro p e R s m args below meth c Q H locs cells slots la C EK EX hl hw hS h1 h2
  exact lv_icmp_ne C.1 C.2.1 dec ht (fun h => absurd rfl h) (fun _ => kt p e R s m args below meth c Q H locs cells slots la C EK EX hl hw hS h1 h2)
end IcmpN
section Path
variable {G : Gm} {w : Wd} {K : Kt} {X : Xt} {s : Sta} {sv : List Sta} {g : Nat → Option Sta} {tx : List Nat}
theorem e_L_isPath {a : Nat} (h : CI w s sv g tx) (hr : RS w s) (ha : a < s.1.length) (k : K (vi 1) none w) : Ev G yL_isPath cL_isPath 17 mL_isPath none 9 80 480 [vr 1, vi (a : Int), vr 68, vr 69] w K X := by
  have ho := h.2.1
  have h5 := ho.1
  have hA := hr.1.2.2 a ha
  have hla := ho.len ha
  have hx := ho.lt a
  have hlen : w 68 (Int.toNat (a : Int)) = ((pth s.1 a).length : Int) := hA.1
  have ra : inR (a : Int) := by constructor <;> omega
  have n48 := hA.2.1
  have cb := fun j => colJ_in (l := pth s.1 a) j
  have rb := fun j => rowJ_in hx j
  refine Ev_intro msL_isPath.1 rfl (fun h => by cases h) (allc1 rfl) (Nat.le_of_ble_eq_true rfl) (Or.inl rfl) ?_
  show Go G cL_isPath mL_isPath none 9 80 480 0 [some (vr 1), some (vi (a : Int)), some (vr 68), some (vr 69), none, none, none, none, none, none, none, none, none, none, none, none, none] [] w K X
  refine Go_iconst dL_isPath_0 ?_
  refine Go_ist4 dL_isPath_1 rfl ?_
  refine Go_iconst dL_isPath_3 ?_
  refine Go_ist5 dL_isPath_4 rfl ?_
  refine Go_bipush dL_isPath_6 (by decide +kernel) ?_
  refine Go_ist6 dL_isPath_8 rfl ?_
  refine Go_iconst dL_isPath_10 ?_
  refine Go_ist7 dL_isPath_11 rfl ?_
  refine Go_bipush dL_isPath_13 (by decide +kernel) ?_
  refine Go_ist8 dL_isPath_15 rfl ?_
  refine Go_iconst dL_isPath_17 ?_
  refine Go_ist9 dL_isPath_18 rfl ?_
  refine Go_iconst dL_isPath_20 ?_
  refine Go_ist10 dL_isPath_21 rfl ?_
  refine Go_iconst dL_isPath_23 ?_
  refine Go_ist11 dL_isPath_24 rfl ?_
  refine Go_iconst dL_isPath_26 ?_
  refine Go_ist12 dL_isPath_27 rfl ?_
  refine Go_more (bc' := 30 + ((pth s.1 a).length) * 1) (bs' := 6 * (30) + ((pth s.1 a).length) * (6 * 1)) (by omega) (by omega) ?_
  refine Go_upToB (n := (pth s.1 a).length) (b := 1) (sl := 6 * 1) (L := fun i => [some (vr 1), some (vi (a : Int)), some (vr 68), some (vr 69), some (vi (smF (lkT (pth s.1 a)) i)), some (vi (lcL (pth s.1 a) i)), some (vi (mnF (colJ (pth s.1 a)) 9 i)), some (vi (mxF (colJ (pth s.1 a)) 0 i)), some (vi (mnF (rowJ (pth s.1 a)) 9 i)), some (vi (mxF (rowJ (pth s.1 a)) 0 i)), some (vi (lmL (pth s.1 a) i)), some (vi 0), some (vi (i : Int)), none, none, none, none]) (P := fun i v => v = w) (by repeat' (first | exact Or.inl rfl | exact Or.inr rfl | exact Or.inr (lcg (by omega)) | exact trivial | constructor)) (rfl) (fun i v B S hi hP kn => ?_) (fun v hP => ?_)
  · try dsimp only at hP kn
    try dsimp only
    subst hP
    have bi := hx.at i
    have b1 := mnF_in (f := colJ (pth s.1 a)) (a := 9) (lo := 0) (hi := 9) (n := i) (by omega) (fun j _ => by have := cb j; omega)
    have b2 := mxF_in (f := colJ (pth s.1 a)) (a := 0) (lo := 0) (hi := 9) (n := i) (by omega) (fun j _ => by have := cb j; omega)
    have b3 := mnF_in (f := rowJ (pth s.1 a)) (a := 9) (lo := 0) (hi := 9) (n := i) (by omega) (fun j _ => by have := rb j; omega)
    have b4 := mxF_in (f := rowJ (pth s.1 a)) (a := 0) (lo := 0) (hi := 9) (n := i) (by omega) (fun j _ => by have := rb j; omega)
    have m1 : mnF (colJ (pth s.1 a)) 9 (i + 1) = if ((pth s.1 a).getD i 0 : Int) % 10 < mnF (colJ (pth s.1 a)) 9 i then ((pth s.1 a).getD i 0 : Int) % 10 else mnF (colJ (pth s.1 a)) 9 i := rfl
    have m2 : mxF (colJ (pth s.1 a)) 0 (i + 1) = if mxF (colJ (pth s.1 a)) 0 i < ((pth s.1 a).getD i 0 : Int) % 10 then ((pth s.1 a).getD i 0 : Int) % 10 else mxF (colJ (pth s.1 a)) 0 i := rfl
    have m3 : mnF (rowJ (pth s.1 a)) 9 (i + 1) = if ((pth s.1 a).getD i 0 : Int) / 10 < mnF (rowJ (pth s.1 a)) 9 i then ((pth s.1 a).getD i 0 : Int) / 10 else mnF (rowJ (pth s.1 a)) 9 i := rfl
    have m4 : mxF (rowJ (pth s.1 a)) 0 (i + 1) = if mxF (rowJ (pth s.1 a)) 0 i < ((pth s.1 a).getD i 0 : Int) / 10 then ((pth s.1 a).getD i 0 : Int) / 10 else mxF (rowJ (pth s.1 a)) 0 i := rfl
    have k181 : ∀ z : Int, z = lkT (pth s.1 a) i → Go G cL_isPath mL_isPath none 9 (B + 1) (S + 6 * 1) 181 [some (vr 1), some (vi (a : Int)), some (vr 68), some (vr 69), some (vi (smF (lkT (pth s.1 a)) i)), some (vi (lcL (pth s.1 a) i)), some (vi (mnF (colJ (pth s.1 a)) 9 (i + 1))), some (vi (mxF (colJ (pth s.1 a)) 0 (i + 1))), some (vi (mnF (rowJ (pth s.1 a)) 9 (i + 1))), some (vi (mxF (rowJ (pth s.1 a)) 0 (i + 1))), some (vi (lmL (pth s.1 a) i)), some (vi 0), some (vi (i : Int)), some (vi ((pth s.1 a).getD i 0 : Int)), none, none, none] [vi z, vi (smF (lkT (pth s.1 a)) i)] v K X := fun z hz => by
      subst hz
      have z1 : smF (lcT (pth s.1 a) i) 0 = 0 := rfl
      have z2 : smF (fun e => sqD ((pth s.1 a).getD i 0 : Int) ((pth s.1 a).getD e 0)) 0 = 0 := rfl
      refine Go_iadd dL_isPath_181 ?_
      refine Go_ist4 dL_isPath_182 rfl ?_
      refine Go_iconst dL_isPath_184 ?_
      refine Go_ist14 dL_isPath_185 rfl ?_
      refine Go_upTo (n := i) (L := fun i2 => [some (vr 1), some (vi (a : Int)), some (vr 68), some (vr 69), some (vi (smF (lkT (pth s.1 a)) (i + 1))), some (vi (lcL (pth s.1 a) i + smF (lcT (pth s.1 a) i) i2)), some (vi (mnF (colJ (pth s.1 a)) 9 (i + 1))), some (vi (mxF (colJ (pth s.1 a)) 0 (i + 1))), some (vi (mnF (rowJ (pth s.1 a)) 9 (i + 1))), some (vi (mxF (rowJ (pth s.1 a)) 0 (i + 1))), some (vi (lmL (pth s.1 a) i + smF (fun e => sqD ((pth s.1 a).getD i 0) ((pth s.1 a).getD e 0)) i2)), some (vi 0), some (vi (i : Int)), some (vi ((pth s.1 a).getD i 0 : Int)), some (vi (i2 : Int)), none, none]) (P := fun i2 v2 => v2 = v) (by repeat' (first | exact Or.inl rfl | exact Or.inr rfl | exact Or.inr (lcg (by omega)) | exact trivial | constructor)) (rfl) (fun i2 v2 hi2 hP2 kn2 => ?_) (fun v2 hP2 => ?_)
      · try dsimp only at hP2 kn2
        try dsimp only
        subst hP2
        have be := hx.at i2
        have bq := sq9 bi be
        have hsq : sqD ((pth s.1 a).getD i 0 : Int) ((pth s.1 a).getD i2 0 : Int) = (((pth s.1 a).getD i 0 : Int) % 10 - ((pth s.1 a).getD i2 0 : Int) % 10) * (((pth s.1 a).getD i 0 : Int) % 10 - ((pth s.1 a).getD i2 0 : Int) % 10) + (((pth s.1 a).getD i 0 : Int) / 10 - ((pth s.1 a).getD i2 0 : Int) / 10) * (((pth s.1 a).getD i 0 : Int) / 10 - ((pth s.1 a).getD i2 0 : Int) / 10) := rfl
        have et : lcT (pth s.1 a) i i2 = if (i2 : Int) < (i : Int) - 1 ∧ sqD ((pth s.1 a).getD i 0) ((pth s.1 a).getD i2 0) = 1 then 1 else 0 := rfl
        have k261 : ∀ z : Int, z = lcT (pth s.1 a) i i2 → Go G cL_isPath mL_isPath none 9 (B + 1) (S + 6 * 1) 261 [some (vr 1), some (vi (a : Int)), some (vr 68), some (vr 69), some (vi (smF (lkT (pth s.1 a)) (i + 1))), some (vi (lcL (pth s.1 a) i + smF (lcT (pth s.1 a) i) i2)), some (vi (mnF (colJ (pth s.1 a)) 9 (i + 1))), some (vi (mxF (colJ (pth s.1 a)) 0 (i + 1))), some (vi (mnF (rowJ (pth s.1 a)) 9 (i + 1))), some (vi (mxF (rowJ (pth s.1 a)) 0 (i + 1))), some (vi (lmL (pth s.1 a) i + smF (fun e => sqD ((pth s.1 a).getD i 0) ((pth s.1 a).getD e 0)) i2)), some (vi 0), some (vi (i : Int)), some (vi ((pth s.1 a).getD i 0 : Int)), some (vi (i2 : Int)), some (vi (((pth s.1 a).getD i 0 : Int) % 10 - ((pth s.1 a).getD i2 0 : Int) % 10)), some (vi (((pth s.1 a).getD i 0 : Int) / 10 - ((pth s.1 a).getD i2 0 : Int) / 10))] [vi z, vi (lcL (pth s.1 a) i + smF (lcT (pth s.1 a) i) i2)] v2 K X := fun z hz => by
          subst hz
          refine Go_iadd dL_isPath_261 ?_
          refine Go_ist5 dL_isPath_262 rfl ?_
          refine Go_ild10 dL_isPath_264 ?_
          refine Go_ild15 dL_isPath_266 ?_
          refine Go_ild15 dL_isPath_268 ?_
          refine Go_imul dL_isPath_270 ?_
          refine Go_ild16 dL_isPath_271 ?_
          refine Go_ild16 dL_isPath_273 ?_
          refine Go_imul dL_isPath_275 ?_
          refine Go_iadd dL_isPath_276 ?_
          rw [← hsq]
          refine Go_iadd dL_isPath_277 ?_
          refine Go_ist10 dL_isPath_278 rfl ?_
          refine Go_inc14 dL_isPath_280 rfl ?_
          refine Go_goto (tgt := 187) dL_isPath_283 (by decide) ?_
          refine Go_forget (ls' := _) ?_ (kn2 _ rfl)
          rw [show smF (lcT (pth s.1 a) i) (i2 + 1) = smF (lcT (pth s.1 a) i) i2 + lcT (pth s.1 a) i i2 from rfl, show smF (fun e => sqD ((pth s.1 a).getD i 0 : Int) ((pth s.1 a).getD e 0)) (i2 + 1) = smF (fun e => sqD ((pth s.1 a).getD i 0) ((pth s.1 a).getD e 0)) i2 + sqD ((pth s.1 a).getD i 0) ((pth s.1 a).getD i2 0) from rfl, ← Int.add_assoc, ← Int.add_assoc]
          exact (by repeat' (first | exact Or.inl rfl | exact Or.inr rfl | exact Or.inr (lcg (by omega)) | exact trivial | constructor))
        refine Go_ild14 dL_isPath_187 ?_
        refine Go_ild12 dL_isPath_189 ?_
        refine Go_icmp_ge (tgt := 286) dL_isPath_191 (by decide) (by constructor <;> omega) (by constructor <;> omega) (fun h191 => by omega) (fun h191 => ?_)
        refine Go_ild13 dL_isPath_194 ?_
        refine Go_bipush dL_isPath_196 (by decide +kernel) ?_
        refine Go_irem dL_isPath_198 (by omega) (by omega) (by omega) (by omega) ?_
        refine Go_ild1 dL_isPath_199 ?_
        refine Go_ild14 dL_isPath_200 ?_
        refine Go_ald3 dL_isPath_202 ?_
        refine Go_cS3 (d' := 0) (bc' := 0) (bs' := 0) rfl dL_isPath_203 msL_at rfl lkL_70 (by decide) (by omega) (by omega) (Nat.le_of_ble_eq_true rfl) ?_
        refine e_L_at hr.1.1 (by omega) (by omega) ?_
        rw [hA.2.2 _ (by omega)]
        refine Go_bipush dL_isPath_206 (by decide +kernel) ?_
        refine Go_irem dL_isPath_208 (by omega) (by omega) (by omega) (by omega) ?_
        refine Go_isub dL_isPath_209 ?_
        refine Go_ist15 dL_isPath_210 rfl ?_
        refine Go_ild13 dL_isPath_212 ?_
        refine Go_bipush dL_isPath_214 (by decide +kernel) ?_
        refine Go_idiv dL_isPath_216 (by omega) (by omega) (by omega) (by omega) ?_
        refine Go_ild1 dL_isPath_217 ?_
        refine Go_ild14 dL_isPath_218 ?_
        refine Go_ald3 dL_isPath_220 ?_
        refine Go_cS3 (d' := 0) (bc' := 0) (bs' := 0) rfl dL_isPath_221 msL_at rfl lkL_70 (by decide) (by omega) (by omega) (Nat.le_of_ble_eq_true rfl) ?_
        refine e_L_at hr.1.1 (by omega) (by omega) ?_
        rw [hA.2.2 _ (by omega)]
        refine Go_bipush dL_isPath_224 (by decide +kernel) ?_
        refine Go_idiv dL_isPath_226 (by omega) (by omega) (by omega) (by omega) ?_
        refine Go_isub dL_isPath_227 ?_
        refine Go_ist16 dL_isPath_228 rfl ?_
        refine Go_ild5 dL_isPath_230 ?_
        refine Go_ild14 dL_isPath_232 ?_
        refine Go_ild12 dL_isPath_234 ?_
        refine Go_iconst dL_isPath_236 ?_
        refine Go_isub dL_isPath_237 ?_
        refine Go_icmp_ge (tgt := 260) dL_isPath_238 (by decide) (by constructor <;> omega) (by constructor <;> omega) (fun h238 => ?_) (fun h238 => ?_)
        · refine Go_iconst dL_isPath_260 ?_
          refine k261 _ ?_
          rw [et]
          split <;> omega
        · refine Go_ild15 dL_isPath_241 ?_
          refine Go_ild15 dL_isPath_243 ?_
          refine Go_imul dL_isPath_245 ?_
          refine Go_ild16 dL_isPath_246 ?_
          refine Go_ild16 dL_isPath_248 ?_
          refine Go_imul dL_isPath_250 ?_
          refine Go_iadd dL_isPath_251 ?_
          rw [← hsq]
          refine Go_iconst dL_isPath_252 ?_
          refine Go_icmp_ne (tgt := 260) dL_isPath_253 (by decide) (by constructor <;> omega) (by constructor <;> omega) (fun h253 => ?_) (fun h253 => ?_)
          · refine Go_iconst dL_isPath_260 ?_
            refine k261 _ ?_
            rw [et]
            split <;> omega
          · refine Go_iconst dL_isPath_256 ?_
            refine Go_goto (tgt := 261) dL_isPath_257 (by decide) ?_
            refine k261 _ ?_
            rw [et]
            split <;> omega
      · try dsimp only at hP2
        try dsimp only
        subst hP2
        refine Go_ild14 dL_isPath_187 ?_
        refine Go_ild12 dL_isPath_189 ?_
        refine Go_icmp_ge (tgt := 286) dL_isPath_191 (by decide) (by constructor <;> omega) (by constructor <;> omega) (fun h191 => ?_) (fun h191 => by omega)
        refine Go_ald0 dL_isPath_286 ?_
        refine Go_ild1 dL_isPath_287 ?_
        refine Go_ild12 dL_isPath_288 ?_
        refine Go_cSW3 (d' := 8) (bc' := 1) (bs' := 6) rfl dL_isPath_290 msL_place rfl lkL_143 (by decide) (by omega) (by omega) (Nat.le_of_ble_eq_true rfl) ?_
        refine e_L_place h ra (by constructor <;> omega) (fun p e hp => ?_) (fun q => absurd ⟨by omega, by omega⟩ q)
        obtain rfl : p = a := by omega
        rw [atI_nat (j := i) rfl hi]
        refine Go_ild13 dL_isPath_293 ?_
        refine Go_icmp_eq (tgt := 300) dL_isPath_295 (by decide) (by constructor <;> omega) (by constructor <;> omega) (fun h295 => ?_) (fun h295 => by omega)
        refine Go_inc12 dL_isPath_300 rfl ?_
        refine Go_goto (tgt := 29) dL_isPath_303 (by decide) ?_
        exact Go_more (by omega) (by omega) (Go_forget (by repeat' (first | exact Or.inl rfl | exact Or.inr rfl | exact Or.inr (lcg (by omega)) | exact trivial | constructor)) (kn _ rfl))
    have k132 : ∀ z : Int, z = mxF (rowJ (pth s.1 a)) 0 (i + 1) → Go G cL_isPath mL_isPath none 9 (B + 1) (S + 6 * 1) 132 [some (vr 1), some (vi (a : Int)), some (vr 68), some (vr 69), some (vi (smF (lkT (pth s.1 a)) i)), some (vi (lcL (pth s.1 a) i)), some (vi (mnF (colJ (pth s.1 a)) 9 (i + 1))), some (vi (mxF (colJ (pth s.1 a)) 0 (i + 1))), some (vi (mnF (rowJ (pth s.1 a)) 9 (i + 1))), some (vi (mxF (rowJ (pth s.1 a)) 0 i)), some (vi (lmL (pth s.1 a) i)), some (vi 0), some (vi (i : Int)), some (vi ((pth s.1 a).getD i 0 : Int)), none, none, none] [vi z] v K X := fun z hz => by
      subst hz
      have et : lkT (pth s.1 a) i = if 1 < (i : Int) ∧ ((pth s.1 a).getD i 0 : Int) - ((pth s.1 a).getD (i - 1) 0 : Int) ≠ ((pth s.1 a).getD (i - 1) 0 : Int) - ((pth s.1 a).getD (i - 2) 0 : Int) then 1 else 0 := rfl
      have bj := hx.at (i - 1)
      have bk := hx.at (i - 2)
      refine Go_ist9 dL_isPath_132 rfl ?_
      refine Go_ild4 dL_isPath_134 ?_
      refine Go_ild12 dL_isPath_136 ?_
      refine Go_iconst dL_isPath_138 ?_
      refine Go_icmp_le (tgt := 180) dL_isPath_139 (by decide) (by constructor <;> omega) (by constructor <;> omega) (fun h139 => ?_) (fun h139 => ?_)
      · refine Go_iconst dL_isPath_180 ?_
        refine k181 _ ?_
        rw [et]
        split <;> omega
      · refine Go_ild13 dL_isPath_142 ?_
        refine Go_ild1 dL_isPath_144 ?_
        refine Go_ild12 dL_isPath_145 ?_
        refine Go_iconst dL_isPath_147 ?_
        refine Go_isub dL_isPath_148 ?_
        refine Go_ald3 dL_isPath_149 ?_
        rw [show (i : Int) - 1 = ((i - 1 : Nat) : Int) by omega]
        refine Go_cS3 (d' := 0) (bc' := 0) (bs' := 0) rfl dL_isPath_150 msL_at rfl lkL_70 (by decide) (by omega) (by omega) (Nat.le_of_ble_eq_true rfl) ?_
        refine e_L_at hr.1.1 (by omega) (by omega) ?_
        rw [hA.2.2 _ (by omega)]
        refine Go_isub dL_isPath_153 ?_
        refine Go_ild1 dL_isPath_154 ?_
        refine Go_ild12 dL_isPath_155 ?_
        refine Go_iconst dL_isPath_157 ?_
        refine Go_isub dL_isPath_158 ?_
        refine Go_ald3 dL_isPath_159 ?_
        rw [show (i : Int) - 1 = ((i - 1 : Nat) : Int) by omega]
        refine Go_cS3 (d' := 0) (bc' := 0) (bs' := 0) rfl dL_isPath_160 msL_at rfl lkL_70 (by decide) (by omega) (by omega) (Nat.le_of_ble_eq_true rfl) ?_
        refine e_L_at hr.1.1 (by omega) (by omega) ?_
        rw [hA.2.2 _ (by omega)]
        refine Go_ild1 dL_isPath_163 ?_
        refine Go_ild12 dL_isPath_164 ?_
        refine Go_iconst dL_isPath_166 ?_
        refine Go_isub dL_isPath_167 ?_
        refine Go_ald3 dL_isPath_168 ?_
        rw [show (i : Int) - 2 = ((i - 2 : Nat) : Int) by omega]
        refine Go_cS3 (d' := 0) (bc' := 0) (bs' := 0) rfl dL_isPath_169 msL_at rfl lkL_70 (by decide) (by omega) (by omega) (Nat.le_of_ble_eq_true rfl) ?_
        refine e_L_at hr.1.1 (by omega) (by omega) ?_
        rw [hA.2.2 _ (by omega)]
        refine Go_isub dL_isPath_172 ?_
        refine Go_icmp_eq (tgt := 180) dL_isPath_173 (by decide) (by constructor <;> omega) (by constructor <;> omega) (fun h173 => ?_) (fun h173 => ?_)
        · refine Go_iconst dL_isPath_180 ?_
          refine k181 _ ?_
          rw [et]
          split <;> omega
        · refine Go_iconst dL_isPath_176 ?_
          refine Go_goto (tgt := 181) dL_isPath_177 (by decide) ?_
          refine k181 _ ?_
          rw [et]
          split <;> omega
    have k110 : ∀ z : Int, z = mnF (rowJ (pth s.1 a)) 9 (i + 1) → Go G cL_isPath mL_isPath none 9 (B + 1) (S + 6 * 1) 110 [some (vr 1), some (vi (a : Int)), some (vr 68), some (vr 69), some (vi (smF (lkT (pth s.1 a)) i)), some (vi (lcL (pth s.1 a) i)), some (vi (mnF (colJ (pth s.1 a)) 9 (i + 1))), some (vi (mxF (colJ (pth s.1 a)) 0 (i + 1))), some (vi (mnF (rowJ (pth s.1 a)) 9 i)), some (vi (mxF (rowJ (pth s.1 a)) 0 i)), some (vi (lmL (pth s.1 a) i)), some (vi 0), some (vi (i : Int)), some (vi ((pth s.1 a).getD i 0 : Int)), none, none, none] [vi z] v K X := fun z hz => by
      subst hz
      refine Go_ist8 dL_isPath_110 rfl ?_
      refine Go_ild13 dL_isPath_112 ?_
      refine Go_bipush dL_isPath_114 (by decide +kernel) ?_
      refine Go_idiv dL_isPath_116 (by omega) (by omega) (by omega) (by omega) ?_
      refine Go_ild9 dL_isPath_117 ?_
      refine Go_icmp_le (tgt := 130) dL_isPath_119 (by decide) (by constructor <;> omega) (by constructor <;> omega) (fun h119 => ?_) (fun h119 => ?_)
      · refine Go_ild9 dL_isPath_130 ?_
        refine k132 _ ?_
        rw [m4]
        split <;> omega
      · refine Go_ild13 dL_isPath_122 ?_
        refine Go_bipush dL_isPath_124 (by decide +kernel) ?_
        refine Go_idiv dL_isPath_126 (by omega) (by omega) (by omega) (by omega) ?_
        refine Go_goto (tgt := 132) dL_isPath_127 (by decide) ?_
        refine k132 _ ?_
        rw [m4]
        split <;> omega
    have k88 : ∀ z : Int, z = mxF (colJ (pth s.1 a)) 0 (i + 1) → Go G cL_isPath mL_isPath none 9 (B + 1) (S + 6 * 1) 88 [some (vr 1), some (vi (a : Int)), some (vr 68), some (vr 69), some (vi (smF (lkT (pth s.1 a)) i)), some (vi (lcL (pth s.1 a) i)), some (vi (mnF (colJ (pth s.1 a)) 9 (i + 1))), some (vi (mxF (colJ (pth s.1 a)) 0 i)), some (vi (mnF (rowJ (pth s.1 a)) 9 i)), some (vi (mxF (rowJ (pth s.1 a)) 0 i)), some (vi (lmL (pth s.1 a) i)), some (vi 0), some (vi (i : Int)), some (vi ((pth s.1 a).getD i 0 : Int)), none, none, none] [vi z] v K X := fun z hz => by
      subst hz
      refine Go_ist7 dL_isPath_88 rfl ?_
      refine Go_ild13 dL_isPath_90 ?_
      refine Go_bipush dL_isPath_92 (by decide +kernel) ?_
      refine Go_idiv dL_isPath_94 (by omega) (by omega) (by omega) (by omega) ?_
      refine Go_ild8 dL_isPath_95 ?_
      refine Go_icmp_ge (tgt := 108) dL_isPath_97 (by decide) (by constructor <;> omega) (by constructor <;> omega) (fun h97 => ?_) (fun h97 => ?_)
      · refine Go_ild8 dL_isPath_108 ?_
        refine k110 _ ?_
        rw [m3]
        split <;> omega
      · refine Go_ild13 dL_isPath_100 ?_
        refine Go_bipush dL_isPath_102 (by decide +kernel) ?_
        refine Go_idiv dL_isPath_104 (by omega) (by omega) (by omega) (by omega) ?_
        refine Go_goto (tgt := 110) dL_isPath_105 (by decide) ?_
        refine k110 _ ?_
        rw [m3]
        split <;> omega
    have k66 : ∀ z : Int, z = mnF (colJ (pth s.1 a)) 9 (i + 1) → Go G cL_isPath mL_isPath none 9 (B + 1) (S + 6 * 1) 66 [some (vr 1), some (vi (a : Int)), some (vr 68), some (vr 69), some (vi (smF (lkT (pth s.1 a)) i)), some (vi (lcL (pth s.1 a) i)), some (vi (mnF (colJ (pth s.1 a)) 9 i)), some (vi (mxF (colJ (pth s.1 a)) 0 i)), some (vi (mnF (rowJ (pth s.1 a)) 9 i)), some (vi (mxF (rowJ (pth s.1 a)) 0 i)), some (vi (lmL (pth s.1 a) i)), some (vi 0), some (vi (i : Int)), some (vi ((pth s.1 a).getD i 0 : Int)), none, none, none] [vi z] v K X := fun z hz => by
      subst hz
      refine Go_ist6 dL_isPath_66 rfl ?_
      refine Go_ild13 dL_isPath_68 ?_
      refine Go_bipush dL_isPath_70 (by decide +kernel) ?_
      refine Go_irem dL_isPath_72 (by omega) (by omega) (by omega) (by omega) ?_
      refine Go_ild7 dL_isPath_73 ?_
      refine Go_icmp_le (tgt := 86) dL_isPath_75 (by decide) (by constructor <;> omega) (by constructor <;> omega) (fun h75 => ?_) (fun h75 => ?_)
      · refine Go_ild7 dL_isPath_86 ?_
        refine k88 _ ?_
        rw [m2]
        split <;> omega
      · refine Go_ild13 dL_isPath_78 ?_
        refine Go_bipush dL_isPath_80 (by decide +kernel) ?_
        refine Go_irem dL_isPath_82 (by omega) (by omega) (by omega) (by omega) ?_
        refine Go_goto (tgt := 88) dL_isPath_83 (by decide) ?_
        refine k88 _ ?_
        rw [m2]
        split <;> omega
    refine Go_ild12 dL_isPath_29 ?_
    refine Go_ald2 dL_isPath_31 ?_
    refine Go_ild1 dL_isPath_32 ?_
    refine Go_iald dL_isPath_33 (by first | rfl | assumption) trivial (by omega) (by omega) (by decide) ?_
    rw [hlen]
    refine Go_icmp_ge (tgt := 306) dL_isPath_34 (by decide) (by constructor <;> omega) (by constructor <;> omega) (fun h34 => by omega) (fun h34 => ?_)
    refine Go_ild1 dL_isPath_37 ?_
    refine Go_ild12 dL_isPath_38 ?_
    refine Go_ald3 dL_isPath_40 ?_
    refine Go_cS3 (d' := 0) (bc' := 0) (bs' := 0) rfl dL_isPath_41 msL_at rfl lkL_70 (by decide) (by omega) (by omega) (Nat.le_of_ble_eq_true rfl) ?_
    refine e_L_at hr.1.1 (by omega) (by omega) ?_
    rw [hA.2.2 _ (by omega)]
    refine Go_ist13 dL_isPath_44 rfl ?_
    refine Go_ild13 dL_isPath_46 ?_
    refine Go_bipush dL_isPath_48 (by decide +kernel) ?_
    refine Go_irem dL_isPath_50 (by omega) (by omega) (by omega) (by omega) ?_
    refine Go_ild6 dL_isPath_51 ?_
    refine Go_icmp_ge (tgt := 64) dL_isPath_53 (by decide) (by constructor <;> omega) (by constructor <;> omega) (fun h53 => ?_) (fun h53 => ?_)
    · refine Go_ild6 dL_isPath_64 ?_
      refine k66 _ ?_
      rw [m1]
      split <;> omega
    · refine Go_ild13 dL_isPath_56 ?_
      refine Go_bipush dL_isPath_58 (by decide +kernel) ?_
      refine Go_irem dL_isPath_60 (by omega) (by omega) (by omega) (by omega) ?_
      refine Go_goto (tgt := 66) dL_isPath_61 (by decide) ?_
      refine k66 _ ?_
      rw [m1]
      split <;> omega
  · try dsimp only at hP
    try dsimp only
    subst hP
    obtain ⟨f, hf⟩ : ∃ f : Nat → Nat → Int, f = fun (site d : Nat) => owI s.1 (nbI (site : Int) (d : Int)) := ⟨_, rfl⟩
    refine Go_ild12 dL_isPath_29 ?_
    refine Go_ald2 dL_isPath_31 ?_
    refine Go_ild1 dL_isPath_32 ?_
    refine Go_iald dL_isPath_33 (by first | rfl | assumption) trivial (by omega) (by omega) (by decide) ?_
    rw [hlen]
    refine Go_icmp_ge (tgt := 306) dL_isPath_34 (by decide) (by constructor <;> omega) (by constructor <;> omega) (fun h34 => ?_) (fun h34 => by omega)
    refine Go_iconst dL_isPath_306 ?_
    refine Go_ist12 dL_isPath_307 rfl ?_
    refine Go_upTo (n := 100) (L := fun i2 => [some (vr 1), some (vi (a : Int)), some (vr 68), some (vr 69), some (vi (smF (lkT (pth s.1 a)) (pth s.1 a).length)), some (vi (lcL (pth s.1 a) (pth s.1 a).length)), some (vi (mnF (colJ (pth s.1 a)) 9 (pth s.1 a).length)), some (vi (mxF (colJ (pth s.1 a)) 0 (pth s.1 a).length)), some (vi (mnF (rowJ (pth s.1 a)) 9 (pth s.1 a).length)), some (vi (mxF (rowJ (pth s.1 a)) 0 (pth s.1 a).length)), some (vi (lmL (pth s.1 a) (pth s.1 a).length)), some (vi (smF (fbF s.1 a) i2)), some (vi (i2 : Int)), none, none, none, none]) (P := fun i2 v2 => v2 = v) (by repeat' (first | exact Or.inl rfl | exact Or.inr rfl | exact Or.inr (lcg (by omega)) | exact trivial | constructor)) (rfl) (fun i2 v2 hi2 hP2 kn2 => ?_) (fun v2 hP2 => ?_)
    · try dsimp only at hP2 kn2
      try dsimp only
      subst hP2
      have fe : smF (fbF s.1 a) (i2 + 1) = smF (fbF s.1 a) i2 + fbF s.1 a i2 := rfl
      have fb : fbF s.1 a i2 = if ow s.1 i2 = -1 ∧ 0 < nbN s.1 i2 a then 1 else 0 := rfl
      have hs := has_sm (f := f i2) (v := (a : Int)) (n := 4)
      have hsm : smF (fun j => if f i2 j = (a : Int) then 1 else 0) 4 = nbN s.1 i2 a := by rw [hf]; rfl
      rw [hsm] at hs
      have wi := whI_in ho i2
      have wd := whI_dec ho i2
      refine Go_ild12 dL_isPath_309 ?_
      refine Go_bipush dL_isPath_311 (by decide +kernel) ?_
      refine Go_icmp_ge (tgt := 419) dL_isPath_313 (by decide) (by constructor <;> omega) (by constructor <;> omega) (fun h313 => by omega) (fun h313 => ?_)
      refine Go_iconst dL_isPath_316 ?_
      refine Go_ist13 dL_isPath_317 rfl ?_
      refine Go_iconst dL_isPath_319 ?_
      refine Go_ist14 dL_isPath_320 rfl ?_
      refine Go_upTo (n := 4) (L := fun i3 => [some (vr 1), some (vi (a : Int)), some (vr 68), some (vr 69), some (vi (smF (lkT (pth s.1 a)) (pth s.1 a).length)), some (vi (lcL (pth s.1 a) (pth s.1 a).length)), some (vi (mnF (colJ (pth s.1 a)) 9 (pth s.1 a).length)), some (vi (mxF (colJ (pth s.1 a)) 0 (pth s.1 a).length)), some (vi (mnF (rowJ (pth s.1 a)) 9 (pth s.1 a).length)), some (vi (mxF (rowJ (pth s.1 a)) 0 (pth s.1 a).length)), some (vi (lmL (pth s.1 a) (pth s.1 a).length)), some (vi (smF (fbF s.1 a) i2)), some (vi (i2 : Int)), some (vi (hasF (f i2) (a : Int) i3)), some (vi (i3 : Int)), none, none]) (P := fun i3 v3 => v3 = v2) (by repeat' (first | exact Or.inl rfl | exact Or.inr rfl | exact Or.inr (lcg (by omega)) | exact trivial | constructor)) (rfl) (fun i3 v3 hi3 hP3 kn3 => ?_) (fun v3 hP3 => ?_)
      · try dsimp only at hP3 kn3
        try dsimp only
        subst hP3
        obtain ⟨t, ht⟩ : ∃ t : Int, t = nbI (i2 : Int) (i3 : Int) := ⟨_, rfl⟩
        have bt : -1 ≤ t ∧ t < 100 := by rw [ht]; exact nbI_in _ _
        have td := whI_dec ho t.toNat
        have ti := whI_in ho t.toNat
        have to := ow_in s.1 t.toNat
        have h3i := hasF_in (f i2) (a : Int) i3
        have he : hasF (f i2) (a : Int) (i3 + 1) = if hasF (f i2) (a : Int) i3 = 1 ∨ f i2 i3 = (a : Int) then 1 else 0 := rfl
        have hfi : f i2 i3 = if 0 ≤ t ∧ t < 100 then ow s.1 t.toNat else -1 := by rw [hf, ht]; rfl
        have k380 : ∀ z W : Int, z = hasF (f i2) (a : Int) (i3 + 1) → Go G cL_isPath mL_isPath none 9 30 (6 * 30) 380 [some (vr 1), some (vi (a : Int)), some (vr 68), some (vr 69), some (vi (smF (lkT (pth s.1 a)) (pth s.1 a).length)), some (vi (lcL (pth s.1 a) (pth s.1 a).length)), some (vi (mnF (colJ (pth s.1 a)) 9 (pth s.1 a).length)), some (vi (mxF (colJ (pth s.1 a)) 0 (pth s.1 a).length)), some (vi (mnF (rowJ (pth s.1 a)) 9 (pth s.1 a).length)), some (vi (mxF (rowJ (pth s.1 a)) 0 (pth s.1 a).length)), some (vi (lmL (pth s.1 a) (pth s.1 a).length)), some (vi (smF (fbF s.1 a) i2)), some (vi (i2 : Int)), some (vi (hasF (f i2) (a : Int) i3)), some (vi (i3 : Int)), some (vi W), none] [vi z] v3 K X := fun z W hz => by
          subst hz
          refine Go_ist13 dL_isPath_380 rfl ?_
          refine Go_inc14 dL_isPath_382 rfl ?_
          refine Go_goto (tgt := 322) dL_isPath_385 (by decide) ?_
          exact Go_forget (by repeat' (first | exact Or.inl rfl | exact Or.inr rfl | exact Or.inr (lcg (by omega)) | exact trivial | constructor)) (kn3 _ rfl)
        have k354 : ∀ W : Int, (t = -1 ∧ W = -1 ∨ 0 ≤ t ∧ W = whI s.1 t.toNat) → Go G cL_isPath mL_isPath none 9 30 (6 * 30) 354 [some (vr 1), some (vi (a : Int)), some (vr 68), some (vr 69), some (vi (smF (lkT (pth s.1 a)) (pth s.1 a).length)), some (vi (lcL (pth s.1 a) (pth s.1 a).length)), some (vi (mnF (colJ (pth s.1 a)) 9 (pth s.1 a).length)), some (vi (mxF (colJ (pth s.1 a)) 0 (pth s.1 a).length)), some (vi (mnF (rowJ (pth s.1 a)) 9 (pth s.1 a).length)), some (vi (mxF (rowJ (pth s.1 a)) 0 (pth s.1 a).length)), some (vi (lmL (pth s.1 a) (pth s.1 a).length)), some (vi (smF (fbF s.1 a) i2)), some (vi (i2 : Int)), some (vi (hasF (f i2) (a : Int) i3)), some (vi (i3 : Int)), none, none] [vi W] v3 K X := fun W hW => by
          refine Go_ist15 dL_isPath_354 rfl ?_
          refine Go_ild13 dL_isPath_356 ?_
          refine Go_if_ne (tgt := 375) dL_isPath_358 (by decide) (by constructor <;> omega) (fun h358 => ?_) (fun h358 => ?_)
          · refine Go_iconst dL_isPath_375 ?_
            refine Go_goto (tgt := 380) dL_isPath_376 (by decide) ?_
            refine k380 _ _ ?_
            rw [he, hfi]
            (repeat' split) <;> omega
          · refine Go_ild15 dL_isPath_361 ?_
            refine Go_if_lt (tgt := 379) dL_isPath_363 (by decide) (by constructor <;> omega) (fun h363 => ?_) (fun h363 => ?_)
            · refine Go_iconst dL_isPath_379 ?_
              refine k380 _ _ ?_
              rw [he, hfi]
              (repeat' split) <;> omega
            · refine Go_ild15 dL_isPath_366 ?_
              refine Go_bipush dL_isPath_368 (by decide +kernel) ?_
              refine Go_idiv dL_isPath_370 (by omega) (by omega) (by omega) (by omega) ?_
              refine Go_ild1 dL_isPath_371 ?_
              refine Go_icmp_ne (tgt := 379) dL_isPath_372 (by decide) (by constructor <;> omega) (by constructor <;> omega) (fun h372 => ?_) (fun h372 => ?_)
              · refine Go_iconst dL_isPath_379 ?_
                refine k380 _ _ ?_
                rw [he, hfi]
                (repeat' split) <;> omega
              · refine Go_iconst dL_isPath_375 ?_
                refine Go_goto (tgt := 380) dL_isPath_376 (by decide) ?_
                refine k380 _ _ ?_
                rw [he, hfi]
                (repeat' split) <;> omega
        refine Go_ild14 dL_isPath_322 ?_
        refine Go_iconst dL_isPath_324 ?_
        refine Go_icmp_ge (tgt := 388) dL_isPath_325 (by decide) (by constructor <;> omega) (by constructor <;> omega) (fun h325 => by omega) (fun h325 => ?_)
        refine Go_ild12 dL_isPath_328 ?_
        refine Go_ild14 dL_isPath_330 ?_
        refine Go_cS2 (d' := 0) (bc' := 0) (bs' := 0) rfl dL_isPath_332 msL_go rfl lkL_114 (by decide) (by omega) (by omega) (Nat.le_of_ble_eq_true rfl) ?_
        refine e_L_go hi2 hi3 ?_
        rw [← ht]
        refine Go_if_ge (tgt := 342) dL_isPath_335 (by decide) (by constructor <;> omega) (fun h335 => ?_) (fun h335 => ?_)
        · refine Go_ild12 dL_isPath_342 ?_
          refine Go_ild14 dL_isPath_344 ?_
          refine Go_cS2 (d' := 0) (bc' := 0) (bs' := 0) rfl dL_isPath_346 msL_go rfl lkL_114 (by decide) (by omega) (by omega) (Nat.le_of_ble_eq_true rfl) ?_
          refine e_L_go hi2 hi3 ?_
          rw [← ht]
          refine Go_ald2 dL_isPath_349 ?_
          refine Go_ald3 dL_isPath_350 ?_
          refine Go_cS3 (d' := 1) (bc' := 0) (bs' := 0) rfl dL_isPath_351 msL_whose rfl lkL_76 (by decide) (by omega) (by omega) (Nat.le_of_ble_eq_true rfl) ?_
          refine e_L_whoseI hr.1 ho (by omega) (by omega) ?_
          exact k354 _ (by omega)
        · refine Go_iconst dL_isPath_338 ?_
          refine Go_goto (tgt := 354) dL_isPath_339 (by decide) ?_
          exact k354 _ (by omega)
      · try dsimp only at hP3
        try dsimp only
        subst hP3
        have h3i := hasF_in (f i2) (a : Int) 4
        have k410 : ∀ z : Int, z = fbF s.1 a i2 → Go G cL_isPath mL_isPath none 9 30 (6 * 30) 410 [some (vr 1), some (vi (a : Int)), some (vr 68), some (vr 69), some (vi (smF (lkT (pth s.1 a)) (pth s.1 a).length)), some (vi (lcL (pth s.1 a) (pth s.1 a).length)), some (vi (mnF (colJ (pth s.1 a)) 9 (pth s.1 a).length)), some (vi (mxF (colJ (pth s.1 a)) 0 (pth s.1 a).length)), some (vi (mnF (rowJ (pth s.1 a)) 9 (pth s.1 a).length)), some (vi (mxF (rowJ (pth s.1 a)) 0 (pth s.1 a).length)), some (vi (lmL (pth s.1 a) (pth s.1 a).length)), some (vi (smF (fbF s.1 a) i2)), some (vi (i2 : Int)), none, none, none, none] [vi z, vi (smF (fbF s.1 a) i2)] v3 K X := fun z hz => by
          subst hz
          refine Go_iadd dL_isPath_410 ?_
          refine Go_ist11 dL_isPath_411 rfl ?_
          refine Go_inc12 dL_isPath_413 rfl ?_
          refine Go_goto (tgt := 309) dL_isPath_416 (by decide) ?_
          exact Go_forget (by repeat' (first | exact Or.inl rfl | exact Or.inr rfl | exact Or.inr (lcg (by omega)) | exact trivial | constructor)) (kn2 _ rfl)
        refine Go_ild14 dL_isPath_322 ?_
        refine Go_iconst dL_isPath_324 ?_
        refine Go_icmp_ge (tgt := 388) dL_isPath_325 (by decide) (by constructor <;> omega) (by constructor <;> omega) (fun h325 => ?_) (fun h325 => by omega)
        refine Go_ild11 dL_isPath_388 ?_
        refine Go_ild13 dL_isPath_390 ?_
        refine Go_if_eq (tgt := 409) dL_isPath_392 (by decide) (by constructor <;> omega) (fun h392 => ?_) (fun h392 => ?_)
        · refine Go_iconst dL_isPath_409 ?_
          refine Go_forget (ls' := _) ?_ (k410 _ ?_)
          · exact (by repeat' (first | exact Or.inl rfl | exact Or.inr rfl | exact Or.inr (lcg (by omega)) | exact trivial | constructor))
          · rw [fb]
            split <;> omega
        · refine Go_ild12 dL_isPath_395 ?_
          refine Go_ald2 dL_isPath_397 ?_
          refine Go_ald3 dL_isPath_398 ?_
          refine Go_cS3 (d' := 1) (bc' := 0) (bs' := 0) rfl dL_isPath_399 msL_whose rfl lkL_76 (by decide) (by omega) (by omega) (Nat.le_of_ble_eq_true rfl) ?_
          refine e_L_whose hr.1 ho hi2 ?_
          refine Go_if_ge (tgt := 409) dL_isPath_402 (by decide) (by constructor <;> omega) (fun h402 => ?_) (fun h402 => ?_)
          · refine Go_iconst dL_isPath_409 ?_
            refine Go_forget (ls' := _) ?_ (k410 _ ?_)
            · exact (by repeat' (first | exact Or.inl rfl | exact Or.inr rfl | exact Or.inr (lcg (by omega)) | exact trivial | constructor))
            · rw [fb]
              split <;> omega
          · refine Go_iconst dL_isPath_405 ?_
            refine Go_goto (tgt := 410) dL_isPath_406 (by decide) ?_
            refine Go_forget (ls' := _) ?_ (k410 _ ?_)
            · exact (by repeat' (first | exact Or.inl rfl | exact Or.inr rfl | exact Or.inr (lcg (by omega)) | exact trivial | constructor))
            · rw [fb]
              split <;> omega
    · try dsimp only at hP2
      try dsimp only
      subst hP2
      have hh : (pth s.1 a).getD ((pth s.1 a).length - 1) 0 = hdL (pth s.1 a) := rfl
      have bh : hdL (pth s.1 a) < 100 := hx.at _
      have b0 := hx.at 0
      have p0 : pthA s.1 a 0 = ((pth s.1 a).length : Int) := rfl
      have p1 : pthA s.1 a 1 = smF (lkT (pth s.1 a)) (pth s.1 a).length := (lkL_corn hx (ho.adj ha) hla.1).symm
      have p2 : pthA s.1 a 2 = lcL (pth s.1 a) (pth s.1 a).length := (lcL_cnC ho a).symm
      have p3 : pthA s.1 a 3 = mxF (colJ (pth s.1 a)) 0 (pth s.1 a).length - mnF (colJ (pth s.1 a)) 9 (pth s.1 a).length + 1 := by rw [mnF_9 (fun j => (cb j).2) hla.1]; rfl
      have p4 : pthA s.1 a 4 = mxF (rowJ (pth s.1 a)) 0 (pth s.1 a).length - mnF (rowJ (pth s.1 a)) 9 (pth s.1 a).length + 1 := by rw [mnF_9 (fun j => (rb j).2) hla.1]; rfl
      have p5 : pthA s.1 a 5 = ((hdL (pth s.1 a) : Int) % 10 - ((pth s.1 a).getD 0 0 : Int) % 10) * ((hdL (pth s.1 a) : Int) % 10 - ((pth s.1 a).getD 0 0 : Int) % 10) + ((hdL (pth s.1 a) : Int) / 10 - ((pth s.1 a).getD 0 0 : Int) / 10) * ((hdL (pth s.1 a) : Int) / 10 - ((pth s.1 a).getD 0 0 : Int) / 10) := by
        show sqD ((pth s.1 a).getD 0 0) (hdL (pth s.1 a)) = _
        rw [sqD_sym]; rfl
      have p6 : pthA s.1 a 6 = (frD s.1 (hdL (pth s.1 a)) : Int) := rfl
      have p7 : pthA s.1 a 7 = lmL (pth s.1 a) (pth s.1 a).length := (lmL_momL _).symm
      have p8 : pthA s.1 a 8 = smF (fbF s.1 a) 100 := rfl
      have en := numI_k bh
      have pn : atI (pth s.1 a) ((pth s.1 a).length : Int) = -1 := by unfold atI; rw [if_neg (by omega)]
      have pm : atI (pth s.1 a) (-1) = -1 := by unfold atI; rw [if_neg (by omega)]
      refine Go_ild12 dL_isPath_309 ?_
      refine Go_bipush dL_isPath_311 (by decide +kernel) ?_
      refine Go_icmp_ge (tgt := 419) dL_isPath_313 (by decide) (by constructor <;> omega) (by constructor <;> omega) (fun h313 => ?_) (fun h313 => by omega)
      refine Go_ild1 dL_isPath_419 ?_
      refine Go_ald2 dL_isPath_420 ?_
      refine Go_ild1 dL_isPath_421 ?_
      refine Go_iald dL_isPath_422 (by first | rfl | assumption) trivial (by omega) (by omega) (by decide) ?_
      refine Go_iconst dL_isPath_423 ?_
      refine Go_isub dL_isPath_424 ?_
      refine Go_ald3 dL_isPath_425 ?_
      rw [hlen, show ((pth s.1 a).length : Int) - 1 = (((pth s.1 a).length - 1 : Nat) : Int) by omega]
      refine Go_cS3 (d' := 0) (bc' := 0) (bs' := 0) rfl dL_isPath_426 msL_at rfl lkL_70 (by decide) (by omega) (by omega) (Nat.le_of_ble_eq_true rfl) ?_
      refine e_L_at hr.1.1 (by omega) (by omega) ?_
      rw [hA.2.2 _ (by omega), hh]
      refine Go_ist12 dL_isPath_429 rfl ?_
      refine Go_ild12 dL_isPath_431 ?_
      refine Go_bipush dL_isPath_433 (by decide +kernel) ?_
      refine Go_irem dL_isPath_435 (by omega) (by omega) (by omega) (by omega) ?_
      refine Go_ild1 dL_isPath_436 ?_
      refine Go_iconst dL_isPath_437 ?_
      refine Go_ald3 dL_isPath_438 ?_
      refine Go_cS3 (d' := 0) (bc' := 0) (bs' := 0) rfl dL_isPath_439 msL_at rfl lkL_70 (by decide) (by omega) (by omega) (Nat.le_of_ble_eq_true rfl) ?_
      refine e_L_at (j := 0) hr.1.1 (by omega) (by omega) ?_
      rw [hA.2.2 _ (by omega)]
      refine Go_bipush dL_isPath_442 (by decide +kernel) ?_
      refine Go_irem dL_isPath_444 (by omega) (by omega) (by omega) (by omega) ?_
      refine Go_isub dL_isPath_445 ?_
      refine Go_ist13 dL_isPath_446 rfl ?_
      refine Go_ild12 dL_isPath_448 ?_
      refine Go_bipush dL_isPath_450 (by decide +kernel) ?_
      refine Go_idiv dL_isPath_452 (by omega) (by omega) (by omega) (by omega) ?_
      refine Go_ild1 dL_isPath_453 ?_
      refine Go_iconst dL_isPath_454 ?_
      refine Go_ald3 dL_isPath_455 ?_
      refine Go_cS3 (d' := 0) (bc' := 0) (bs' := 0) rfl dL_isPath_456 msL_at rfl lkL_70 (by decide) (by omega) (by omega) (Nat.le_of_ble_eq_true rfl) ?_
      refine e_L_at (j := 0) hr.1.1 (by omega) (by omega) ?_
      rw [hA.2.2 _ (by omega)]
      refine Go_bipush dL_isPath_459 (by decide +kernel) ?_
      refine Go_idiv dL_isPath_461 (by omega) (by omega) (by omega) (by omega) ?_
      refine Go_isub dL_isPath_462 ?_
      refine Go_ist14 dL_isPath_463 rfl ?_
      refine Go_ald0 dL_isPath_465 ?_
      refine Go_ild1 dL_isPath_466 ?_
      refine Go_iconst dL_isPath_467 ?_
      refine Go_cSW3 (d' := 8) (bc' := 2) (bs' := 12) rfl dL_isPath_468 msL_path rfl lkL_145 (by decide) (by omega) (by omega) (Nat.le_of_ble_eq_true rfl) ?_
      refine e_L_path h ra (by constructor <;> omega) (fun q0 e0 hq0 _ _ => ?_) (fun z => absurd ⟨by omega, by omega⟩ z) (fun _ _ z => absurd ⟨by omega, by omega⟩ z)
      rw [show q0 = a by omega, p0]
      refine Go_ald2 dL_isPath_471 ?_
      refine Go_ild1 dL_isPath_472 ?_
      refine Go_iald dL_isPath_473 (by first | rfl | assumption) trivial (by omega) (by omega) (by decide) ?_
      rw [hlen]
      refine Go_icmpN_ne 579 dL_isPath_474 (by decide) ?_
      refine Go_ald0 dL_isPath_477 ?_
      refine Go_ild1 dL_isPath_478 ?_
      refine Go_iconst dL_isPath_479 ?_
      refine Go_cSW3 (d' := 8) (bc' := 2) (bs' := 12) rfl dL_isPath_480 msL_path rfl lkL_145 (by decide) (by omega) (by omega) (Nat.le_of_ble_eq_true rfl) ?_
      refine e_L_path h ra (by constructor <;> omega) (fun q1 e1 hq1 _ _ => ?_) (fun z => absurd ⟨by omega, by omega⟩ z) (fun _ _ z => absurd ⟨by omega, by omega⟩ z)
      rw [show q1 = a by omega, p1]
      refine Go_ild4 dL_isPath_483 ?_
      refine Go_icmpN_ne 579 dL_isPath_485 (by decide) ?_
      refine Go_ald0 dL_isPath_488 ?_
      refine Go_ild1 dL_isPath_489 ?_
      refine Go_iconst dL_isPath_490 ?_
      refine Go_cSW3 (d' := 8) (bc' := 2) (bs' := 12) rfl dL_isPath_491 msL_path rfl lkL_145 (by decide) (by omega) (by omega) (Nat.le_of_ble_eq_true rfl) ?_
      refine e_L_path h ra (by constructor <;> omega) (fun q2 e2 hq2 _ _ => ?_) (fun z => absurd ⟨by omega, by omega⟩ z) (fun _ _ z => absurd ⟨by omega, by omega⟩ z)
      rw [show q2 = a by omega, p2]
      refine Go_ild5 dL_isPath_494 ?_
      refine Go_icmpN_ne 579 dL_isPath_496 (by decide) ?_
      refine Go_ald0 dL_isPath_499 ?_
      refine Go_ild1 dL_isPath_500 ?_
      refine Go_iconst dL_isPath_501 ?_
      refine Go_cSW3 (d' := 8) (bc' := 2) (bs' := 12) rfl dL_isPath_502 msL_path rfl lkL_145 (by decide) (by omega) (by omega) (Nat.le_of_ble_eq_true rfl) ?_
      refine e_L_path h ra (by constructor <;> omega) (fun q3 e3 hq3 _ _ => ?_) (fun z => absurd ⟨by omega, by omega⟩ z) (fun _ _ z => absurd ⟨by omega, by omega⟩ z)
      rw [show q3 = a by omega, p3]
      refine Go_ild7 dL_isPath_505 ?_
      refine Go_ild6 dL_isPath_507 ?_
      refine Go_isub dL_isPath_509 ?_
      refine Go_iconst dL_isPath_510 ?_
      refine Go_iadd dL_isPath_511 ?_
      refine Go_icmpN_ne 579 dL_isPath_512 (by decide) ?_
      refine Go_ald0 dL_isPath_515 ?_
      refine Go_ild1 dL_isPath_516 ?_
      refine Go_iconst dL_isPath_517 ?_
      refine Go_cSW3 (d' := 8) (bc' := 2) (bs' := 12) rfl dL_isPath_518 msL_path rfl lkL_145 (by decide) (by omega) (by omega) (Nat.le_of_ble_eq_true rfl) ?_
      refine e_L_path h ra (by constructor <;> omega) (fun q4 e4 hq4 _ _ => ?_) (fun z => absurd ⟨by omega, by omega⟩ z) (fun _ _ z => absurd ⟨by omega, by omega⟩ z)
      rw [show q4 = a by omega, p4]
      refine Go_ild9 dL_isPath_521 ?_
      refine Go_ild8 dL_isPath_523 ?_
      refine Go_isub dL_isPath_525 ?_
      refine Go_iconst dL_isPath_526 ?_
      refine Go_iadd dL_isPath_527 ?_
      refine Go_icmpN_ne 579 dL_isPath_528 (by decide) ?_
      refine Go_ald0 dL_isPath_531 ?_
      refine Go_ild1 dL_isPath_532 ?_
      refine Go_iconst dL_isPath_533 ?_
      refine Go_cSW3 (d' := 8) (bc' := 2) (bs' := 12) rfl dL_isPath_534 msL_path rfl lkL_145 (by decide) (by omega) (by omega) (Nat.le_of_ble_eq_true rfl) ?_
      refine e_L_path h ra (by constructor <;> omega) (fun q5 e5 hq5 _ _ => ?_) (fun z => absurd ⟨by omega, by omega⟩ z) (fun _ _ z => absurd ⟨by omega, by omega⟩ z)
      rw [show q5 = a by omega, p5]
      refine Go_ild13 dL_isPath_537 ?_
      refine Go_ild13 dL_isPath_539 ?_
      refine Go_imul dL_isPath_541 ?_
      refine Go_ild14 dL_isPath_542 ?_
      refine Go_ild14 dL_isPath_544 ?_
      refine Go_imul dL_isPath_546 ?_
      refine Go_iadd dL_isPath_547 ?_
      refine Go_icmpN_ne 579 dL_isPath_548 (by decide) ?_
      refine Go_ald0 dL_isPath_551 ?_
      refine Go_ild1 dL_isPath_552 ?_
      refine Go_bipush dL_isPath_553 (by decide +kernel) ?_
      refine Go_cSW3 (d' := 8) (bc' := 2) (bs' := 12) rfl dL_isPath_555 msL_path rfl lkL_145 (by decide) (by omega) (by omega) (Nat.le_of_ble_eq_true rfl) ?_
      refine e_L_path h ra (by constructor <;> omega) (fun q6 e6 hq6 _ _ => ?_) (fun z => absurd ⟨by omega, by omega⟩ z) (fun _ _ z => absurd ⟨by omega, by omega⟩ z)
      rw [show q6 = a by omega, p7]
      refine Go_ild10 dL_isPath_558 ?_
      refine Go_icmpN_ne 579 dL_isPath_560 (by decide) ?_
      refine Go_ald0 dL_isPath_563 ?_
      refine Go_ild1 dL_isPath_564 ?_
      refine Go_bipush dL_isPath_565 (by decide +kernel) ?_
      refine Go_cSW3 (d' := 8) (bc' := 2) (bs' := 12) rfl dL_isPath_567 msL_path rfl lkL_145 (by decide) (by omega) (by omega) (Nat.le_of_ble_eq_true rfl) ?_
      refine e_L_path h ra (by constructor <;> omega) (fun q7 e7 hq7 _ _ => ?_) (fun z => absurd ⟨by omega, by omega⟩ z) (fun _ _ z => absurd ⟨by omega, by omega⟩ z)
      rw [show q7 = a by omega, p8]
      refine Go_ild11 dL_isPath_570 ?_
      refine Go_icmpN_ne 579 dL_isPath_572 (by decide) ?_
      refine Go_iconst dL_isPath_575 ?_
      refine Go_goto (tgt := 580) dL_isPath_576 (by decide) ?_
      refine Go_ist15 dL_isPath_580 rfl ?_
      refine Go_ild15 dL_isPath_582 ?_
      refine Go_if_eq (tgt := 660) dL_isPath_584 (by decide) (by constructor <;> omega) (fun h584 => by omega) (fun h584 => ?_)
      refine Go_ald0 dL_isPath_587 ?_
      refine Go_ild1 dL_isPath_588 ?_
      refine Go_bipush dL_isPath_589 (by decide +kernel) ?_
      refine Go_cSW3 (d' := 8) (bc' := 2) (bs' := 12) rfl dL_isPath_591 msL_path rfl lkL_145 (by decide) (by omega) (by omega) (Nat.le_of_ble_eq_true rfl) ?_
      refine e_L_path h ra (by constructor <;> omega) (fun q9 e9 hq9 _ _ => ?_) (fun z => absurd ⟨by omega, by omega⟩ z) (fun _ _ z => absurd ⟨by omega, by omega⟩ z)
      rw [show q9 = a by omega, p6]
      refine Go_ald0 dL_isPath_594 ?_
      refine Go_ild12 dL_isPath_595 ?_
      refine Go_bipush dL_isPath_597 (by decide +kernel) ?_
      refine Go_irem dL_isPath_599 (by omega) (by omega) (by omega) (by omega) ?_
      refine Go_ild12 dL_isPath_600 ?_
      refine Go_bipush dL_isPath_602 (by decide +kernel) ?_
      refine Go_idiv dL_isPath_604 (by omega) (by omega) (by omega) (by omega) ?_
      refine Go_iconst dL_isPath_605 ?_
      refine Go_cSW4 (d' := 8) (bc' := 2) (bs' := 12) rfl dL_isPath_606 msL_site rfl lkL_92 (by decide) (by omega) (by omega) (Nat.le_of_ble_eq_true rfl) ?_
      refine e_L_site h (by constructor <;> omega) (by constructor <;> omega) (by constructor <;> omega) (fun x ex hx' _ _ => ?_) (fun q => by omega) (fun _ q => absurd ⟨by omega, by omega⟩ q)
      rw [show x = hdL (pth s.1 a) by omega, if_neg (by decide), if_neg (by decide)]
      refine Go_icmpN_ne 660 dL_isPath_609 (by decide) ?_
      refine Go_ald0 dL_isPath_612 ?_
      refine Go_ild1 dL_isPath_613 ?_
      refine Go_ald2 dL_isPath_614 ?_
      refine Go_ild1 dL_isPath_615 ?_
      refine Go_iald dL_isPath_616 (by first | rfl | assumption) trivial (by omega) (by omega) (by decide) ?_
      rw [hlen]
      refine Go_cSW3 (d' := 8) (bc' := 1) (bs' := 6) rfl dL_isPath_617 msL_place rfl lkL_143 (by decide) (by omega) (by omega) (Nat.le_of_ble_eq_true rfl) ?_
      refine e_L_place h ra (by constructor <;> omega) (fun q10 e10 hq10 => ?_) (fun q => absurd ⟨by omega, by omega⟩ q)
      rw [show q10 = a by omega, pn]
      refine Go_iconst dL_isPath_620 ?_
      refine Go_icmpN_ne 660 dL_isPath_621 (by decide) ?_
      refine Go_ald0 dL_isPath_624 ?_
      refine Go_ild1 dL_isPath_625 ?_
      refine Go_iconst dL_isPath_626 ?_
      refine Go_cSW3 (d' := 8) (bc' := 1) (bs' := 6) rfl dL_isPath_627 msL_place rfl lkL_143 (by decide) (by omega) (by omega) (Nat.le_of_ble_eq_true rfl) ?_
      refine e_L_place h ra (by constructor <;> omega) (fun q11 e11 hq11 => ?_) (fun q => absurd ⟨by omega, by omega⟩ q)
      rw [show q11 = a by omega, pm]
      refine Go_iconst dL_isPath_630 ?_
      refine Go_icmpN_ne 660 dL_isPath_631 (by decide) ?_
      refine Go_ald0 dL_isPath_634 ?_
      refine Go_ild1 dL_isPath_635 ?_
      refine Go_cV1 (d' := 7) (bc' := 1) (bs' := 6) rfl dL_isPath_636 mvX11_spread rfl lkL_147 rfl rfl trivial (by decide) (by decide) (by decide) (Nat.le_of_ble_eq_true rfl) ?_
      refine e_X11_spread h ra (fun q12 e12 hq12 => ?_) (fun q => absurd ⟨by omega, by omega⟩ q)
      rw [show q12 = a by omega, ← lmL_momL]
      refine Go_ild10 dL_isPath_639 ?_
      refine Go_i2d dL_isPath_641 ?_
      refine Go_ald2 dL_isPath_642 ?_
      refine Go_ild1 dL_isPath_643 ?_
      refine Go_iald dL_isPath_644 (by first | rfl | assumption) trivial (by omega) (by omega) (by decide) ?_
      rw [hlen]
      refine Go_i2d dL_isPath_645 ?_
      refine Go_ald2 dL_isPath_646 ?_
      refine Go_ild1 dL_isPath_647 ?_
      refine Go_iald dL_isPath_648 (by first | rfl | assumption) trivial (by omega) (by omega) (by decide) ?_
      rw [hlen]
      refine Go_i2d dL_isPath_649 ?_
      refine Go_dmul dL_isPath_650 (nn64 (sq_ok (pth s.1 a).length)) ?_
      refine Go_ddiv dL_isPath_651 (nn64 (spr_ok (lmL (pth s.1 a) (pth s.1 a).length) (n := (pth s.1 a).length) (by omega) (by omega))) ?_
      refine Go_dcmp_same dL_isPath_652 (spr_ok (lmL (pth s.1 a) (pth s.1 a).length) (n := (pth s.1 a).length) (by omega) (by omega)) ?_
      refine Go_if_ne (tgt := 660) dL_isPath_653 (by decide) (by constructor <;> omega) (fun h653 => by omega) (fun h653 => ?_)
      refine Go_iconst dL_isPath_656 ?_
      refine Go_goto (tgt := 661) dL_isPath_657 (by decide) ?_
      refine Go_ireturn dL_isPath_661 rfl (by first | rfl | decide | exact nar_b | simp [narrow]) ?_
      exact k
end Path
