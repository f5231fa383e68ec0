section GoMore
variable {G : Gm} {cc : ByteArray} {mt : Mt} {nx : Option Nat} {d bc bs pc : Nat} {ls : List (Option Vl)} {st : List Vl} {w : Wd} {K : Kt} {X : Xt}
theorem Go_irem {a b : Int} (dec : decode cc pc = .ok (.irem, 1)) (ha : 0 ≤ a) (ha2 : a < 2147483648) (hb : 0 < b) (hb2 : b < 2147483648) (k : Go G cc mt nx d bc bs (pc + 1) ls (vi (a % b) :: st) w K X) : Go G cc mt nx d bc bs pc ls (vi b :: vi a :: st) w K X := by
  intro p e R s m args below meth c Q H locs cells slots la C EK EX hl hw hS h1 h2
  have kk := k p e R s m args below meth c Q H locs cells slots la C EK EX hl hw hS h1 h2
  obtain ⟨x, rfl⟩ := Int.eq_ofNat_of_zero_le ha
  obtain ⟨y, rfl⟩ := Int.eq_ofNat_of_zero_le (Int.le_of_lt hb)
  refine lv_irem C.1 C.2.1 dec (by show ¬ nI y = 0; exact nI_ne0 (by omega) (by omega)) ?_
  have e1 : (Int32.ofInt (x : Int) - Int32.ofInt (x : Int) / Int32.ofInt (y : Int) * Int32.ofInt (y : Int)) = Int32.ofInt ((x : Int) % (y : Int)) := by
    have := pk_rem (a := x) (d := y) (by omega) (by omega) (by omega)
    exact this
  rw [e1]
  exact kk
theorem Go_idiv {a b : Int} (dec : decode cc pc = .ok (.idiv, 1)) (ha : 0 ≤ a) (ha2 : a < 2147483648) (hb : 0 < b) (hb2 : b < 2147483648) (k : Go G cc mt nx d bc bs (pc + 1) ls (vi (a / b) :: st) w K X) : Go G cc mt nx d bc bs pc ls (vi b :: vi a :: st) w K X := by
  intro p e R s m args below meth c Q H locs cells slots la C EK EX hl hw hS h1 h2
  have kk := k p e R s m args below meth c Q H locs cells slots la C EK EX hl hw hS h1 h2
  obtain ⟨x, rfl⟩ := Int.eq_ofNat_of_zero_le ha
  obtain ⟨y, rfl⟩ := Int.eq_ofNat_of_zero_le (Int.le_of_lt hb)
  refine lv_idiv C.1 C.2.1 dec (by show ¬ nI y = 0; exact nI_ne0 (by omega) (by omega)) ?_
  have e1 : Int32.ofInt (x : Int) / Int32.ofInt (y : Int) = Int32.ofInt ((x : Int) / (y : Int)) := pk_div (a := x) (d := y) (by omega) (by omega) (by omega)
  rw [e1]
  exact kk
theorem shl_1 : ∀ n, n < 31 → (1 : Int32) <<< (nI n &&& 31) = nI (2 ^ n) := by decide +kernel
theorem Go_ishl {n : Int} (dec : decode cc pc = .ok (.ishl, 1)) (h0 : 0 ≤ n) (h1 : n < 31) (k : Go G cc mt nx d bc bs (pc + 1) ls (vi ((2 ^ n.toNat : Nat) : Int) :: st) w K X) : Go G cc mt nx d bc bs pc ls (vi n :: vi 1 :: st) w K X := by
  intro p e R s m args below meth c Q H locs cells slots la C EK EX hl hw hS h1 h2
  have kk := k p e R s m args below meth c Q H locs cells slots la C EK EX hl hw hS h1 h2
  obtain ⟨x, rfl⟩ := Int.eq_ofNat_of_zero_le h0
  refine lv_ishl C.1 C.2.1 dec ?_
  have e1 : Int32.ofInt 1 <<< (Int32.ofInt (x : Int) &&& 31) = Int32.ofInt ((2 ^ x : Nat) : Int) := shl_1 x (by omega)
  rw [e1]
  exact kk
theorem nI_or (a b : Nat) : nI a ||| nI b = nI (a ||| b) := by
  apply Int32.toBitVec_inj.mp
  show BitVec.ofNat 32 a ||| BitVec.ofNat 32 b = BitVec.ofNat 32 (a ||| b)
  apply BitVec.eq_of_toNat_eq
  simp only [BitVec.toNat_or, BitVec.toNat_ofNat, Nat.or_mod_two_pow]
theorem Go_ior {a b : Nat} (dec : decode cc pc = .ok (.ior, 1)) (k : Go G cc mt nx d bc bs (pc + 1) ls (vi ((a ||| b : Nat) : Int) :: st) w K X) : Go G cc mt nx d bc bs pc ls (vi (b : Int) :: vi (a : Int) :: st) w K X := by
  intro p e R s m args below meth c Q H locs cells slots la C EK EX hl hw hS h1 h2
  have kk := k p e R s m args below meth c Q H locs cells slots la C EK EX hl hw hS h1 h2
  refine lv_ior C.1 C.2.1 dec ?_
  have e1 : Int32.ofInt (a : Int) ||| Int32.ofInt (b : Int) = Int32.ofInt ((a ||| b : Nat) : Int) := nI_or a b
  rw [e1]
  exact kk
theorem Go_iand63 {a : Int} (dec : decode cc pc = .ok (.iand, 1)) (k : ∀ j : Nat, j < 64 → Go G cc mt nx d bc bs (pc + 1) ls (vi (j : Int) :: st) w K X) : Go G cc mt nx d bc bs pc ls (vi 63 :: vi a :: st) w K X := by
  intro p e R s m args below meth c Q H locs cells slots la C EK EX hl hw hS h1 h2
  obtain ⟨j, hj, he⟩ := pk_andE (Int32.ofInt a) (m := 63) 6 (by decide)
  refine lv_iand C.1 C.2.1 dec ?_
  have e1 : Int32.ofInt a &&& Int32.ofInt 63 = Int32.ofInt (j : Int) := he
  rw [e1]
  exact k j hj p e R s m args below meth c Q H locs cells slots la C EK EX hl hw hS h1 h2
theorem Go_i2c {a : Int} (dec : decode cc pc = .ok (.i2c, 1)) (h0 : 0 ≤ a) (h1 : a < 65536) (k : Go G cc mt nx d bc bs (pc + 1) ls (vi a :: st) w K X) : Go G cc mt nx d bc bs pc ls (vi a :: st) w K X := by
  intro p e R s m args below meth c Q H locs cells slots la C EK EX hl hw hS h1 h2
  refine lv_i2c C.1 C.2.1 dec (v := Int32.ofInt a) ?_ (k p e R s m args below meth c Q H locs cells slots la C EK EX hl hw hS h1 h2)
  obtain ⟨x, rfl⟩ := Int.eq_ofNat_of_zero_le h0
  rw [iI_nat, pk_char, pk_tn (by omega), Nat.mod_eq_of_lt (by omega)]
theorem i2l_eq {a : Int} (h : inR a) : (Int32.ofInt a).toInt64 = Int64.ofInt a := by
  rw [← Int64.toInt_inj, Int32.toInt_toInt64, inR_toInt h, Int64.toInt_ofInt_of_le (by have := h.1; omega) (by have := h.2; omega)]
theorem Go_i2l {a : Int} (dec : decode cc pc = .ok (.i2l, 1)) (ha : inR a) (k : Go G cc mt nx d bc bs (pc + 1) ls (vl a :: st) w K X) : Go G cc mt nx d bc bs pc ls (vi a :: st) w K X := by
  intro p e R s m args below meth c Q H locs cells slots la C EK EX hl hw hS h1 h2
  exact lv_i2l C.1 C.2.1 dec (i2l_eq ha) (k p e R s m args below meth c Q H locs cells slots la C EK EX hl hw hS h1 h2)
theorem Go_lconst {n : Fin 2} {v : Int} (dec : decode cc pc = .ok (.lconst n, 1)) (hv : v = ((n : Nat) : Int)) (k : Go G cc mt nx d bc bs (pc + 1) ls (vl v :: st) w K X) : Go G cc mt nx d bc bs pc ls st w K X := by
  intro p e R s m args below meth c Q H locs cells slots la C EK EX hl hw hS h1 h2
  subst hv
  exact lv_lconst C.1 C.2.1 dec rfl (k p e R s m args below meth c Q H locs cells slots la C EK EX hl hw hS h1 h2)
theorem Go_lcmp {a b : Int} (dec : decode cc pc = .ok (.lcmp, 1)) (ha : inR a) (hb : inR b) (k : Go G cc mt nx d bc bs (pc + 1) ls (vi (if b < a then 1 else if a = b then 0 else -1) :: st) w K X) : Go G cc mt nx d bc bs pc ls (vl b :: vl a :: st) w K X := by
  intro p e R s m args below meth c Q H locs cells slots la C EK EX hl hw hS h1 h2
  have kk := k p e R s m args below meth c Q H locs cells slots la C EK EX hl hw hS h1 h2
  refine W.lcmp C.1 C.2.1 dec ?_
  have t : ∀ {z : Int}, inR z → (Int64.ofInt z).toInt = z := fun h => Int64.toInt_ofInt_of_le (by have := h.1; omega) (by have := h.2; omega)
  have e1 : lg_cmp (Int64.ofInt a) (Int64.ofInt b) = Int32.ofInt (if b < a then 1 else if a = b then 0 else -1) := by
    unfold lg_cmp
    have q1 : (Int64.ofInt a > Int64.ofInt b) ↔ b < a := by
      show Int64.ofInt b < Int64.ofInt a ↔ _
      rw [Int64.lt_iff_toInt_lt, t ha, t hb]
    have q2 : (Int64.ofInt a = Int64.ofInt b) ↔ a = b := by rw [← Int64.toInt_inj, t ha, t hb]
    by_cases h : b < a
    · rw [if_pos (q1.mpr h), if_pos h]; rfl
    · rw [if_neg (fun z => h (q1.mp z)), if_neg h]
      by_cases h2 : a = b
      · rw [if_pos (q2.mpr h2), if_pos h2]; rfl
      · rw [if_neg (fun z => h2 (q2.mp z)), if_neg h2]; rfl
  rw [e1]
  exact kk
theorem Go_mmax {a b : Int} {idx : Nat} (dec : decode cc pc = .ok (.invokestatic idx, 3)) (lk : Cond.methodLink mt.2.1 idx Lib.Math.max.name ∈ GW) (hd : 0 < d) (ha : inR a) (hb : inR b) (hsum : (st.map fun v => (cv G v).category).sum ≤ 8) (k : Go G cc mt nx d bc bs (pc + 3) ls (vi (if a < b then b else a) :: st) w K X) : Go G cc mt nx d bc bs pc ls (vi b :: vi a :: st) w K X := by
  intro p e R s m args below meth c Q H locs cells slots la C EK EX hl hw hS h1 h2
  have kk := k p e R s m args below meth c Q H locs cells slots la C EK EX hl hw hS h1 h2
  obtain ⟨cx, cb, -, co, ct, -, -, cml, cf, cl, cK, -⟩ := id C
  refine va_mmax cx cb (by rw [cml, hl.1]) co (ct _ lk) (ct _ gMstat_max) (ct _ gi_Math) (ct _ gMcode_max) (by omega) (by rw [List.map_map]; have : ((List.map ((fun v => v.category) ∘ cv G) st)).sum ≤ 8 := hsum; omega) (by omega) (by omega) dec ?_
  have e1 : (if Int32.ofInt a < Int32.ofInt b then Int32.ofInt b else Int32.ofInt a) = Int32.ofInt (if a < b then b else a) := by
    by_cases h : a < b
    · rw [if_pos ((iI_lt ha hb).mpr h), if_pos h]
    · rw [if_neg (fun q => h ((iI_lt ha hb).mp q)), if_neg h]
  rw [e1]
  exact kk
theorem Go_mmin {a b : Int} {idx : Nat} (dec : decode cc pc = .ok (.invokestatic idx, 3)) (lk : Cond.methodLink mt.2.1 idx Lib.Math.min.name ∈ GW) (hd : 0 < d) (ha : inR a) (hb : inR b) (hsum : (st.map fun v => (cv G v).category).sum ≤ 8) (k : Go G cc mt nx d bc bs (pc + 3) ls (vi (if b < a then b else a) :: st) w K X) : Go G cc mt nx d bc bs pc ls (vi b :: vi a :: st) w K X := by
  intro p e R s m args below meth c Q H locs cells slots la C EK EX hl hw hS h1 h2
  have kk := k p e R s m args below meth c Q H locs cells slots la C EK EX hl hw hS h1 h2
  obtain ⟨cx, cb, -, co, ct, -, -, cml, cf, cl, cK, -⟩ := id C
  refine va_mmin cx cb (by rw [cml, hl.1]) co (ct _ lk) (ct _ gMstat_min) (ct _ gi_Math) (ct _ gMcode_min) (by omega) (by rw [List.map_map]; have : ((List.map ((fun v => v.category) ∘ cv G) st)).sum ≤ 8 := hsum; omega) (by omega) (by omega) dec ?_
  have e1 : (if Int32.ofInt b < Int32.ofInt a then Int32.ofInt b else Int32.ofInt a) = Int32.ofInt (if b < a then b else a) := by
    by_cases h : b < a
    · rw [if_pos ((iI_lt hb ha).mpr h), if_pos h]
    · rw [if_neg (fun q => h ((iI_lt hb ha).mp q)), if_neg h]
  rw [e1]
  exact kk
theorem Go_mabs {a : Int} {idx : Nat} (dec : decode cc pc = .ok (.invokestatic idx, 3)) (lk : Cond.methodLink mt.2.1 idx Lib.Math.abs.name ∈ GW) (hd : 0 < d) (ha : inR a) (hsum : (st.map fun v => (cv G v).category).sum ≤ 8) (k : Go G cc mt nx d bc bs (pc + 3) ls (vi (if 0 ≤ a then a else -a) :: st) w K X) : Go G cc mt nx d bc bs pc ls (vi a :: st) w K X := by
  intro p e R s m args below meth c Q H locs cells slots la C EK EX hl hw hS h1 h2
  have kk := k p e R s m args below meth c Q H locs cells slots la C EK EX hl hw hS h1 h2
  obtain ⟨cx, cb, -, co, ct, -, -, cml, cf, cl, cK, -⟩ := id C
  refine va_mabs cx cb (by rw [cml, hl.1]) co (ct _ lk) (ct _ gMstat_abs) (ct _ gi_Math) (ct _ gMcode_abs) (by omega) (by rw [List.map_map]; have : ((List.map ((fun v => v.category) ∘ cv G) st)).sum ≤ 8 := hsum; omega) (by omega) (by omega) dec ?_
  have e1 : (if 0 ≤ Int32.ofInt a then Int32.ofInt a else 0 - Int32.ofInt a) = Int32.ofInt (if 0 ≤ a then a else -a) := by
    show (if Int32.ofInt 0 ≤ Int32.ofInt a then Int32.ofInt a else 0 - Int32.ofInt a) = Int32.ofInt (if 0 ≤ a then a else -a)
    by_cases h : 0 ≤ a
    · rw [if_pos ((iI_le inR_0 ha).mpr h), if_pos h]
    · rw [if_neg (fun q => h ((iI_le inR_0 ha).mp q)), if_neg h]
      show Int32.ofInt 0 - Int32.ofInt a = _
      rw [← Int32.ofInt_sub, Int.zero_sub]
  rw [e1]
  exact kk
/-- the two static arrays -/
theorem Go_getA (dec : decode cc pc = .ok (.getstatic 15, 3)) (ho : mt.2.1 = RX2) (k : Go G cc mt nx d bc bs (pc + 3) ls (vr 1001 :: st) w K X) : Go G cc mt nx d bc bs pc ls st w K X := by
  intro p e R s m args below meth c Q H locs cells slots la C EK EX hl hw hS h1 h2
  obtain ⟨cx, cb, -, co, ct, -, -, cml, cf, cl, cK, -⟩ := id C
  obtain ⟨-, -, -, ⟨z1, z2⟩, -⟩ := cK
  rw [ho] at co
  exact va_gets cx cb z1 hS co (ct _ fsX2_15) (fun x h => h) dec (k p e R s m args below meth c Q H locs cells slots la C EK EX hl hw hS h1 h2)
theorem Go_getB (dec : decode cc pc = .ok (.getstatic 22, 3)) (ho : mt.2.1 = RX2) (k : Go G cc mt nx d bc bs (pc + 3) ls (vr 1002 :: st) w K X) : Go G cc mt nx d bc bs pc ls st w K X := by
  intro p e R s m args below meth c Q H locs cells slots la C EK EX hl hw hS h1 h2
  obtain ⟨cx, cb, -, co, ct, -, -, cml, cf, cl, cK, -⟩ := id C
  obtain ⟨-, -, -, -, ⟨z1, z2⟩, -⟩ := cK
  rw [ho] at co
  exact va_gets cx cb z1 hS co (ct _ fsX2_22) (fun x h => h) dec (k p e R s m args below meth c Q H locs cells slots la C EK EX hl hw hS h1 h2)
theorem Go_saldA {z : Int} (dec : decode cc pc = .ok (.iaload, 1)) (hz0 : 0 ≤ z) (hz : z < 4) (k : Go G cc mt nx d bc bs (pc + 1) ls (vi (tabA z.toNat) :: st) w K X) : Go G cc mt nx d bc bs pc ls (vi z :: vr 1001 :: st) w K X := by
  intro p e R s m args below meth c Q H locs cells slots la C EK EX hl hw hS h1 h2
  obtain ⟨cx, cb, -, co, ct, -, -, cml, cf, cl, cK, -⟩ := id C
  obtain ⟨-, -, -, ⟨z1, z2⟩, -⟩ := cK
  obtain ⟨i1, i2⟩ := iI_in (n := 4) hz0 hz (by decide)
  exact va_ti cx cb z2 hS i1 (by show Value.int (Int32.ofInt _) = _; rw [i2]; rfl) dec (k p e R s m args below meth c Q H locs cells slots la C EK EX hl hw hS h1 h2)
theorem Go_saldB {z : Int} (dec : decode cc pc = .ok (.iaload, 1)) (hz0 : 0 ≤ z) (hz : z < 4) (k : Go G cc mt nx d bc bs (pc + 1) ls (vi (tabB z.toNat) :: st) w K X) : Go G cc mt nx d bc bs pc ls (vi z :: vr 1002 :: st) w K X := by
  intro p e R s m args below meth c Q H locs cells slots la C EK EX hl hw hS h1 h2
  obtain ⟨cx, cb, -, co, ct, -, -, cml, cf, cl, cK, -⟩ := id C
  obtain ⟨-, -, -, -, ⟨z1, z2⟩, -⟩ := cK
  obtain ⟨i1, i2⟩ := iI_in (n := 4) hz0 hz (by decide)
  exact va_ti cx cb z2 hS i1 (by show Value.int (Int32.ofInt _) = _; rw [i2]; rfl) dec (k p e R s m args below meth c Q H locs cells slots la C EK EX hl hw hS h1 h2)
end GoMore
