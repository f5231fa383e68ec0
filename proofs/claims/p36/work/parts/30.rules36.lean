set_option maxRecDepth 20000 in
theorem ciL_7 : Cond.constant RL 7 (43787) ∈ GW := inG (mt2 (List.mem_of_getElem? (i := 13) rfl)) rfl
set_option maxRecDepth 20000 in
theorem ciL_8 : Cond.constant RL 8 (2466291) ∈ GW := inG (mt2 (List.mem_of_getElem? (i := 14) rfl)) rfl
set_option maxRecDepth 20000 in
theorem ciL_9 : Cond.constant RL 9 (2147483647) ∈ GW := inG (mt2 (List.mem_of_getElem? (i := 18) rfl)) rfl
theorem lsOK_storeL {G : Gm} {la : Array Slot} {ls : List (Option Vl)} {i : Nat} {x : Int} (h : lsOK G la ls) (hi : i + 1 < ls.length) (hp : ∀ j : Nat, j + 1 = i → c1 (ls.getD j none) = true) :
    ∀ la' : Array Slot, lv_has la' ls.length ((i, Value.long (Int64.ofInt x)) :: ((List.range ls.length).filterMap fun i => (ls.getD i none).map fun v => (i, cv G v)).filter (fun q => !(q.1 == i) && (!(q.1 == i + 1) && !(q.1 + 1 == i && q.2.category == 2)))) → lsOK G la' ((ls.set i (some (vl x))).set (i + 1) none) := by
  intro la' hl
  refine ⟨by rw [List.length_set, List.length_set]; exact hl.1, hl.2.1, fun j y hj => ?_⟩
  by_cases h2 : j = i + 1
  · subst h2
    rw [List.getElem?_set_self (by rw [List.length_set]; exact hi)] at hj
    cases hj
  · rw [List.getElem?_set_ne (Ne.symm h2)] at hj
    by_cases hji : j = i
    · subst hji
      rw [List.getElem?_set_self (by omega)] at hj
      cases hj
      exact hl.2.2 _ List.mem_cons_self
    · rw [List.getElem?_set_ne (Ne.symm hji)] at hj
      have hjl : j < ls.length := (List.getElem?_eq_some_iff.mp hj).1
      refine hl.2.2 (j, cv G y) (List.mem_cons_of_mem _ (List.mem_filter.mpr ⟨List.mem_filterMap.mpr ⟨j, List.mem_range.mpr hjl, ?_⟩, ?_⟩))
      · rw [List.getD_eq_getElem?_getD, hj]
        rfl
      · simp only [Bool.and_eq_true, Bool.not_eq_true', beq_eq_false_iff_ne, ne_eq, Bool.and_eq_false_iff]
        refine ⟨hji, h2, ?_⟩
        by_cases h1 : j + 1 = i
        · right
          have := hp j h1
          rw [List.getD_eq_getElem?_getD, hj] at this
          rw [cv_cat1 this]
          decide
        · exact Or.inl h1
/-- the digits of a packed int -/
def dgt (x r : Nat) : Nat := x / 2 ^ (7 * r) % 128
def putD (x r s : Nat) : Nat := (x - dgt x r * 2 ^ (7 * r)) ||| (s * 2 ^ (7 * r))
theorem r4 {r : Nat} (h : r < 4) : r = 0 ∨ r = 1 ∨ r = 2 ∨ r = 3 := by omega
theorem or_sum {hi lo s k : Nat} (hl : lo < 2 ^ k) (hs : s < 128) : (2 ^ (k + 7) * hi + lo) ||| (s * 2 ^ k) = 2 ^ (k + 7) * hi + (2 ^ k * s + lo) := by
  have h1 : lo < 2 ^ (k + 7) := Nat.lt_of_lt_of_le hl (Nat.pow_le_pow_right (by decide) (by omega))
  have h2 : 2 ^ k * s + lo < 2 ^ (k + 7) := by
    have : 2 ^ k * s + lo < 2 ^ k * (s + 1) := by rw [Nat.mul_add, Nat.mul_one]; omega
    refine Nat.lt_of_lt_of_le this ?_
    rw [Nat.pow_add]
    exact Nat.mul_le_mul_left _ (by omega)
  rw [Nat.two_pow_add_eq_or_of_lt h1, Nat.two_pow_add_eq_or_of_lt h2, Nat.two_pow_add_eq_or_of_lt hl, Nat.mul_comm s, Nat.or_assoc, Nat.or_comm lo]
theorem dec3 (x r : Nat) : x = 2 ^ (7 * r + 7) * (x / 2 ^ (7 * r + 7)) + (2 ^ (7 * r) * dgt x r + x % 2 ^ (7 * r)) := by
  unfold dgt
  have a1 := Nat.div_add_mod x (2 ^ (7 * r))
  have a2 := Nat.div_add_mod (x / 2 ^ (7 * r)) 128
  have a3 : x / 2 ^ (7 * r) / 128 = x / 2 ^ (7 * r + 7) := by rw [Nat.div_div_eq_div_mul, Nat.pow_add]
  rw [a3] at a2
  have a4 : 2 ^ (7 * r + 7) * (x / 2 ^ (7 * r + 7)) = 2 ^ (7 * r) * (128 * (x / 2 ^ (7 * r + 7))) := by rw [Nat.pow_add, Nat.mul_assoc]
  have a5 : 2 ^ (7 * r) * (x / 2 ^ (7 * r)) = 2 ^ (7 * r) * (128 * (x / 2 ^ (7 * r + 7))) + 2 ^ (7 * r) * (x / 2 ^ (7 * r) % 128) := by rw [← Nat.mul_add, a2]
  rw [a4]
  omega
theorem putD_eq {x r s : Nat} (hs : s < 128) : putD x r s = 2 ^ (7 * r + 7) * (x / 2 ^ (7 * r + 7)) + (2 ^ (7 * r) * s + x % 2 ^ (7 * r)) := by
  have e : x - dgt x r * 2 ^ (7 * r) = 2 ^ (7 * r + 7) * (x / 2 ^ (7 * r + 7)) + x % 2 ^ (7 * r) := by
    have e2 := dec3 x r
    rw [Nat.mul_comm (dgt x r)]
    omega
  unfold putD
  rw [e]
  exact or_sum (Nat.mod_lt _ (Nat.two_pow_pos _)) hs
theorem putD_lt {x r s : Nat} (hx : x < 268435456) (hr : r < 4) (hs : s < 128) : putD x r s < 268435456 := by
  rw [putD_eq hs]
  rcases r4 hr with rfl | rfl | rfl | rfl <;> (simp only [Nat.reduceMul, Nat.reduceAdd, Nat.reducePow] <;> first | omega | (split <;> omega))
theorem dgt_put {hi b lo r s r' : Nat} (hl : lo < 2 ^ (7 * r)) (hb : b < 128) (hr : r < 4) (hr' : r' < 4) (hs : s < 128) : dgt (2 ^ (7 * r + 7) * hi + (2 ^ (7 * r) * s + lo)) r' = if r' = r then s else dgt (2 ^ (7 * r + 7) * hi + (2 ^ (7 * r) * b + lo)) r' := by
  by_cases c : r' = r
  · rw [if_pos c, c]
    unfold dgt
    rcases r4 hr with rfl | rfl | rfl | rfl <;> simp only [Nat.reduceMul, Nat.reduceAdd, Nat.reducePow] at hl ⊢ <;> omega
  · rw [if_neg c]
    unfold dgt
    rcases r4 hr with rfl | rfl | rfl | rfl <;> rcases r4 hr' with rfl | rfl | rfl | rfl <;> simp only [Nat.reduceMul, Nat.reduceAdd, Nat.reducePow] at hl ⊢ <;> first | omega | exact absurd rfl c
theorem putD_dgt {x r s r' : Nat} (hr : r < 4) (hr' : r' < 4) (hs : s < 128) : dgt (putD x r s) r' = if r' = r then s else dgt x r' := by
  rw [putD_eq hs, dgt_put (b := dgt x r) (Nat.mod_lt _ (Nat.two_pow_pos _)) (Nat.mod_lt _ (by decide)) hr hr' hs, ← dec3]
theorem dgt_lt (x r : Nat) : dgt x r < 128 := Nat.mod_lt _ (by decide)
section GoR
variable {G : Gm} {cc : ByteArray} {mt : Mt} {nx : Option Nat} {d bc bs pc : Nat} {ls ls' : List (Option Vl)} {st : List Vl} {w : Wd} {K : Kt} {X : Xt}
theorem Go_ladd {a b : Int} (dec : decode cc pc = .ok (.ladd, 1)) (k : Go G cc mt nx d bc bs (pc + 1) ls (vl (a + b) :: st) w K X) : Go G cc mt nx d bc bs pc ls (vl b :: vl a :: st) w K X := by
  intro p e R s m args below meth c Q H locs cells slots la C EK EX hl hw hS h1 h2
  have kk := k p e R s m args below meth c Q H locs cells slots la C EK EX hl hw hS h1 h2
  refine lv_ladd C.1 C.2.1 dec ?_
  rw [← Int64.ofInt_add]
  exact kk
theorem Go_lmul {a b : Int} (dec : decode cc pc = .ok (.lmul, 1)) (k : Go G cc mt nx d bc bs (pc + 1) ls (vl (a * b) :: st) w K X) : Go G cc mt nx d bc bs pc ls (vl b :: vl a :: st) w K X := by
  intro p e R s m args below meth c Q H locs cells slots la C EK EX hl hw hS h1 h2
  have kk := k p e R s m args below meth c Q H locs cells slots la C EK EX hl hw hS h1 h2
  refine lv_lmul C.1 C.2.1 dec ?_
  rw [← Int64.ofInt_mul]
  exact kk
theorem Go_ldcI {idx : Nat} {v : Int32} {z : Int} (dec : decode cc pc = .ok (.ldc idx, 2)) (hz : Int32.ofInt z = v) (lk : Cond.constant mt.2.1 idx v ∈ GW) (k : Go G cc mt nx d bc bs (pc + 2) ls (vi z :: st) w K X) : Go G cc mt nx d bc bs pc ls st w K X := by
  intro p e R s m args below meth c Q H locs cells slots la C EK EX hl hw hS h1 h2
  obtain ⟨cx, cb, -, co, ct, -⟩ := id C
  subst hz
  exact lv_ldc cx cb co (ct _ lk) dec (k p e R s m args below meth c Q H locs cells slots la C EK EX hl hw hS h1 h2)
theorem Go_ldcL {idx : Nat} {v : Int64} {z : Int} (dec : decode cc pc = .ok (.ldc2_w idx, 3)) (hz : Int64.ofInt z = v) (lk : Cond.constantLong mt.2.1 idx v ∈ GW) (k : Go G cc mt nx d bc bs (pc + 3) ls (vl z :: st) w K X) : Go G cc mt nx d bc bs pc ls st w K X := by
  intro p e R s m args below meth c Q H locs cells slots la C EK EX hl hw hS h1 h2
  obtain ⟨cx, cb, -, co, ct, -⟩ := id C
  subst hz
  exact lv_ldc2 cx cb co (ct _ lk) dec (k p e R s m args below meth c Q H locs cells slots la C EK EX hl hw hS h1 h2)
theorem Go_lload_n {j : Fin 4} {i : Nat} {x : Int} (dec : decode cc pc = .ok (.lload_n j, 1)) (hi : (j : Nat) = i) (h : ls[i]? = some (some (vl x))) (k : Go G cc mt nx d bc bs (pc + 1) ls (vl x :: st) w K X) : Go G cc mt nx d bc bs pc ls st w K X := by
  intro p e R s m args below meth c Q H locs cells slots la C EK EX hl hw hS h1 h2
  exact lv_lload_n C.1 C.2.1 dec hi (hl.2.2 i _ h) (k p e R s m args below meth c Q H locs cells slots la C EK EX hl hw hS h1 h2)
theorem Go_lload {i : Nat} {x : Int} (dec : decode cc pc = .ok (.lload i, 2)) (h : ls[i]? = some (some (vl x))) (k : Go G cc mt nx d bc bs (pc + 2) ls (vl x :: st) w K X) : Go G cc mt nx d bc bs pc ls st w K X := by
  intro p e R s m args below meth c Q H locs cells slots la C EK EX hl hw hS h1 h2
  exact lv_lload C.1 C.2.1 dec (hl.2.2 i _ h) (k p e R s m args below meth c Q H locs cells slots la C EK EX hl hw hS h1 h2)
theorem Go_lstore_n {j : Fin 4} {i : Nat} {x : Int} {ls' : List (Option Vl)} (dec : decode cc pc = .ok (.lstore_n j, 1)) (hi : (j : Nat) = i) (hl' : (ls.set i (some (vl x))).set (i + 1) none = ls') (hn : i + 1 < ls.length) (hp : ∀ j : Nat, j + 1 = i → c1 (ls.getD j none) = true) (k : Go G cc mt nx d bc bs (pc + 1) ls' st w K X) : Go G cc mt nx d bc bs pc ls (vl x :: st) w K X := by
  intro p e R s m args below meth c Q H locs cells slots la C EK EX hl hw hS h1 h2
  subst hl'
  refine lv_lstore_n C.1 C.2.1 dec hi (lsOK_list hl) hn rfl (fun la' hla => ?_)
  have hk := lsOK_storeL (x := x) hl hn hp la' hla
  exact k p e R s m args below meth c Q H locs cells slots la' (by rw [List.length_set, List.length_set]; exact C) EK EX hk hw hS h1 h2
theorem Go_lstore {i : Nat} {x : Int} {ls' : List (Option Vl)} (dec : decode cc pc = .ok (.lstore i, 2)) (hl' : (ls.set i (some (vl x))).set (i + 1) none = ls') (hn : i + 1 < ls.length) (hp : ∀ j : Nat, j + 1 = i → c1 (ls.getD j none) = true) (k : Go G cc mt nx d bc bs (pc + 2) ls' st w K X) : Go G cc mt nx d bc bs pc ls (vl x :: st) w K X := by
  intro p e R s m args below meth c Q H locs cells slots la C EK EX hl hw hS h1 h2
  subst hl'
  refine lv_lstore C.1 C.2.1 dec (lsOK_list hl) hn rfl (fun la' hla => ?_)
  have hk := lsOK_storeL (x := x) hl hn hp la' hla
  exact k p e R s m args below meth c Q H locs cells slots la' (by rw [List.length_set, List.length_set]; exact C) EK EX hk hw hS h1 h2
/-- and: any, the low 31 bits, the low 7 -/
theorem Go_iandA {a b : Int} (dec : decode cc pc = .ok (.iand, 1)) (k : ∀ z : Int, inR z → Go G cc mt nx d bc bs (pc + 1) ls (vi z :: st) w K X) : Go G cc mt nx d bc bs pc ls (vi b :: vi a :: st) w K X := by
  intro p e R s m args below meth c Q H locs cells slots la C EK EX hl hw hS h1 h2
  have kk := k (Int32.ofInt a &&& Int32.ofInt b).toInt ⟨Int32.le_toInt _, Int32.toInt_lt _⟩ p e R s m args below meth c Q H locs cells slots la C EK EX hl hw hS h1 h2
  refine lv_iand C.1 C.2.1 dec ?_
  have e1 : cv G (vi (Int32.ofInt a &&& Int32.ofInt b).toInt) = .int (Int32.ofInt a &&& Int32.ofInt b) := by
    show Value.int (Int32.ofInt _) = _
    rw [Int32.ofInt_toInt]
  rw [List.map_cons, e1] at kk
  exact kk
theorem Go_iand31 {a : Int} (dec : decode cc pc = .ok (.iand, 1)) (k : ∀ j : Nat, j < 2147483648 → Go G cc mt nx d bc bs (pc + 1) ls (vi (j : Int) :: st) w K X) : Go G cc mt nx d bc bs pc ls (vi 2147483647 :: vi a :: st) w K X := by
  intro p e R s m args below meth c Q H locs cells slots la C EK EX hl hw hS h1 h2
  obtain ⟨j, hj, he⟩ := pk_andE (Int32.ofInt a) (m := Int32.ofInt 2147483647) 31 (by decide)
  refine lv_iand C.1 C.2.1 dec ?_
  have e1 : Int32.ofInt a &&& Int32.ofInt 2147483647 = Int32.ofInt (j : Int) := he
  rw [e1]
  exact k j hj p e R s m args below meth c Q H locs cells slots la C EK EX hl hw hS h1 h2
theorem Go_iand127 {a : Nat} (dec : decode cc pc = .ok (.iand, 1)) (ha : a < 268435456) (k : Go G cc mt nx d bc bs (pc + 1) ls (vi ((a % 128 : Nat) : Int) :: st) w K X) : Go G cc mt nx d bc bs pc ls (vi 127 :: vi (a : Int) :: st) w K X := by
  intro p e R s m args below meth c Q H locs cells slots la C EK EX hl hw hS h1 h2
  have kk := k p e R s m args below meth c Q H locs cells slots la C EK EX hl hw hS h1 h2
  refine lv_iand C.1 C.2.1 dec ?_
  have e1 : Int32.ofInt (a : Int) &&& Int32.ofInt 127 = Int32.ofInt ((a % 128 : Nat) : Int) := pk_andN (n := a) (by omega) (m := Int32.ofInt 127) 7 (by decide)
  rw [e1]
  exact kk
theorem Go_ishrA {a b : Int} (dec : decode cc pc = .ok (.ishr, 1)) (k : ∀ z : Int, inR z → Go G cc mt nx d bc bs (pc + 1) ls (vi z :: st) w K X) : Go G cc mt nx d bc bs pc ls (vi b :: vi a :: st) w K X := by
  intro p e R s m args below meth c Q H locs cells slots la C EK EX hl hw hS h1 h2
  have kk := k (Int32.ofInt a >>> (Int32.ofInt b &&& 31)).toInt ⟨Int32.le_toInt _, Int32.toInt_lt _⟩ p e R s m args below meth c Q H locs cells slots la C EK EX hl hw hS h1 h2
  refine lv_ishr C.1 C.2.1 dec ?_
  have e1 : cv G (vi (Int32.ofInt a >>> (Int32.ofInt b &&& 31)).toInt) = .int (Int32.ofInt a >>> (Int32.ofInt b &&& 31)) := by
    show Value.int (Int32.ofInt _) = _
    rw [Int32.ofInt_toInt]
  rw [List.map_cons, e1] at kk
  exact kk
theorem sh7 {r : Nat} (h : r < 4) : ((Int32.ofInt ((7 * r : Nat) : Int) &&& 31).toBitVec.smod 32).toNat = 7 * r := by
  rcases r4 h with rfl | rfl | rfl | rfl <;> decide
/-- shifts by the digits' places -/
theorem Go_ishr7 {x r : Nat} {z : Int} (dec : decode cc pc = .ok (.ishr, 1)) (hx : x < 268435456) (hr : r < 4) (hz : z = ((7 * r : Nat) : Int)) (k : Go G cc mt nx d bc bs (pc + 1) ls (vi ((x / 2 ^ (7 * r) : Nat) : Int) :: st) w K X) : Go G cc mt nx d bc bs pc ls (vi z :: vi (x : Int) :: st) w K X := by
  intro p e R s m args below meth c Q H locs cells slots la C EK EX hl hw hS h1 h2
  have kk := k p e R s m args below meth c Q H locs cells slots la C EK EX hl hw hS h1 h2
  subst hz
  refine lv_ishr C.1 C.2.1 dec ?_
  have e1 : Int32.ofInt (x : Int) >>> (Int32.ofInt ((7 * r : Nat) : Int) &&& 31) = Int32.ofInt ((x / 2 ^ (7 * r) : Nat) : Int) := pk_shrN (n := x) (by omega) _ _ (sh7 hr)
  rw [e1]
  exact kk
theorem p7 {r : Nat} (h : r < 4) : 2 ^ (7 * r) ≤ 2097152 ∧ 0 < 2 ^ (7 * r) := by
  rcases r4 h with rfl | rfl | rfl | rfl <;> decide
theorem Go_ishl7 {x r : Nat} {z : Int} (dec : decode cc pc = .ok (.ishl, 1)) (hx : x < 128) (hr : r < 4) (hz : z = ((7 * r : Nat) : Int)) (k : Go G cc mt nx d bc bs (pc + 1) ls (vi ((x * 2 ^ (7 * r) : Nat) : Int) :: st) w K X) : Go G cc mt nx d bc bs pc ls (vi z :: vi (x : Int) :: st) w K X := by
  intro p e R s m args below meth c Q H locs cells slots la C EK EX hl hw hS h1 h2
  have kk := k p e R s m args below meth c Q H locs cells slots la C EK EX hl hw hS h1 h2
  subst hz
  refine lv_ishl C.1 C.2.1 dec ?_
  have e1 : Int32.ofInt (x : Int) <<< (Int32.ofInt ((7 * r : Nat) : Int) &&& 31) = Int32.ofInt ((x * 2 ^ (7 * r) : Nat) : Int) := pk_shlN (n := x) _ _ (sh7 hr) (by
    have := (p7 hr).1
    have q : x * 2 ^ (7 * r) ≤ 127 * 2097152 := Nat.mul_le_mul (by omega) this
    omega)
  rw [e1]
  exact kk
theorem Go_ixorM {a : Int} (dec : decode cc pc = .ok (.ixor, 1)) (k : Go G cc mt nx d bc bs (pc + 1) ls (vi (-a - 1) :: st) w K X) : Go G cc mt nx d bc bs pc ls (vi (-1) :: vi a :: st) w K X := by
  intro p e R s m args below meth c Q H locs cells slots la C EK EX hl hw hS h1 h2
  have kk := k p e R s m args below meth c Q H locs cells slots la C EK EX hl hw hS h1 h2
  refine lv_ixor C.1 C.2.1 dec ?_
  have e1 : Int32.ofInt a ^^^ Int32.ofInt (-1) = Int32.ofInt (-a - 1) := by
    have h1 : Int32.ofInt (-a - 1) = -(Int32.ofInt a) - 1 := by rw [Int32.ofInt_sub, Int32.ofInt_neg]; rfl
    rw [h1]
    apply Int32.toBitVec_inj.mp
    show (Int32.ofInt a).toBitVec ^^^ BitVec.allOnes 32 = -(Int32.ofInt a).toBitVec - 1#32
    rw [BitVec.xor_allOnes, BitVec.neg_eq_not_add, BitVec.add_sub_cancel]
  rw [e1]
  exact kk
theorem and_dgt {x r : Nat} (hx : x < 268435456) (hr : r < 4) : Int32.ofInt (x : Int) &&& Int32.ofInt (-((127 * 2 ^ (7 * r) : Nat) : Int) - 1) = Int32.ofInt ((x - dgt x r * 2 ^ (7 * r) : Nat) : Int) := by
  have e1 : Int32.ofInt (-((127 * 2 ^ (7 * r) : Nat) : Int) - 1) = ~~~ (Int32.ofInt ((127 * 2 ^ (7 * r) : Nat) : Int)) := by
    rw [Int32.ofInt_sub, Int32.ofInt_neg]
    apply Int32.toBitVec_inj.mp
    show -(Int32.ofInt _).toBitVec - 1#32 = ~~~ (Int32.ofInt _).toBitVec
    rw [BitVec.neg_eq_not_add, BitVec.add_sub_cancel]
  rw [e1]
  have e2 := dec3 x r
  have e3 : x - dgt x r * 2 ^ (7 * r) = 2 ^ (7 * r + 7) * (x / 2 ^ (7 * r + 7)) + x % 2 ^ (7 * r) := by
    rw [Nat.mul_comm (dgt x r)]
    omega
  rw [e3]
  apply Int32.toBitVec_inj.mp
  show BitVec.ofNat 32 x &&& ~~~ BitVec.ofNat 32 (127 * 2 ^ (7 * r)) = BitVec.ofNat 32 _
  apply BitVec.eq_of_getLsbD_eq
  intro i hi
  have lo : x % 2 ^ (7 * r) < 2 ^ (7 * r) := Nat.mod_lt _ (Nat.two_pow_pos _)
  have lo2 : x % 2 ^ (7 * r) < 2 ^ (7 * r + 7) := Nat.lt_of_lt_of_le lo (Nat.pow_le_pow_right (by decide) (by omega))
  have mi : 2 ^ (7 * r) * dgt x r + x % 2 ^ (7 * r) < 2 ^ (7 * r + 7) := by
    have := dgt_lt x r
    have q : 2 ^ (7 * r) * dgt x r + x % 2 ^ (7 * r) < 2 ^ (7 * r) * (dgt x r + 1) := by rw [Nat.mul_add, Nat.mul_one]; omega
    refine Nat.lt_of_lt_of_le q ?_
    rw [Nat.pow_add]
    exact Nat.mul_le_mul_left _ (by omega)
  have t1 : x.testBit i = if i < 7 * r + 7 then (if i < 7 * r then (x % 2 ^ (7 * r)).testBit i else (dgt x r).testBit (i - 7 * r)) else (x / 2 ^ (7 * r + 7)).testBit (i - (7 * r + 7)) := by
    conv => lhs; rw [e2]
    rw [Nat.testBit_two_pow_mul_add _ mi, Nat.testBit_two_pow_mul_add _ lo]
  have t2 : (127 * 2 ^ (7 * r)).testBit i = if i < 7 * r then false else decide (i - 7 * r < 7) := by
    have z0 : (0 : Nat) < 2 ^ (7 * r) := Nat.two_pow_pos _
    have e4 : 127 * 2 ^ (7 * r) = 2 ^ (7 * r) * (2 ^ 7 - 1) + 0 := by rw [Nat.mul_comm]; rfl
    rw [e4, Nat.testBit_two_pow_mul_add _ z0, Nat.testBit_two_pow_sub_one, Nat.zero_testBit]
  rw [BitVec.getLsbD_and, BitVec.getLsbD_not, BitVec.getLsbD_ofNat, BitVec.getLsbD_ofNat, BitVec.getLsbD_ofNat, t1, t2, Nat.testBit_two_pow_mul_add _ lo2]
  by_cases c1 : i < 7 * r
  · simp only [hi, c1, show i < 7 * r + 7 by omega, if_true, decide_true, Bool.true_and, Bool.not_false, Bool.and_true]
  · by_cases c2 : i < 7 * r + 7
    · have z : (x % 2 ^ (7 * r)).testBit i = false := Nat.testBit_lt_two_pow (Nat.lt_of_lt_of_le lo (Nat.pow_le_pow_right (by decide) (by omega)))
      simp only [hi, c1, c2, if_true, if_false, decide_true, Bool.true_and, show i - 7 * r < 7 by omega, Bool.not_true, Bool.and_false, z]
    · simp only [hi, c1, c2, if_false, decide_true, Bool.true_and, show ¬ (i - 7 * r < 7) by omega, decide_false, Bool.not_false, Bool.and_true]
theorem Go_iandM {x r : Nat} {z : Int} (dec : decode cc pc = .ok (.iand, 1)) (hx : x < 268435456) (hr : r < 4) (hz : z = -((127 * 2 ^ (7 * r) : Nat) : Int) - 1) (k : Go G cc mt nx d bc bs (pc + 1) ls (vi ((x - dgt x r * 2 ^ (7 * r) : Nat) : Int) :: st) w K X) : Go G cc mt nx d bc bs pc ls (vi z :: vi (x : Int) :: st) w K X := by
  intro p e R s m args below meth c Q H locs cells slots la C EK EX hl hw hS h1 h2
  have kk := k p e R s m args below meth c Q H locs cells slots la C EK EX hl hw hS h1 h2
  subst hz
  refine lv_iand C.1 C.2.1 dec ?_
  rw [and_dgt hx hr]
  exact kk
/-- a loop whose rounds take room -/
theorem Go_upToB {n b sl b0 s0 : Nat} {L : Nat → List (Option Vl)} {P : Nat → Wd → Prop} (hl : lsub (L 0) ls) (hp : P 0 w)
    (hs : ∀ i v B S, i < n → P i v → (∀ v', P (i + 1) v' → Go G cc mt nx d B S pc (L (i + 1)) st v' K X) → Go G cc mt nx d (B + b) (S + sl) pc (L i) st v K X)
    (he : ∀ v, P n v → Go G cc mt nx d b0 s0 pc (L n) st v K X) : Go G cc mt nx d (b0 + n * b) (s0 + n * sl) pc ls st w K X := by
  have key : ∀ (m i : Nat) (v : Wd), i + m = n → P i v → Go G cc mt nx d (b0 + m * b) (s0 + m * sl) pc (L i) st v K X := by
    intro m
    induction m with
    | zero =>
      intro i v hi hv
      have : i = n := by omega
      subst this
      rw [Nat.zero_mul, Nat.zero_mul]
      exact he v hv
    | succ m ih =>
      intro i v hi hv
      rw [Nat.succ_mul, Nat.succ_mul, ← Nat.add_assoc, ← Nat.add_assoc]
      exact hs i v _ _ (by omega) hv (fun v' hv' => ih (i + 1) v' (by omega) hv')
  exact Go_forget hl (key n 0 w (by omega) hp)
end GoR
