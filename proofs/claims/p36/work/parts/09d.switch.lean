section GoSw
variable {G : Gm} {cc : ByteArray} {mt : Mt} {nx : Option Nat} {d bc bs pc : Nat} {ls : List (Option Vl)} {st : List Vl} {w : Wd} {K : Kt} {X : Xt}
theorem Go_tsIn {dflt lo hi off z : Int} {offs : Array Int} {len i tgt : Nat} (dec : decode cc pc = .ok (.tableswitch dflt lo hi offs, len)) (hz : z = lo + i) (hr : inR (lo + i) ∧ lo + i ≤ hi) (ho : offs[i]? = some off) (ht : (pc : Int) + off = (tgt : Int)) (k : Go G cc mt nx d bc bs tgt ls st w K X) : Go G cc mt nx d bc bs pc ls (vi z :: st) w K X := by
  intro p e R s m args below meth c Q H locs cells slots la C EK EX hl hw hS h1 h2
  subst hz
  have e1 := inR_toInt hr.1
  exact lv_tableIn (x := Int32.ofInt (lo + i)) C.1 C.2.1 dec (by rw [e1]; omega) (by rw [e1]; omega) (by rw [e1, show (lo + (i : Int) - lo).toNat = i by omega]; exact ho) ht (k p e R s m args below meth c Q H locs cells slots la C EK EX hl hw hS h1 h2)
theorem Go_tsOut {dflt lo hi z : Int} {offs : Array Int} {len tgt : Nat} (dec : decode cc pc = .ok (.tableswitch dflt lo hi offs, len)) (hr : inR z) (hz : z < lo ∨ hi < z) (ht : (pc : Int) + dflt = (tgt : Int)) (k : Go G cc mt nx d bc bs tgt ls st w K X) : Go G cc mt nx d bc bs pc ls (vi z :: st) w K X := by
  intro p e R s m args below meth c Q H locs cells slots la C EK EX hl hw hS h1 h2
  exact lv_tableOut (x := Int32.ofInt z) C.1 C.2.1 dec (by rw [inR_toInt hr]; exact hz) ht (k p e R s m args below meth c Q H locs cells slots la C EK EX hl hw hS h1 h2)
theorem Go_lks {dflt off z : Int} {ps : Array (Int × Int)} {len tgt : Nat} (dec : decode cc pc = .ok (.lookupswitch dflt ps, len)) (hr : inR z) (hp : (ps.toList.zip (ps.toList.drop 1)).all (fun (a, next) => a.1 < next.1) = true) (ho : Op.lookupswitch.offset ps.toList dflt z = off) (ht : (pc : Int) + off = (tgt : Int)) (k : Go G cc mt nx d bc bs tgt ls st w K X) : Go G cc mt nx d bc bs pc ls (vi z :: st) w K X := by
  intro p e R s m args below meth c Q H locs cells slots la C EK EX hl hw hS h1 h2
  exact lv_lookup (x := Int32.ofInt z) C.1 C.2.1 dec hp (by rw [inR_toInt hr]; exact ho) ht (k p e R s m args below meth c Q H locs cells slots la C EK EX hl hw hS h1 h2)
theorem Go_cV4 {y : MethodName} {cc' : ByteArray} {nl' idx d' bc' bs' a ci : Nat} {mt' : Mt} {x0 x1 x2 x3 : Vl} {ty : FieldType} (hr : mt'.1 = some ty) (dec : decode cc pc = .ok (.invokevirtual idx, 3)) (mv : MV y cc' nl' mt' 4) (ht : mt'.2.2.2 = []) (lk : Cond.methodLink mt.2.1 idx y ∈ GW) (hs : SH a = (1, ci)) (hc : (vwCl[ci]?).map (·.1) = some y.cls) (hx : okx nx a) (hd : d' < d) (hbc : bc' ≤ bc) (hbs : bs' ≤ bs) (hsum : (st.map fun v => (cv G v).category).sum ≤ 8) (E : Ev G y cc' nl' mt' nx d' bc' bs' (vr a :: [x0, x1, x2, x3]) w (fun v nx' w' => Go G cc mt nx' d (bc - bc') (bs - bs') (pc + 3) ls (v :: st) w' K X) X) : Go G cc mt nx d bc bs pc ls (x3 :: x2 :: x1 :: x0 :: vr a :: st) w K X := Go_callV dec mv ht lk hs hc hx rfl rfl hsum hd hbc hbs (fun v nx' w' h => by rw [hr]; exact h) E
end GoSw
