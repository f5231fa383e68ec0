/-- what is taken, as the reference marks it -/
def OWN (v : Wd) (tk : Nat → Bool) : Prop := ∀ t, t < 100 → (tk t = false ↔ v 74 t = -1) ∧ -1 ≤ v 74 t ∧ v 74 t ≤ 9
theorem OWN.same {v v' : Wd} {tk : Nat → Bool} (h : OWN v tk) (e : ∀ t, v' 74 t = v 74 t) : OWN v' tk := fun t ht => by rw [e t]; exact h t ht
theorem OWN.mark {v v' : Wd} {tk : Nat → Bool} {b : Nat} (h : OWN v tk) (e : ∀ t, v' 74 t = if t = b then 9 else v 74 t) : OWN v' (mkT tk b) := fun t ht => by
  rw [e t]
  unfold mkT
  by_cases c : t = b
  · rw [if_pos c, if_pos c]; exact ⟨⟨fun q => (by cases q), fun q => (by omega)⟩, by omega, by omega⟩
  · rw [if_neg c, if_neg c]; exact h t ht
theorem OWN.mk {v : Wd} {ps : List (List Nat)} (h : MK (v 74) (v 75) ps) (h5 : ps.length ≤ 5) : OWN v (tkB ps) := fun t ht => by
  have := ow_in ps t
  rw [(h t ht).1]
  unfold tkB
  refine ⟨?_, by omega, by omega⟩
  rw [decide_eq_false_iff_not]
  omega
def wyF (m : Nat) (tk : Nat → Bool) (x : Nat) : Nat → Int := fun e => if 0 ≤ nbI x e ∧ tk (nbI x e).toNat = false then wy m (mkT tk (nbI x e).toNat) (nbI x e).toNat else 0
theorem wyF_s (m : Nat) (tk : Nat → Bool) (x : Nat) : wy (m + 1) tk x = smF (wyF m tk x) 4 := rfl
section Model10
variable {G : Gm} {w : Wd} {K : Kt} {X : Xt} {s : Sta} {sv : List Sta} {g : Nat → Option Sta} {tx : List Nat} {z z1 z2 z3 : Int} {p o q k0 n : Nat} {l : List Nat} {ps : List (List Nat)}
theorem l_ways_end {x0 nm dp x : Nat} {f : Int} {v : Wd} (hd : dp < 7) (hx : x < 100) (e79 : v 79 dp = x) (e80 : v 80 dp = 4)
    (k : ∀ v', (∀ t, v' 74 t = if 0 < dp ∧ t = x then -1 else v 74 t) → frm v v' [74] → Go G cX12_waysFrom mX12_waysFrom none 2 0 0 25 [some (vr 68), some (vi (x0 : Int)), some (vi (nm : Int)), some (vi f), some (vi ((dp : Int) - 1)), none] [] v' K X) :
    Go G cX12_waysFrom mX12_waysFrom none 2 0 0 25 [some (vr 68), some (vi (x0 : Int)), some (vi (nm : Int)), some (vi f), some (vi (dp : Int)), none] [] v K X := by
  by_cases c : 0 < dp
  · have e := k (up v 74 x (-1)) (fun t => by by_cases q : t = x; (subst q; rw [up_s, if_pos ⟨c, rfl⟩]); rw [up_k q, if_neg (fun z => q z.2)]) (frm.rfl.up (by simp))
    refine Go_ild4 dX12_waysFrom_25 ?_
    refine Go_if_lt (tgt := 159) dX12_waysFrom_27 (by decide) (by constructor <;> omega) (fun h27 => by omega) (fun h27 => ?_)
    refine Go_ald0 dX12_waysFrom_30 ?_
    refine gf11_16 dX12_waysFrom_31 flX12_43 ?_
    refine Go_ild4 dX12_waysFrom_34 ?_
    refine Go_iald dX12_waysFrom_36 (by first | assumption | rfl) trivial (by omega) (by omega) (by decide) ?_
    rw [Int.toNat_natCast, e80]
    refine Go_iconst dX12_waysFrom_37 ?_
    refine Go_icmp_ne (tgt := 65) dX12_waysFrom_38 (by decide) (by constructor <;> omega) (by constructor <;> omega) (fun h38 => by omega) (fun h38 => ?_)
    refine Go_ild4 dX12_waysFrom_41 ?_
    refine Go_if_le (tgt := 59) dX12_waysFrom_43 (by decide) (by constructor <;> omega) (fun h43 => by omega) (fun h43 => ?_)
    refine Go_ald0 dX12_waysFrom_46 ?_
    refine gf11_8 dX12_waysFrom_47 flX12_25 ?_
    refine Go_ald0 dX12_waysFrom_50 ?_
    refine gf11_15 dX12_waysFrom_51 flX12_40 ?_
    refine Go_ild4 dX12_waysFrom_54 ?_
    refine Go_iald dX12_waysFrom_56 (by first | assumption | rfl) trivial (by omega) (by omega) (by decide) ?_
    rw [Int.toNat_natCast, e79]
    refine Go_iconst dX12_waysFrom_57 ?_
    refine Go_iast dX12_waysFrom_58 (by first | assumption | rfl) trivial (by omega) (by omega) (by decide) ?_
    rw [Int.toNat_natCast]
    refine Go_inc4 dX12_waysFrom_59 rfl ?_
    refine Go_goto (tgt := 25) dX12_waysFrom_62 (by decide) ?_
    exact e
  · have e := k v (fun t => by rw [if_neg (fun z => c z.1)]) frm.rfl
    refine Go_ild4 dX12_waysFrom_25 ?_
    refine Go_if_lt (tgt := 159) dX12_waysFrom_27 (by decide) (by constructor <;> omega) (fun h27 => by omega) (fun h27 => ?_)
    refine Go_ald0 dX12_waysFrom_30 ?_
    refine gf11_16 dX12_waysFrom_31 flX12_43 ?_
    refine Go_ild4 dX12_waysFrom_34 ?_
    refine Go_iald dX12_waysFrom_36 (by first | assumption | rfl) trivial (by omega) (by omega) (by decide) ?_
    rw [Int.toNat_natCast, e80]
    refine Go_iconst dX12_waysFrom_37 ?_
    refine Go_icmp_ne (tgt := 65) dX12_waysFrom_38 (by decide) (by constructor <;> omega) (by constructor <;> omega) (fun h38 => by omega) (fun h38 => ?_)
    refine Go_ild4 dX12_waysFrom_41 ?_
    refine Go_if_le (tgt := 59) dX12_waysFrom_43 (by decide) (by constructor <;> omega) (fun h43 => ?_) (fun h43 => by omega)
    refine Go_inc4 dX12_waysFrom_59 rfl ?_
    refine Go_goto (tgt := 25) dX12_waysFrom_62 (by decide) ?_
    exact e
theorem l_ways {x0 nm : Nat} (hm : nm ≤ 6) (hx0 : x0 < 100) {K : Kt} {X : Xt} : ∀ (m dp : Nat), dp + m + 1 = nm → ∀ (c j : Nat), j + c = 4 → ∀ (x : Nat) (f : Int) (v : Wd) (tk : Nat → Bool), x < 100 → v 79 dp = x → v 80 dp = j → OWN v tk →
    (∀ v', (∀ t, v' 74 t = if 0 < dp ∧ t = x then -1 else v 74 t) → (∀ i, i < dp → v' 79 i = v 79 i ∧ v' 80 i = v 80 i) → frm v v' [74, 79, 80] → Go G cX12_waysFrom mX12_waysFrom none 2 0 0 25 [some (vr 68), some (vi (x0 : Int)), some (vi (nm : Int)), some (vi (f + (smF (wyF m tk x) 4 - smF (wyF m tk x) j))), some (vi ((dp : Int) - 1)), none] [] v' K X) →
    Go G cX12_waysFrom mX12_waysFrom none 2 0 0 25 [some (vr 68), some (vi (x0 : Int)), some (vi (nm : Int)), some (vi f), some (vi (dp : Int)), none] [] v K X := by
  intro m
  induction m with
  | zero =>
    intro dp hdm c
    induction c with
    | zero =>
      intro j hj x f v tk hx e79 e80 ow k
      have j4 : j = 4 := by omega
      subst j4
      refine l_ways_end (by omega) hx e79 e80 (fun v' a1 a2 => ?_)
      have := k v' a1 (fun i _ => ⟨a2.at (by decide) i, a2.at (by decide) i⟩) (a2.mono (by decide))
      rw [Int.sub_self, Int.add_zero] at this
      exact this
    | succ c ih =>
      intro j hj x f v tk hx e79 e80 ow k
      have b := nbI_in x j
      have es : smF (wyF 0 tk x) (j + 1) = smF (wyF 0 tk x) j + (if 0 ≤ nbI x j ∧ tk (nbI x j).toNat = false then 1 else 0) := rfl
      have eo : 0 ≤ nbI x j → (tk (nbI x j).toNat = false ↔ v 74 (nbI x j).toNat = -1) := fun q => (ow _ (by omega)).1
      have ob : 0 ≤ nbI x j → inR (v 74 (nbI x j).toNat) := fun q => by have := (ow (nbI x j).toNat (by omega)).2; constructor <;> omega
      have nx : ∀ f' : Int, f' = f + (if 0 ≤ nbI x j ∧ tk (nbI x j).toNat = false then 1 else 0) → Go G cX12_waysFrom mX12_waysFrom none 2 0 0 25 [some (vr 68), some (vi (x0 : Int)), some (vi (nm : Int)), some (vi f'), some (vi (dp : Int)), none] [] (up v 80 dp ((j : Int) + 1)) K X := fun f' hf => by
        refine ih (j + 1) (by omega) x f' (up v 80 dp ((j : Int) + 1)) tk hx (by rw [up_a (by decide)]; exact e79) (by rw [up_s]; omega) (ow.same (fun t => up_a (by decide))) (fun v' a1 a2 a3 => ?_)
        have := k v' (fun t => by rw [a1 t, up_a (by decide)]) (fun i hi => by have := a2 i hi; rw [up_a (by decide), up_k (by omega)] at this; exact this) ((frm.rfl.up (by simp)).trans a3 (fun _ h => h))
        rw [es, hf]
        rw [show f + (if 0 ≤ nbI x j ∧ tk (nbI x j).toNat = false then (1 : Int) else 0) + (smF (wyF 0 tk x) 4 - (smF (wyF 0 tk x) j + (if 0 ≤ nbI x j ∧ tk (nbI x j).toNat = false then (1 : Int) else 0))) = f + (smF (wyF 0 tk x) 4 - smF (wyF 0 tk x) j) by omega]
        exact this
      refine Go_ild4 dX12_waysFrom_25 ?_
      refine Go_if_lt (tgt := 159) dX12_waysFrom_27 (by decide) (by constructor <;> omega) (fun h27 => by omega) (fun h27 => ?_)
      refine Go_ald0 dX12_waysFrom_30 ?_
      refine gf11_16 dX12_waysFrom_31 flX12_43 ?_
      refine Go_ild4 dX12_waysFrom_34 ?_
      refine Go_iald dX12_waysFrom_36 (by first | assumption | rfl) trivial (by omega) (by omega) (by decide) ?_
      rw [Int.toNat_natCast, e80]
      refine Go_iconst dX12_waysFrom_37 ?_
      refine Go_icmp_ne (tgt := 65) dX12_waysFrom_38 (by decide) (by constructor <;> omega) (by constructor <;> omega) (fun h38 => ?_) (fun h38 => by omega)
      refine Go_ald0 dX12_waysFrom_65 ?_
      refine gf11_15 dX12_waysFrom_66 flX12_40 ?_
      refine Go_ild4 dX12_waysFrom_69 ?_
      refine Go_iald dX12_waysFrom_71 (by first | assumption | rfl) trivial (by omega) (by omega) (by decide) ?_
      rw [Int.toNat_natCast, e79]
      refine Go_ald0 dX12_waysFrom_72 ?_
      refine gf11_16 dX12_waysFrom_73 flX12_43 ?_
      refine Go_ild4 dX12_waysFrom_76 ?_
      refine Go_iald dX12_waysFrom_78 (by first | assumption | rfl) trivial (by omega) (by omega) (by decide) ?_
      rw [Int.toNat_natCast, e80]
      refine Go_cS2 (d' := 1) (bc' := 0) (bs' := 0) rfl dX12_waysFrom_79 msX12_next rfl lkX12_84 (by decide) (by decide) (by decide) (Nat.le_of_ble_eq_true rfl) ?_
      refine e_X12_next (by omega) (by omega) (by omega) ?_
      refine Go_ist5 dX12_waysFrom_82 rfl ?_
      refine Go_ald0 dX12_waysFrom_84 ?_
      refine gf11_16 dX12_waysFrom_85 flX12_43 ?_
      refine Go_ild4 dX12_waysFrom_88 ?_
      refine Go_dup2 dX12_waysFrom_90 ?_
      refine Go_iald dX12_waysFrom_91 (by first | assumption | rfl) trivial (by omega) (by omega) (by decide) ?_
      rw [Int.toNat_natCast, e80]
      refine Go_iconst dX12_waysFrom_92 ?_
      refine Go_iadd dX12_waysFrom_93 ?_
      refine Go_iast dX12_waysFrom_94 (by first | assumption | rfl) trivial (by omega) (by omega) (by decide) ?_
      rw [Int.toNat_natCast]
      refine Go_ald0 dX12_waysFrom_95 ?_
      refine Go_ild5 dX12_waysFrom_96 ?_
      refine Go_cV1 (d' := 0) (bc' := 0) (bs' := 0) rfl dX12_waysFrom_98 mvX12_isFree rfl lkX12_87 (by first | assumption | rfl) rfl trivial (by decide) (by decide) (by decide) (Nat.le_of_ble_eq_true rfl) ?_
      refine e_X12_isFree b (fun q => by rw [up_a (by decide)]; exact ob q) ?_
      refine Go_ifb_eq (tgt := 118) dX12_waysFrom_101 (by decide)  (fun h101 => ?_) (fun h101 => ?_)
      · refine Go_ald0 dX12_waysFrom_118 ?_
        refine Go_ild5 dX12_waysFrom_119 ?_
        refine Go_cV1 (d' := 0) (bc' := 0) (bs' := 0) rfl dX12_waysFrom_121 mvX12_isFree rfl lkX12_87 (by first | assumption | rfl) rfl trivial (by decide) (by decide) (by decide) (Nat.le_of_ble_eq_true rfl) ?_
        refine e_X12_isFree b (fun q => by rw [up_a (by decide)]; exact ob q) ?_
        refine Go_ifb_eq (tgt := 156) dX12_waysFrom_124 (by decide)  (fun h124 => ?_) (fun h124 => by exact absurd h124 h101)
        refine Go_goto (tgt := 25) dX12_waysFrom_156 (by decide) ?_
        rw [up_a (by decide)] at h101
        refine Go_forget (by repeat' (first | exact Or.inl rfl | exact Or.inr rfl | exact Or.inr (lcg (by omega)) | exact trivial | constructor)) (nx _ ?_)
        first | (rw [if_pos ⟨h101.1, (eo h101.1).mpr h101.2⟩]; done) | (rw [if_neg (fun z => h101 ⟨z.1, (eo z.1).mp z.2⟩), Int.add_zero])
      · refine Go_ild4 dX12_waysFrom_104 ?_
        refine Go_iconst dX12_waysFrom_106 ?_
        refine Go_iadd dX12_waysFrom_107 ?_
        refine Go_ild2 dX12_waysFrom_108 ?_
        refine Go_icmp_ne (tgt := 118) dX12_waysFrom_109 (by decide) (by constructor <;> omega) (by constructor <;> omega) (fun h109 => by omega) (fun h109 => ?_)
        refine Go_inc3 dX12_waysFrom_112 rfl ?_
        refine Go_goto (tgt := 156) dX12_waysFrom_115 (by decide) ?_
        refine Go_goto (tgt := 25) dX12_waysFrom_156 (by decide) ?_
        rw [up_a (by decide)] at h101
        refine Go_forget (by repeat' (first | exact Or.inl rfl | exact Or.inr rfl | exact Or.inr (lcg (by omega)) | exact trivial | constructor)) (nx _ ?_)
        first | (rw [if_pos ⟨h101.1, (eo h101.1).mpr h101.2⟩]; done) | (rw [if_neg (fun z => h101 ⟨z.1, (eo z.1).mp z.2⟩), Int.add_zero])
  | succ m ihm =>
    intro dp hdm c
    induction c with
    | zero =>
      intro j hj x f v tk hx e79 e80 ow k
      have j4 : j = 4 := by omega
      subst j4
      refine l_ways_end (by omega) hx e79 e80 (fun v' a1 a2 => ?_)
      have := k v' a1 (fun i _ => ⟨a2.at (by decide) i, a2.at (by decide) i⟩) (a2.mono (by decide))
      rw [Int.sub_self, Int.add_zero] at this
      exact this
    | succ c ih =>
      intro j hj x f v tk hx e79 e80 ow k
      have b := nbI_in x j
      have es : smF (wyF (m + 1) tk x) (j + 1) = smF (wyF (m + 1) tk x) j + (if 0 ≤ nbI x j ∧ tk (nbI x j).toNat = false then wy (m + 1) (mkT tk (nbI x j).toNat) (nbI x j).toNat else 0) := rfl
      have eo : 0 ≤ nbI x j → (tk (nbI x j).toNat = false ↔ v 74 (nbI x j).toNat = -1) := fun q => (ow _ (by omega)).1
      have ob : 0 ≤ nbI x j → inR (v 74 (nbI x j).toNat) := fun q => by have := (ow (nbI x j).toNat (by omega)).2; constructor <;> omega
      have nx : ∀ (f' : Int) (v2 : Wd), f' = f + (if 0 ≤ nbI x j ∧ tk (nbI x j).toNat = false then wy (m + 1) (mkT tk (nbI x j).toNat) (nbI x j).toNat else 0) → (∀ t, v2 74 t = v 74 t) → (∀ i, i < dp → v2 79 i = v 79 i ∧ v2 80 i = v 80 i) → v2 79 dp = x → v2 80 dp = ((j + 1 : Nat) : Int) → frm v v2 [74, 79, 80] → Go G cX12_waysFrom mX12_waysFrom none 2 0 0 25 [some (vr 68), some (vi (x0 : Int)), some (vi (nm : Int)), some (vi f'), some (vi (dp : Int)), none] [] v2 K X := fun f' v2 hf c1 c2 c3 c4 c5 => by
        refine ih (j + 1) (by omega) x f' v2 tk hx c3 c4 (ow.same c1) (fun v' a1 a2 a3 => ?_)
        have := k v' (fun t => by rw [a1 t, c1 t]) (fun i hi => by have q1 := a2 i hi; have q2 := c2 i hi; exact ⟨q1.1.trans q2.1, q1.2.trans q2.2⟩) (c5.trans a3 (fun _ h => h))
        rw [es, hf]
        rw [show ∀ a b c d : Int, a + b + (c - (d + b)) = a + (c - d) by intros; omega]
        exact this
      by_cases q : 0 ≤ nbI x j ∧ v 74 (nbI x j).toNat = -1
      · have q2 : 0 ≤ nbI x j ∧ tk (nbI x j).toNat = false := ⟨q.1, (eo q.1).mpr q.2⟩
        have eb : nbI x j = (((nbI x j).toNat : Nat) : Int) := by omega
        have inn : Go G cX12_waysFrom mX12_waysFrom none 2 0 0 25 [some (vr 68), some (vi (x0 : Int)), some (vi (nm : Int)), some (vi f), some (vi ((dp + 1 : Nat) : Int)), none] [] (up (up (up (up v 80 dp ((j : Int) + 1)) 79 (dp + 1) (nbI x j)) 80 (dp + 1) 0) 74 (nbI x j).toNat 9) K X := by
          refine ihm (dp + 1) (by omega) 4 0 rfl (nbI x j).toNat f _ (mkT tk (nbI x j).toNat) (by omega) (by rw [up_a (by decide), up_a (by decide), up_s]; exact eb) (by rw [up_a (by decide), up_s]; rfl) (ow.mark (b := (nbI x j).toNat) (fun t => ?_)) (fun v' a1 a2 a3 => ?_)
          · by_cases c : t = (nbI x j).toNat
            · rw [c, up_s, if_pos rfl]
            · rw [up_k c, if_neg c, up_a (by decide), up_a (by decide), up_a (by decide)]
          · rw [show (((dp + 1 : Nat) : Int) - 1) = (dp : Int) by omega, show smF (wyF m (mkT tk (nbI x j).toNat) (nbI x j).toNat) 0 = 0 from rfl, Int.sub_zero, ← wyF_s]
            refine nx _ v' (by rw [if_pos q2]) (fun t => ?_) (fun i hi => ?_) ?_ ?_ ?_
            · rw [a1 t]
              by_cases c : t = (nbI x j).toNat
              · rw [if_pos ⟨by omega, c⟩, c, q.2]
              · rw [if_neg (fun z => c z.2), up_k c, up_a (by decide), up_a (by decide), up_a (by decide)]
            · have := a2 i (by omega)
              rw [up_a (by decide), up_a (by decide), up_k (by omega), up_a (by decide), up_a (a := 74) (b := 80) (by decide), up_k (by omega), up_a (by decide), up_k (by omega)] at this
              exact this
            · have := (a2 dp (by omega)).1
              rw [up_a (by decide), up_a (by decide), up_k (by omega), up_a (by decide), e79] at this
              exact this
            · have := (a2 dp (by omega)).2
              rw [up_a (by decide), up_k (by omega), up_a (by decide), up_s] at this
              rw [this]; omega
            · exact ((((frm.rfl.up (by simp)).up (by simp)).up (by simp)).up (by simp)).trans a3 (fun _ h => h)
        refine Go_ild4 dX12_waysFrom_25 ?_
        refine Go_if_lt (tgt := 159) dX12_waysFrom_27 (by decide) (by constructor <;> omega) (fun h27 => by omega) (fun h27 => ?_)
        refine Go_ald0 dX12_waysFrom_30 ?_
        refine gf11_16 dX12_waysFrom_31 flX12_43 ?_
        refine Go_ild4 dX12_waysFrom_34 ?_
        refine Go_iald dX12_waysFrom_36 (by first | assumption | rfl) trivial (by omega) (by omega) (by decide) ?_
        rw [Int.toNat_natCast, e80]
        refine Go_iconst dX12_waysFrom_37 ?_
        refine Go_icmp_ne (tgt := 65) dX12_waysFrom_38 (by decide) (by constructor <;> omega) (by constructor <;> omega) (fun h38 => ?_) (fun h38 => by omega)
        refine Go_ald0 dX12_waysFrom_65 ?_
        refine gf11_15 dX12_waysFrom_66 flX12_40 ?_
        refine Go_ild4 dX12_waysFrom_69 ?_
        refine Go_iald dX12_waysFrom_71 (by first | assumption | rfl) trivial (by omega) (by omega) (by decide) ?_
        rw [Int.toNat_natCast, e79]
        refine Go_ald0 dX12_waysFrom_72 ?_
        refine gf11_16 dX12_waysFrom_73 flX12_43 ?_
        refine Go_ild4 dX12_waysFrom_76 ?_
        refine Go_iald dX12_waysFrom_78 (by first | assumption | rfl) trivial (by omega) (by omega) (by decide) ?_
        rw [Int.toNat_natCast, e80]
        refine Go_cS2 (d' := 1) (bc' := 0) (bs' := 0) rfl dX12_waysFrom_79 msX12_next rfl lkX12_84 (by decide) (by decide) (by decide) (Nat.le_of_ble_eq_true rfl) ?_
        refine e_X12_next (by omega) (by omega) (by omega) ?_
        refine Go_ist5 dX12_waysFrom_82 rfl ?_
        refine Go_ald0 dX12_waysFrom_84 ?_
        refine gf11_16 dX12_waysFrom_85 flX12_43 ?_
        refine Go_ild4 dX12_waysFrom_88 ?_
        refine Go_dup2 dX12_waysFrom_90 ?_
        refine Go_iald dX12_waysFrom_91 (by first | assumption | rfl) trivial (by omega) (by omega) (by decide) ?_
        rw [Int.toNat_natCast, e80]
        refine Go_iconst dX12_waysFrom_92 ?_
        refine Go_iadd dX12_waysFrom_93 ?_
        refine Go_iast dX12_waysFrom_94 (by first | assumption | rfl) trivial (by omega) (by omega) (by decide) ?_
        rw [Int.toNat_natCast]
        refine Go_ald0 dX12_waysFrom_95 ?_
        refine Go_ild5 dX12_waysFrom_96 ?_
        refine Go_cV1 (d' := 0) (bc' := 0) (bs' := 0) rfl dX12_waysFrom_98 mvX12_isFree rfl lkX12_87 (by first | assumption | rfl) rfl trivial (by decide) (by decide) (by decide) (Nat.le_of_ble_eq_true rfl) ?_
        refine e_X12_isFree b (fun q => by rw [up_a (by decide)]; exact ob q) ?_
        rw [up_a (a := 80) (b := 74) (by decide)]
        refine Go_ifb_eq (tgt := 118) dX12_waysFrom_101 (by decide)  (fun h101 => by exact absurd q h101) (fun h101 => ?_)
        refine Go_ild4 dX12_waysFrom_104 ?_
        refine Go_iconst dX12_waysFrom_106 ?_
        refine Go_iadd dX12_waysFrom_107 ?_
        refine Go_ild2 dX12_waysFrom_108 ?_
        refine Go_icmp_ne (tgt := 118) dX12_waysFrom_109 (by decide) (by constructor <;> omega) (by constructor <;> omega) (fun h109 => ?_) (fun h109 => by omega)
        refine Go_ald0 dX12_waysFrom_118 ?_
        refine Go_ild5 dX12_waysFrom_119 ?_
        refine Go_cV1 (d' := 0) (bc' := 0) (bs' := 0) rfl dX12_waysFrom_121 mvX12_isFree rfl lkX12_87 (by first | assumption | rfl) rfl trivial (by decide) (by decide) (by decide) (Nat.le_of_ble_eq_true rfl) ?_
        refine e_X12_isFree b (fun q => by rw [up_a (by decide)]; exact ob q) ?_
        rw [up_a (a := 80) (b := 74) (by decide)]
        refine Go_ifb_eq (tgt := 156) dX12_waysFrom_124 (by decide)  (fun h124 => by exact absurd q h124) (fun h124 => ?_)
        refine Go_inc4 dX12_waysFrom_127 rfl ?_
        refine Go_ald0 dX12_waysFrom_130 ?_
        refine gf11_15 dX12_waysFrom_131 flX12_40 ?_
        refine Go_ild4 dX12_waysFrom_134 ?_
        refine Go_ild5 dX12_waysFrom_136 ?_
        refine Go_iast dX12_waysFrom_138 (by first | assumption | rfl) trivial (by omega) (by omega) (by decide) ?_
        rw [show ((dp : Int) + 1).toNat = dp + 1 by omega]
        refine Go_ald0 dX12_waysFrom_139 ?_
        refine gf11_16 dX12_waysFrom_140 flX12_43 ?_
        refine Go_ild4 dX12_waysFrom_143 ?_
        refine Go_iconst dX12_waysFrom_145 ?_
        refine Go_iast dX12_waysFrom_146 (by first | assumption | rfl) trivial (by omega) (by omega) (by decide) ?_
        rw [show ((dp : Int) + 1).toNat = dp + 1 by omega]
        refine Go_ald0 dX12_waysFrom_147 ?_
        refine gf11_8 dX12_waysFrom_148 flX12_25 ?_
        refine Go_ild5 dX12_waysFrom_151 ?_
        refine Go_bipush dX12_waysFrom_153 (by decide +kernel) ?_
        refine Go_iast dX12_waysFrom_155 (by first | assumption | rfl) trivial (by omega) (by omega) (by decide) ?_
        refine Go_goto (tgt := 25) dX12_waysFrom_156 (by decide) ?_
        exact Go_forget (by repeat' (first | exact Or.inl rfl | exact Or.inr rfl | exact Or.inr (lcg (by omega)) | exact trivial | constructor)) inn
      · have q2 : ¬ (0 ≤ nbI x j ∧ tk (nbI x j).toNat = false) := fun z => q ⟨z.1, (eo z.1).mp z.2⟩
        have fin := nx f (up v 80 dp ((j : Int) + 1)) (by rw [if_neg q2, Int.add_zero]) (fun t => up_a (by decide)) (fun i hi => ⟨up_a (by decide), up_k (by omega)⟩) (by rw [up_a (by decide)]; exact e79) (by rw [up_s]; omega) (frm.rfl.up (by simp))
        refine Go_ild4 dX12_waysFrom_25 ?_
        refine Go_if_lt (tgt := 159) dX12_waysFrom_27 (by decide) (by constructor <;> omega) (fun h27 => by omega) (fun h27 => ?_)
        refine Go_ald0 dX12_waysFrom_30 ?_
        refine gf11_16 dX12_waysFrom_31 flX12_43 ?_
        refine Go_ild4 dX12_waysFrom_34 ?_
        refine Go_iald dX12_waysFrom_36 (by first | assumption | rfl) trivial (by omega) (by omega) (by decide) ?_
        rw [Int.toNat_natCast, e80]
        refine Go_iconst dX12_waysFrom_37 ?_
        refine Go_icmp_ne (tgt := 65) dX12_waysFrom_38 (by decide) (by constructor <;> omega) (by constructor <;> omega) (fun h38 => ?_) (fun h38 => by omega)
        refine Go_ald0 dX12_waysFrom_65 ?_
        refine gf11_15 dX12_waysFrom_66 flX12_40 ?_
        refine Go_ild4 dX12_waysFrom_69 ?_
        refine Go_iald dX12_waysFrom_71 (by first | assumption | rfl) trivial (by omega) (by omega) (by decide) ?_
        rw [Int.toNat_natCast, e79]
        refine Go_ald0 dX12_waysFrom_72 ?_
        refine gf11_16 dX12_waysFrom_73 flX12_43 ?_
        refine Go_ild4 dX12_waysFrom_76 ?_
        refine Go_iald dX12_waysFrom_78 (by first | assumption | rfl) trivial (by omega) (by omega) (by decide) ?_
        rw [Int.toNat_natCast, e80]
        refine Go_cS2 (d' := 1) (bc' := 0) (bs' := 0) rfl dX12_waysFrom_79 msX12_next rfl lkX12_84 (by decide) (by decide) (by decide) (Nat.le_of_ble_eq_true rfl) ?_
        refine e_X12_next (by omega) (by omega) (by omega) ?_
        refine Go_ist5 dX12_waysFrom_82 rfl ?_
        refine Go_ald0 dX12_waysFrom_84 ?_
        refine gf11_16 dX12_waysFrom_85 flX12_43 ?_
        refine Go_ild4 dX12_waysFrom_88 ?_
        refine Go_dup2 dX12_waysFrom_90 ?_
        refine Go_iald dX12_waysFrom_91 (by first | assumption | rfl) trivial (by omega) (by omega) (by decide) ?_
        rw [Int.toNat_natCast, e80]
        refine Go_iconst dX12_waysFrom_92 ?_
        refine Go_iadd dX12_waysFrom_93 ?_
        refine Go_iast dX12_waysFrom_94 (by first | assumption | rfl) trivial (by omega) (by omega) (by decide) ?_
        rw [Int.toNat_natCast]
        refine Go_ald0 dX12_waysFrom_95 ?_
        refine Go_ild5 dX12_waysFrom_96 ?_
        refine Go_cV1 (d' := 0) (bc' := 0) (bs' := 0) rfl dX12_waysFrom_98 mvX12_isFree rfl lkX12_87 (by first | assumption | rfl) rfl trivial (by decide) (by decide) (by decide) (Nat.le_of_ble_eq_true rfl) ?_
        refine e_X12_isFree b (fun q => by rw [up_a (by decide)]; exact ob q) ?_
        rw [up_a (a := 80) (b := 74) (by decide)]
        refine Go_ifb_eq (tgt := 118) dX12_waysFrom_101 (by decide)  (fun h101 => ?_) (fun h101 => by exact absurd h101 q)
        refine Go_ald0 dX12_waysFrom_118 ?_
        refine Go_ild5 dX12_waysFrom_119 ?_
        refine Go_cV1 (d' := 0) (bc' := 0) (bs' := 0) rfl dX12_waysFrom_121 mvX12_isFree rfl lkX12_87 (by first | assumption | rfl) rfl trivial (by decide) (by decide) (by decide) (Nat.le_of_ble_eq_true rfl) ?_
        refine e_X12_isFree b (fun q => by rw [up_a (by decide)]; exact ob q) ?_
        rw [up_a (a := 80) (b := 74) (by decide)]
        refine Go_ifb_eq (tgt := 156) dX12_waysFrom_124 (by decide)  (fun h124 => ?_) (fun h124 => by exact absurd h124 q)
        refine Go_goto (tgt := 25) dX12_waysFrom_156 (by decide) ?_
        exact Go_forget (by repeat' (first | exact Or.inl rfl | exact Or.inr rfl | exact Or.inr (lcg (by omega)) | exact trivial | constructor)) fin
theorem e_X12_waysFrom {x : Nat} {tk : Nat → Bool} (hz : z = (x : Int)) (hx : x < 100) (hn : n ≤ 6) (ho : OWN w tk) (k : ∀ w', (∀ t, w' 74 t = w 74 t) → frm w w' [74, 79, 80] → K (vi (wy n tk x)) none w') : Ev G yX12_waysFrom cX12_waysFrom 6 mX12_waysFrom none 2 0 0 [vr 68, vi z, vi (n : Int)] w K X := by
  subst hz
  refine Ev_intro mvX12_waysFrom.1 rfl (fun h => by cases h) (allc1 rfl) (Nat.le_of_ble_eq_true rfl) (Or.inl rfl) ?_
  show Go G cX12_waysFrom mX12_waysFrom none 2 0 0 0 [some (vr 68), some (vi (x : Int)), some (vi (n : Int)), none, none, none] [] w K X
  cases n with
  | zero =>
    refine Go_ild2 dX12_waysFrom_0 ?_
    refine Go_if_ne (tgt := 6) dX12_waysFrom_1 (by decide) (by constructor <;> omega) (fun h1 => by omega) (fun h1 => ?_)
    refine Go_iconst dX12_waysFrom_4 ?_
    refine Go_ireturn dX12_waysFrom_5 rfl (by first | rfl | decide | exact nar_b | simp [narrow]) ?_
    exact k w (fun _ => rfl) frm.rfl
  | succ m =>
    have fin := l_ways (G := G) (x0 := x) (nm := m + 1) (K := K) (X := X) hn hx m 0 (by omega) 4 0 rfl x 0 (up (up w 79 0 (x : Int)) 80 0 0) tk hx (by rw [up_a (by decide), up_s]) (by rw [up_s]; rfl) (ho.same (fun t => by rw [up_a (by decide), up_a (by decide)])) (fun v' a1 a2 a3 => by
      have e : smF (wyF m tk x) 4 - smF (wyF m tk x) 0 = wy (m + 1) tk x := by rw [wyF_s]; show _ - 0 = _; omega
      rw [e, Int.zero_add]
      refine Go_ild4 dX12_waysFrom_25 ?_
      refine Go_if_lt (tgt := 159) dX12_waysFrom_27 (by decide) (by constructor <;> omega) (fun h27 => ?_) (fun h27 => by omega)
      refine Go_ild3 dX12_waysFrom_159 ?_
      refine Go_ireturn dX12_waysFrom_160 rfl (by first | rfl | decide | exact nar_b | simp [narrow]) ?_
      exact k v' (fun t => by rw [a1 t, if_neg (fun z => absurd z.1 (by decide)), up_a (by decide), up_a (by decide)]) (((frm.rfl.up (by simp)).up (by simp)).trans a3 (fun _ h => h))
      )
    refine Go_ild2 dX12_waysFrom_0 ?_
    refine Go_if_ne (tgt := 6) dX12_waysFrom_1 (by decide) (by constructor <;> omega) (fun h1 => ?_) (fun h1 => by omega)
    refine Go_iconst dX12_waysFrom_6 ?_
    refine Go_ist3 dX12_waysFrom_7 rfl ?_
    refine Go_iconst dX12_waysFrom_8 ?_
    refine Go_ist4 dX12_waysFrom_9 rfl ?_
    refine Go_ald0 dX12_waysFrom_11 ?_
    refine gf11_15 dX12_waysFrom_12 flX12_40 ?_
    refine Go_iconst dX12_waysFrom_15 ?_
    refine Go_ild1 dX12_waysFrom_16 ?_
    refine Go_iast dX12_waysFrom_17 (by first | assumption | rfl) trivial (by omega) (by omega) (by decide) ?_
    refine Go_ald0 dX12_waysFrom_18 ?_
    refine gf11_16 dX12_waysFrom_19 flX12_43 ?_
    refine Go_iconst dX12_waysFrom_22 ?_
    refine Go_iconst dX12_waysFrom_23 ?_
    refine Go_iast dX12_waysFrom_24 (by first | assumption | rfl) trivial (by omega) (by omega) (by decide) ?_
    exact Go_forget (by repeat' (first | exact Or.inl rfl | exact Or.inr rfl | exact Or.inr (lcg (by omega)) | exact trivial | constructor)) fin
theorem e_X12_ways (h : MInv w s sv g tx) (h1 : inR z1) (h2 : inR z2)
    (k : ∀ w' (p n : Nat), z1 = p → p < s.1.length → z2 = n → n ≤ 6 → MX w w' 0 s sv g tx → K (vi (wy n (tkB s.1) (hdL (pth s.1 p)))) none w')
    (x1 : ∀ w', ¬ (0 ≤ z1 ∧ z1 < s.1.length) → MX w w' 1 s sv g tx → K (vi 0) none w') (x2 : ∀ w', 0 ≤ z1 → z1 < s.1.length → ¬ (0 ≤ z2 ∧ z2 ≤ 6) → MX w w' 2 s sv g tx → K (vi 0) none w') : Ev G yX12_ways cX12_ways 3 mX12_ways none 3 0 0 [vr 68, vi z1, vi z2] w K X := by
  have hm := thr0.MInv h
  have h5 := h.1.1.1
  refine Ev_intro mvX12_ways.1 rfl (fun h => by cases h) (allc1 rfl) (Nat.le_of_ble_eq_true rfl) (Or.inl rfl) ?_
  show Go G cX12_ways mX12_ways none 3 0 0 0 [some (vr 68), some (vi z1), some (vi z2)] [] w K X
  refine Go_ald0 dX12_ways_0 ?_
  refine Go_iconst dX12_ways_1 ?_
  refine pf11_0 dX12_ways_2 flX12_59 (by first | assumption | rfl) ?_
  refine Go_ald0 dX12_ways_5 ?_
  refine Go_ild1 dX12_ways_6 ?_
  refine Go_cV1 (d' := 1) (bc' := 0) (bs' := 0) rfl dX12_ways_7 mvX12_isPath rfl lkX12_66 (by first | assumption | rfl) rfl trivial (by decide) (by decide) (by decide) (Nat.le_of_ble_eq_true rfl) ?_
  refine e_X12_isPath hm.1 h1 ?_
  refine Go_ifb_ne (tgt := 19) dX12_ways_10 (by decide)  (fun h10 => ?_) (fun h10 => ?_)
  · refine Go_ild2 dX12_ways_19 ?_
    refine Go_iconst dX12_ways_20 ?_
    refine Go_bipush dX12_ways_21 (by decide +kernel) ?_
    refine Go_cS3 (d' := 0) (bc' := 0) (bs' := 0) rfl dX12_ways_23 msX12_within rfl lkX12_62 (by decide) (by decide) (by decide) (Nat.le_of_ble_eq_true rfl) ?_
    refine e_X12_within h2 (by constructor <;> omega) (by constructor <;> omega) ?_
    refine Go_ifb_ne (tgt := 35) dX12_ways_26 (by decide)  (fun h26 => ?_) (fun h26 => ?_)
    · refine Go_ald0 dX12_ways_35 ?_
      refine Go_cVv0 (d' := 1) (bc' := 0) (bs' := 0) rfl dX12_ways_36 mvX12_lay rfl lkX12_114 (by first | assumption | rfl) rfl trivial (by decide) (by decide) (by decide) (Nat.le_of_ble_eq_true rfl) ?_
      refine e_X12_lay hm.1 (fun w1 m1 f1 => ?_)
      have o := mq_lay (s := s) (sv := sv) (g := g) (tx := tx) f1
      obtain ⟨p, rfl⟩ := Int.eq_ofNat_of_zero_le h10.1
      obtain ⟨n, rfl⟩ := Int.eq_ofNat_of_zero_le h26.1
      have hp : p < s.1.length := by omega
      have hh : hdL (pth s.1 p) < 100 := (h.1.1.lt p).at _
      refine Go_ald0 dX12_ways_39 ?_
      refine Go_ald0 dX12_ways_40 ?_
      refine Go_ild1 dX12_ways_41 ?_
      refine Go_cV1 (d' := 1) (bc' := 0) (bs' := 0) rfl dX12_ways_42 mvX12_headOf rfl lkX12_121 (by first | assumption | rfl) rfl trivial (by decide) (by decide) (by decide) (Nat.le_of_ble_eq_true rfl) ?_
      refine e_X12_headOf (o.1.MInv h).1 hp ?_
      refine Go_ild2 dX12_ways_45 ?_
      refine Go_cV2 (d' := 2) (bc' := 0) (bs' := 0) rfl dX12_ways_46 mvX12_waysFrom rfl lkX12_215 (by first | assumption | rfl) rfl trivial (by decide) (by decide) (by decide) (Nat.le_of_ble_eq_true rfl) ?_
      refine e_X12_waysFrom rfl hh (by omega) (OWN.mk m1 h5) (fun w2 _ f2 => ?_)
      refine Go_ireturn dX12_ways_49 rfl (by first | rfl | decide | exact nar_b | simp [narrow]) ?_
      exact k _ p n rfl hp rfl (by omega) (MX_q h (o.1.trans (mfr.of f2 (by decide))) (by rw [f2.at (by decide)]; exact o.2))
    · refine Go_ald0 dX12_ways_29 ?_
      refine Go_iconst dX12_ways_30 ?_
      refine Go_cV1 (d' := 0) (bc' := 0) (bs' := 0) rfl dX12_ways_31 mvX12_fails rfl lkX12_78 (by first | assumption | rfl) rfl trivial (by decide) (by decide) (by decide) (Nat.le_of_ble_eq_true rfl) ?_
      refine e_X12_fails ?_
      refine Go_ireturn dX12_ways_34 rfl (by first | rfl | decide | exact nar_b | simp [narrow]) ?_
      exact x2 _ h10.1 h10.2 h26 (MX_fail h)
  · refine Go_ald0 dX12_ways_13 ?_
    refine Go_iconst dX12_ways_14 ?_
    refine Go_cV1 (d' := 0) (bc' := 0) (bs' := 0) rfl dX12_ways_15 mvX12_fails rfl lkX12_78 (by first | assumption | rfl) rfl trivial (by decide) (by decide) (by decide) (Nat.le_of_ble_eq_true rfl) ?_
    refine e_X12_fails ?_
    refine Go_ireturn dX12_ways_18 rfl (by first | rfl | decide | exact nar_b | simp [narrow]) ?_
    exact x1 _ h10 (MX_fail h)
theorem e_X12_bestStep (h : MInv w s sv g tx) (h1 : inR z1)
    (k : ∀ w' (p : Nat), z1 = p → p < s.1.length → MX w w' 0 s sv g tx → K (vi (bstD s.1 (hdL (pth s.1 p)))) none w')
    (x1 : ∀ w', ¬ (0 ≤ z1 ∧ z1 < s.1.length) → MX w w' 1 s sv g tx → K (vi 0) none w') : Ev G yX12_bestStep cX12_bestStep 7 mX12_bestStep none 3 0 0 [vr 68, vi z1] w K X := by
  have hm := thr0.MInv h
  have h5 := h.1.1.1
  unfold bstD at k
  refine Ev_intro mvX12_bestStep.1 rfl (fun h => by cases h) (allc1 rfl) (Nat.le_of_ble_eq_true rfl) (Or.inl rfl) ?_
  show Go G cX12_bestStep mX12_bestStep none 3 0 0 0 [some (vr 68), some (vi z1), none, none, none, none, none] [] w K X
  by_cases c0 : 0 ≤ z1 ∧ z1 < s.1.length
  case neg =>
    refine Go_ald0 dX12_bestStep_0 ?_
    refine Go_iconst dX12_bestStep_1 ?_
    refine pf11_0 dX12_bestStep_2 flX12_59 (by first | assumption | rfl) ?_
    refine Go_ald0 dX12_bestStep_5 ?_
    refine Go_ild1 dX12_bestStep_6 ?_
    refine Go_cV1 (d' := 1) (bc' := 0) (bs' := 0) rfl dX12_bestStep_7 mvX12_isPath rfl lkX12_66 (by first | assumption | rfl) rfl trivial (by decide) (by decide) (by decide) (Nat.le_of_ble_eq_true rfl) ?_
    refine e_X12_isPath hm.1 h1 ?_
    refine Go_ifb_ne (tgt := 19) dX12_bestStep_10 (by decide)  (fun h10 => by omega) (fun h10 => ?_)
    refine Go_ald0 dX12_bestStep_13 ?_
    refine Go_iconst dX12_bestStep_14 ?_
    refine Go_cV1 (d' := 0) (bc' := 0) (bs' := 0) rfl dX12_bestStep_15 mvX12_fails rfl lkX12_78 (by first | assumption | rfl) rfl trivial (by decide) (by decide) (by decide) (Nat.le_of_ble_eq_true rfl) ?_
    refine e_X12_fails ?_
    refine Go_ireturn dX12_bestStep_18 rfl (by first | rfl | decide | exact nar_b | simp [narrow]) ?_
    exact x1 _ c0 (MX_fail h)
  refine Go_ald0 dX12_bestStep_0 ?_
  refine Go_iconst dX12_bestStep_1 ?_
  refine pf11_0 dX12_bestStep_2 flX12_59 (by first | assumption | rfl) ?_
  refine Go_ald0 dX12_bestStep_5 ?_
  refine Go_ild1 dX12_bestStep_6 ?_
  refine Go_cV1 (d' := 1) (bc' := 0) (bs' := 0) rfl dX12_bestStep_7 mvX12_isPath rfl lkX12_66 (by first | assumption | rfl) rfl trivial (by decide) (by decide) (by decide) (Nat.le_of_ble_eq_true rfl) ?_
  refine e_X12_isPath hm.1 h1 ?_
  refine Go_ifb_ne (tgt := 19) dX12_bestStep_10 (by decide)  (fun h10 => ?_) (fun h10 => by omega)
  refine Go_ald0 dX12_bestStep_19 ?_
  refine Go_cVv0 (d' := 1) (bc' := 0) (bs' := 0) rfl dX12_bestStep_20 mvX12_lay rfl lkX12_114 (by first | assumption | rfl) rfl trivial (by decide) (by decide) (by decide) (Nat.le_of_ble_eq_true rfl) ?_
  refine e_X12_lay hm.1 (fun w1 m1 f1 => ?_)
  have o := mq_lay (s := s) (sv := sv) (g := g) (tx := tx) f1
  obtain ⟨p, rfl⟩ := Int.eq_ofNat_of_zero_le h10.1
  have hp : p < s.1.length := by omega
  have hh : hdL (pth s.1 p) < 100 := (h.1.1.lt p).at _
  have w0 := OWN.mk m1 h5
  refine Go_iconst dX12_bestStep_23 ?_
  refine Go_ist2 dX12_bestStep_24 rfl ?_
  refine Go_iconst dX12_bestStep_25 ?_
  refine Go_ist3 dX12_bestStep_26 rfl ?_
  refine Go_iconst dX12_bestStep_27 ?_
  refine Go_ist4 dX12_bestStep_28 rfl ?_
  refine Go_upTo (n := 4) (L := fun i => [some (vr 68), some (vi (p : Int)), some (vi (bstF (fun d => thr 4 (tkB s.1) (nbI (hdL (pth s.1 p)) d)) i).1), some (vi (bstF (fun d => thr 4 (tkB s.1) (nbI (hdL (pth s.1 p)) d)) i).2), some (vi (i : Int)), none, none]) (P := fun i v => (∀ t, v 74 t = w1 74 t) ∧ frm w1 v [74, 79, 80] ∧ -1 ≤ (bstF (fun d => thr 4 (tkB s.1) (nbI (hdL (pth s.1 p)) d)) i).2 ∧ (bstF (fun d => thr 4 (tkB s.1) (nbI (hdL (pth s.1 p)) d)) i).2 ≤ 4096) (by repeat' (first | exact Or.inl rfl | exact Or.inr rfl | exact Or.inr (lcg (by omega)) | exact trivial | constructor)) (⟨fun _ => rfl, frm.rfl, show (-1 : Int) ≤ -1 by decide, show (-1 : Int) ≤ 4096 by decide⟩) (fun i v hi hP kn => ?_) (fun v hP => ?_)
  · try dsimp only at hP kn
    try dsimp only
    obtain ⟨e1, f2, c1, c2⟩ := hP
    have b := nbI_in (hdL (pth s.1 p)) i
    have bt := thr_in (n := 4) (tkB s.1) (nbI (hdL (pth s.1 p)) i) (by omega)
    have e : bstF (fun d => thr 4 (tkB s.1) (nbI (hdL (pth s.1 p)) d)) (i + 1) = if (bstF (fun d => thr 4 (tkB s.1) (nbI (hdL (pth s.1 p)) d)) i).2 < thr 4 (tkB s.1) (nbI (hdL (pth s.1 p)) i) then ((i : Int), thr 4 (tkB s.1) (nbI (hdL (pth s.1 p)) i)) else bstF (fun d => thr 4 (tkB s.1) (nbI (hdL (pth s.1 p)) d)) i := rfl
    have hs := ((o.1.trans (mfr.of f2 (by decide))).MInv h).1
    have ov := w0.same e1
    have eo : 0 ≤ nbI (hdL (pth s.1 p)) i → (tkB s.1 (nbI (hdL (pth s.1 p)) i).toNat = false ↔ v 74 (nbI (hdL (pth s.1 p)) i).toNat = -1) := fun q => (ov _ (by omega)).1
    have ob : 0 ≤ nbI (hdL (pth s.1 p)) i → inR (v 74 (nbI (hdL (pth s.1 p)) i).toNat) := fun q => by have := (ov (nbI (hdL (pth s.1 p)) i).toNat (by omega)).2; constructor <;> omega
    by_cases q : 0 ≤ nbI (hdL (pth s.1 p)) i ∧ v 74 (nbI (hdL (pth s.1 p)) i).toNat = -1
    · have et : thr 4 (tkB s.1) (nbI (hdL (pth s.1 p)) i) = wy 4 (mkT (tkB s.1) (nbI (hdL (pth s.1 p)) i).toNat) (nbI (hdL (pth s.1 p)) i).toNat := by unfold thr; rw [if_pos ⟨q.1, (eo q.1).mpr q.2⟩]
      rw [et] at bt e
      have om := ov.mark (v' := up v 74 (nbI (hdL (pth s.1 p)) i).toNat 9) (b := (nbI (hdL (pth s.1 p)) i).toNat) (fun t => by by_cases c : t = (nbI (hdL (pth s.1 p)) i).toNat; (rw [c, up_s, if_pos rfl]); rw [up_k c, if_neg c])
      refine Go_ild4 dX12_bestStep_30 ?_
      refine Go_iconst dX12_bestStep_32 ?_
      refine Go_icmp_ge (tgt := 115) dX12_bestStep_33 (by decide) (by constructor <;> omega) (by constructor <;> omega) (fun h33 => by omega) (fun h33 => ?_)
      refine Go_ald0 dX12_bestStep_36 ?_
      refine Go_ild1 dX12_bestStep_37 ?_
      refine Go_cV1 (d' := 1) (bc' := 0) (bs' := 0) rfl dX12_bestStep_38 mvX12_headOf rfl lkX12_121 (by first | assumption | rfl) rfl trivial (by decide) (by decide) (by decide) (Nat.le_of_ble_eq_true rfl) ?_
      refine e_X12_headOf hs hp ?_
      refine Go_ild4 dX12_bestStep_41 ?_
      refine Go_cS2 (d' := 1) (bc' := 0) (bs' := 0) rfl dX12_bestStep_43 msX12_next rfl lkX12_84 (by decide) (by decide) (by decide) (Nat.le_of_ble_eq_true rfl) ?_
      refine e_X12_next (by omega) (by omega) hi ?_
      refine Go_ist5 dX12_bestStep_46 rfl ?_
      refine Go_ald0 dX12_bestStep_48 ?_
      refine Go_ild5 dX12_bestStep_49 ?_
      refine Go_cV1 (d' := 0) (bc' := 0) (bs' := 0) rfl dX12_bestStep_51 mvX12_isFree rfl lkX12_87 (by first | assumption | rfl) rfl trivial (by decide) (by decide) (by decide) (Nat.le_of_ble_eq_true rfl) ?_
      refine e_X12_isFree b ob ?_
      refine Go_ifb_eq (tgt := 109) dX12_bestStep_54 (by decide)  (fun h54 => by exact absurd q h54) (fun h54 => ?_)
      refine Go_ald0 dX12_bestStep_57 ?_
      refine gf11_8 dX12_bestStep_58 flX12_25 ?_
      refine Go_ild5 dX12_bestStep_61 ?_
      refine Go_bipush dX12_bestStep_63 (by decide +kernel) ?_
      refine Go_iast dX12_bestStep_65 (by first | assumption | rfl) trivial (by omega) (by omega) (by decide) ?_
      refine Go_ald0 dX12_bestStep_66 ?_
      refine Go_ild5 dX12_bestStep_67 ?_
      refine Go_iconst dX12_bestStep_69 ?_
      refine Go_cV2 (d' := 2) (bc' := 0) (bs' := 0) rfl dX12_bestStep_70 mvX12_waysFrom rfl lkX12_215 (by first | assumption | rfl) rfl trivial (by decide) (by decide) (by decide) (Nat.le_of_ble_eq_true rfl) ?_
      refine e_X12_waysFrom (n := 4) (x := (nbI (hdL (pth s.1 p)) i).toNat) (by omega) (by omega) (by decide) om (fun w2 a2 f3 => ?_)
      refine Go_ist6 dX12_bestStep_73 rfl ?_
      refine Go_ald0 dX12_bestStep_75 ?_
      refine gf11_8 dX12_bestStep_76 flX12_25 ?_
      refine Go_ild5 dX12_bestStep_79 ?_
      refine Go_iconst dX12_bestStep_81 ?_
      refine Go_iast dX12_bestStep_82 (by first | assumption | rfl) trivial (by omega) (by omega) (by decide) ?_
      have g1 : ∀ t, up w2 74 (nbI (hdL (pth s.1 p)) i).toNat (-1) 74 t = w1 74 t := fun t => by
        by_cases c : t = (nbI (hdL (pth s.1 p)) i).toNat
        · rw [c, up_s, ← e1, q.2]
        · rw [up_k c, a2 t, up_k c, e1 t]
      have g2 : frm w1 (up w2 74 (nbI (hdL (pth s.1 p)) i).toNat (-1)) [74, 79, 80] := ((f2.up (by simp)).trans f3 (fun _ h => h)).up (by simp)
      refine Go_ild6 dX12_bestStep_83 ?_
      refine Go_ild3 dX12_bestStep_85 ?_
      refine Go_icmp_le (tgt := 94) dX12_bestStep_86 (by decide) (by constructor <;> omega) (by constructor <;> omega) (fun h86 => ?_) (fun h86 => ?_)
      · refine Go_ild2 dX12_bestStep_94 ?_
        refine Go_ist2 dX12_bestStep_95 rfl ?_
        refine Go_ild6 dX12_bestStep_96 ?_
        refine Go_ild3 dX12_bestStep_98 ?_
        refine Go_icmp_le (tgt := 107) dX12_bestStep_99 (by decide) (by constructor <;> omega) (by constructor <;> omega) (fun h99 => ?_) (fun h99 => ?_)
        · refine Go_ild3 dX12_bestStep_107 ?_
          refine Go_ist3 dX12_bestStep_108 rfl ?_
          refine Go_inc4 dX12_bestStep_109 rfl ?_
          refine Go_goto (tgt := 30) dX12_bestStep_112 (by decide) ?_
          first | rw [if_pos (by omega)] at e | rw [if_neg (by omega)] at e
          refine Go_forget (ls' := _) ?_ (kn _ ⟨g1, g2, ?_, ?_⟩)
          · rw [e]; exact (by repeat' (first | exact Or.inl rfl | exact Or.inr rfl | exact Or.inr (lcg (by omega)) | exact trivial | constructor))
          · rw [e]; (first | exact bt.1 | exact c1)
          · rw [e]; (first | exact bt.2 | exact c2)
        · refine Go_ild6 dX12_bestStep_102 ?_
          refine Go_goto (tgt := 108) dX12_bestStep_104 (by decide) ?_
          refine Go_ist3 dX12_bestStep_108 rfl ?_
          refine Go_inc4 dX12_bestStep_109 rfl ?_
          refine Go_goto (tgt := 30) dX12_bestStep_112 (by decide) ?_
          first | rw [if_pos (by omega)] at e | rw [if_neg (by omega)] at e
          refine Go_forget (ls' := _) ?_ (kn _ ⟨g1, g2, ?_, ?_⟩)
          · rw [e]; exact (by repeat' (first | exact Or.inl rfl | exact Or.inr rfl | exact Or.inr (lcg (by omega)) | exact trivial | constructor))
          · rw [e]; (first | exact bt.1 | exact c1)
          · rw [e]; (first | exact bt.2 | exact c2)
      · refine Go_ild4 dX12_bestStep_89 ?_
        refine Go_goto (tgt := 95) dX12_bestStep_91 (by decide) ?_
        refine Go_ist2 dX12_bestStep_95 rfl ?_
        refine Go_ild6 dX12_bestStep_96 ?_
        refine Go_ild3 dX12_bestStep_98 ?_
        refine Go_icmp_le (tgt := 107) dX12_bestStep_99 (by decide) (by constructor <;> omega) (by constructor <;> omega) (fun h99 => ?_) (fun h99 => ?_)
        · refine Go_ild3 dX12_bestStep_107 ?_
          refine Go_ist3 dX12_bestStep_108 rfl ?_
          refine Go_inc4 dX12_bestStep_109 rfl ?_
          refine Go_goto (tgt := 30) dX12_bestStep_112 (by decide) ?_
          first | rw [if_pos (by omega)] at e | rw [if_neg (by omega)] at e
          refine Go_forget (ls' := _) ?_ (kn _ ⟨g1, g2, ?_, ?_⟩)
          · rw [e]; exact (by repeat' (first | exact Or.inl rfl | exact Or.inr rfl | exact Or.inr (lcg (by omega)) | exact trivial | constructor))
          · rw [e]; (first | exact bt.1 | exact c1)
          · rw [e]; (first | exact bt.2 | exact c2)
        · refine Go_ild6 dX12_bestStep_102 ?_
          refine Go_goto (tgt := 108) dX12_bestStep_104 (by decide) ?_
          refine Go_ist3 dX12_bestStep_108 rfl ?_
          refine Go_inc4 dX12_bestStep_109 rfl ?_
          refine Go_goto (tgt := 30) dX12_bestStep_112 (by decide) ?_
          first | rw [if_pos (by omega)] at e | rw [if_neg (by omega)] at e
          refine Go_forget (ls' := _) ?_ (kn _ ⟨g1, g2, ?_, ?_⟩)
          · rw [e]; exact (by repeat' (first | exact Or.inl rfl | exact Or.inr rfl | exact Or.inr (lcg (by omega)) | exact trivial | constructor))
          · rw [e]; (first | exact bt.1 | exact c1)
          · rw [e]; (first | exact bt.2 | exact c2)
    · have et : thr 4 (tkB s.1) (nbI (hdL (pth s.1 p)) i) = -1 := by unfold thr; rw [if_neg (fun z => q ⟨z.1, (eo z.1).mp z.2⟩)]
      rw [et, if_neg (by omega)] at e
      refine Go_ild4 dX12_bestStep_30 ?_
      refine Go_iconst dX12_bestStep_32 ?_
      refine Go_icmp_ge (tgt := 115) dX12_bestStep_33 (by decide) (by constructor <;> omega) (by constructor <;> omega) (fun h33 => by omega) (fun h33 => ?_)
      refine Go_ald0 dX12_bestStep_36 ?_
      refine Go_ild1 dX12_bestStep_37 ?_
      refine Go_cV1 (d' := 1) (bc' := 0) (bs' := 0) rfl dX12_bestStep_38 mvX12_headOf rfl lkX12_121 (by first | assumption | rfl) rfl trivial (by decide) (by decide) (by decide) (Nat.le_of_ble_eq_true rfl) ?_
      refine e_X12_headOf hs hp ?_
      refine Go_ild4 dX12_bestStep_41 ?_
      refine Go_cS2 (d' := 1) (bc' := 0) (bs' := 0) rfl dX12_bestStep_43 msX12_next rfl lkX12_84 (by decide) (by decide) (by decide) (Nat.le_of_ble_eq_true rfl) ?_
      refine e_X12_next (by omega) (by omega) hi ?_
      refine Go_ist5 dX12_bestStep_46 rfl ?_
      refine Go_ald0 dX12_bestStep_48 ?_
      refine Go_ild5 dX12_bestStep_49 ?_
      refine Go_cV1 (d' := 0) (bc' := 0) (bs' := 0) rfl dX12_bestStep_51 mvX12_isFree rfl lkX12_87 (by first | assumption | rfl) rfl trivial (by decide) (by decide) (by decide) (Nat.le_of_ble_eq_true rfl) ?_
      refine e_X12_isFree b ob ?_
      refine Go_ifb_eq (tgt := 109) dX12_bestStep_54 (by decide)  (fun h54 => ?_) (fun h54 => by exact absurd h54 q)
      refine Go_inc4 dX12_bestStep_109 rfl ?_
      refine Go_goto (tgt := 30) dX12_bestStep_112 (by decide) ?_
      refine Go_forget (ls' := _) ?_ (kn _ ⟨e1, f2, ?_, ?_⟩)
      · rw [e]; exact (by repeat' (first | exact Or.inl rfl | exact Or.inr rfl | exact Or.inr (lcg (by omega)) | exact trivial | constructor))
      · rw [e]; exact c1
      · rw [e]; exact c2
  · try dsimp only at hP
    try dsimp only
    obtain ⟨e1, f2, c1, c2⟩ := hP
    refine Go_ild4 dX12_bestStep_30 ?_
    refine Go_iconst dX12_bestStep_32 ?_
    refine Go_icmp_ge (tgt := 115) dX12_bestStep_33 (by decide) (by constructor <;> omega) (by constructor <;> omega) (fun h33 => ?_) (fun h33 => by omega)
    refine Go_ild2 dX12_bestStep_115 ?_
    refine Go_ireturn dX12_bestStep_116 rfl (by first | rfl | decide | exact nar_b | simp [narrow]) ?_
    exact k _ p rfl hp (MX_q h (o.1.trans (mfr.of f2 (by decide))) (by rw [f2.at (by decide)]; exact o.2))
theorem e_X12_sitesInPaths (h : ST w 69 0 s) (k : K (vi (tot s.1)) none w) : Ev G yX12_sitesInPaths cX12_sitesInPaths 3 mX12_sitesInPaths none 1 0 0 [vr 68] w K X := by
  have e0 := st_n h
  have h5 := h.1.1
  refine Ev_intro mvX12_sitesInPaths.1 rfl (fun h => by cases h) (allc1 rfl) (Nat.le_of_ble_eq_true rfl) (Or.inl rfl) ?_
  show Go G cX12_sitesInPaths mX12_sitesInPaths none 1 0 0 0 [some (vr 68), none, none] [] w K X
  refine Go_iconst dX12_sitesInPaths_0 ?_
  refine Go_ist1 dX12_sitesInPaths_1 rfl ?_
  refine Go_iconst dX12_sitesInPaths_2 ?_
  refine Go_ist2 dX12_sitesInPaths_3 rfl ?_
  refine Go_upTo (n := s.1.length) (L := fun i => [some (vr 68), some (vi ((tot (s.1.take i) : Nat) : Int)), some (vi (i : Int))]) (P := fun i v => v = w) (by repeat' (first | exact Or.inl rfl | exact Or.inr rfl | exact Or.inr (lcg (by omega)) | exact trivial | constructor)) (rfl) (fun i v hi hP kn => ?_) (fun v hP => ?_)
  · try dsimp only at hP kn
    try dsimp only
    subst hP
    have e := tot_succ hi
    refine Go_ild2 dX12_sitesInPaths_4 ?_
    refine Go_ald0 dX12_sitesInPaths_5 ?_
    refine gf11_1 dX12_sitesInPaths_6 flX12_7 ?_
    refine Go_iconst dX12_sitesInPaths_9 ?_
    refine Go_iald dX12_sitesInPaths_10 (by first | assumption | rfl) trivial (by omega) (by omega) (by decide) ?_
    rw [show (0 : Int).toNat = 0 from rfl, e0]
    refine Go_icmp_ge (tgt := 28) dX12_sitesInPaths_11 (by decide) (by constructor <;> omega) (by constructor <;> omega) (fun h11 => by omega) (fun h11 => ?_)
    refine Go_ild1 dX12_sitesInPaths_14 ?_
    refine Go_ald0 dX12_sitesInPaths_15 ?_
    refine Go_ild2 dX12_sitesInPaths_16 ?_
    refine Go_cV1 (d' := 0) (bc' := 0) (bs' := 0) rfl dX12_sitesInPaths_17 mvX12_lengthOf rfl lkX12_70 (by first | assumption | rfl) rfl trivial (by decide) (by decide) (by decide) (Nat.le_of_ble_eq_true rfl) ?_
    refine e_X12_lengthOf h hi ?_
    refine Go_iadd dX12_sitesInPaths_20 ?_
    refine Go_ist1 dX12_sitesInPaths_21 rfl ?_
    refine Go_inc2 dX12_sitesInPaths_22 rfl ?_
    refine Go_goto (tgt := 4) dX12_sitesInPaths_25 (by decide) ?_
    exact Go_forget (by repeat' (first | exact Or.inl rfl | exact Or.inr rfl | exact Or.inr (lcg (by omega)) | exact trivial | constructor)) (kn _ rfl)
  · try dsimp only at hP
    try dsimp only
    subst hP
    rw [show tot s.1 = tot (s.1.take s.1.length) by rw [List.take_length]] at k
    refine Go_ild2 dX12_sitesInPaths_4 ?_
    refine Go_ald0 dX12_sitesInPaths_5 ?_
    refine gf11_1 dX12_sitesInPaths_6 flX12_7 ?_
    refine Go_iconst dX12_sitesInPaths_9 ?_
    refine Go_iald dX12_sitesInPaths_10 (by first | assumption | rfl) trivial (by omega) (by omega) (by decide) ?_
    rw [show (0 : Int).toNat = 0 from rfl, e0]
    refine Go_icmp_ge (tgt := 28) dX12_sitesInPaths_11 (by decide) (by constructor <;> omega) (by constructor <;> omega) (fun h11 => ?_) (fun h11 => by omega)
    refine Go_ild1 dX12_sitesInPaths_28 ?_
    refine Go_ireturn dX12_sitesInPaths_29 rfl (by first | rfl | decide | exact nar_b | simp [narrow]) ?_
    exact k
theorem e_X12_count (h : MInv w s sv g tx) (h1 : inR z1)
    (k : ∀ w', 0 ≤ z1 → z1 ≤ 6 → MX w w' 0 s sv g tx → K (vi (cntA s sv tx z1)) none w')
    (x1 : ∀ w', ¬ (0 ≤ z1 ∧ z1 ≤ 6) → MX w w' 1 s sv g tx → K (vi 0) none w') : Ev G yX12_count cX12_count 2 mX12_count none 2 0 0 [vr 68, vi z1] w K X := by
  have hm := thr0.MInv h
  have mx := MX_q h thr0 up_s
  obtain ⟨b1, b2⟩ := id h1
  unfold cntA at k
  refine Ev_intro mvX12_count.1 rfl (fun h => by cases h) (allc1 rfl) (Nat.le_of_ble_eq_true rfl) (Or.inl rfl) ?_
  show Go G cX12_count mX12_count none 2 0 0 0 [some (vr 68), some (vi z1)] [] w K X
  refine Go_ald0 dX12_count_0 ?_
  refine Go_iconst dX12_count_1 ?_
  refine pf11_0 dX12_count_2 flX12_59 (by first | assumption | rfl) ?_
  refine Go_ild1 dX12_count_5 ?_
  by_cases c : 0 ≤ z1 ∧ z1 ≤ 6
  · have c9 : z1 = 0 ∨ z1 = 1 ∨ z1 = 2 ∨ z1 = 3 ∨ z1 = 4 ∨ z1 = 5 ∨ z1 = 6 := by omega
    have k9 := k _ c.1 c.2 mx
    rcases c9 with rfl | rfl | rfl | rfl | rfl | rfl | rfl
    · skip
      refine Go_tsIn (i := 0) (off := 42) (tgt := 48) dX12_count_6 (by omega) ⟨⟨by decide, by decide⟩, by decide⟩ (by decide) (by decide) ?_
      refine Go_ald0 dX12_count_48 ?_
      refine gf11_1 dX12_count_49 flX12_7 ?_
      refine Go_iconst dX12_count_52 ?_
      refine Go_iald dX12_count_53 (by first | assumption | rfl) trivial (by omega) (by omega) (by decide) ?_
      refine Go_ireturn dX12_count_54 rfl (by first | rfl | decide | exact nar_b | simp [narrow]) ?_
      exact kI hm.1.2.1 k9
    · skip
      refine Go_tsIn (i := 1) (off := 49) (tgt := 55) dX12_count_6 (by omega) ⟨⟨by decide, by decide⟩, by decide⟩ (by decide) (by decide) ?_
      refine Go_ald0 dX12_count_55 ?_
      refine Go_cV0 (d' := 1) (bc' := 0) (bs' := 0) rfl dX12_count_56 mvX12_sitesInPaths rfl lkX12_218 (by first | assumption | rfl) rfl trivial (by decide) (by decide) (by decide) (Nat.le_of_ble_eq_true rfl) ?_
      refine e_X12_sitesInPaths hm.1 ?_
      refine Go_ireturn dX12_count_59 rfl (by first | rfl | decide | exact nar_b | simp [narrow]) ?_
      exact k9
    · skip
      refine Go_tsIn (i := 2) (off := 54) (tgt := 60) dX12_count_6 (by omega) ⟨⟨by decide, by decide⟩, by decide⟩ (by decide) (by decide) ?_
      refine Go_ald0 dX12_count_60 ?_
      refine gf11_1 dX12_count_61 flX12_7 ?_
      refine Go_iconst dX12_count_64 ?_
      refine Go_iald dX12_count_65 (by first | assumption | rfl) trivial (by omega) (by omega) (by decide) ?_
      refine Go_ireturn dX12_count_66 rfl (by first | rfl | decide | exact nar_b | simp [narrow]) ?_
      exact kI hm.1.2.2.1 k9
    · skip
      refine Go_tsIn (i := 3) (off := 61) (tgt := 67) dX12_count_6 (by omega) ⟨⟨by decide, by decide⟩, by decide⟩ (by decide) (by decide) ?_
      refine Go_ald0 dX12_count_67 ?_
      refine gf11_1 dX12_count_68 flX12_7 ?_
      refine Go_iconst dX12_count_71 ?_
      refine Go_iald dX12_count_72 (by first | assumption | rfl) trivial (by omega) (by omega) (by decide) ?_
      refine Go_ireturn dX12_count_73 rfl (by first | rfl | decide | exact nar_b | simp [narrow]) ?_
      exact kI hm.1.2.2.2.1 k9
    · skip
      refine Go_tsIn (i := 4) (off := 68) (tgt := 74) dX12_count_6 (by omega) ⟨⟨by decide, by decide⟩, by decide⟩ (by decide) (by decide) ?_
      refine Go_ald0 dX12_count_74 ?_
      refine gf11_1 dX12_count_75 flX12_7 ?_
      refine Go_iconst dX12_count_78 ?_
      refine Go_iald dX12_count_79 (by first | assumption | rfl) trivial (by omega) (by omega) (by decide) ?_
      refine Go_ireturn dX12_count_80 rfl (by first | rfl | decide | exact nar_b | simp [narrow]) ?_
      exact kI hm.1.2.2.2.2.1 k9
    · skip
      refine Go_tsIn (i := 5) (off := 75) (tgt := 81) dX12_count_6 (by omega) ⟨⟨by decide, by decide⟩, by decide⟩ (by decide) (by decide) ?_
      refine Go_ald0 dX12_count_81 ?_
      refine gf11_3 dX12_count_82 flX12_55 (by first | assumption | rfl) ?_
      refine Go_ireturn dX12_count_85 rfl (by first | rfl | decide | exact nar_b | simp [narrow]) ?_
      exact kI hm.2.1.1 k9
    · skip
      refine Go_tsIn (i := 6) (off := 80) (tgt := 86) dX12_count_6 (by omega) ⟨⟨by decide, by decide⟩, by decide⟩ (by decide) (by decide) ?_
      refine Go_ald0 dX12_count_86 ?_
      refine gf11_7 dX12_count_87 flX12_146 (by first | assumption | rfl) ?_
      refine Go_ireturn dX12_count_90 rfl (by first | rfl | decide | exact nar_b | simp [narrow]) ?_
      exact kI hm.2.2.2.1 k9
  · skip
    refine Go_tsOut (tgt := 91) dX12_count_6 (by constructor <;> omega) (by omega) (by decide) ?_
    refine Go_ald0 dX12_count_91 ?_
    refine Go_iconst dX12_count_92 ?_
    refine Go_cV1 (d' := 0) (bc' := 0) (bs' := 0) rfl dX12_count_93 mvX12_fails rfl lkX12_78 (by first | assumption | rfl) rfl trivial (by decide) (by decide) (by decide) (Nat.le_of_ble_eq_true rfl) ?_
    refine e_X12_fails ?_
    refine Go_ireturn dX12_count_96 rfl (by first | rfl | decide | exact nar_b | simp [narrow]) ?_
    exact x1 _ c (MX_fail h)
theorem e_X12_spread (h : MInv w s sv g tx) (h1 : inR z1)
    (k : ∀ w' (p : Nat), z1 = p → p < s.1.length → MX w w' 0 s sv g tx → K (vd (sprD (momL (pth s.1 p)) (pth s.1 p).length)) none w')
    (x1 : ∀ w', ¬ (0 ≤ z1 ∧ z1 < s.1.length) → MX w w' 1 s sv g tx → K (vd FP.dconst0) none w') : Ev G yX12_spread cX12_spread 4 mX12_spread none 2 0 0 [vr 68, vi z1] w K X := by
  have hm := thr0.MInv h
  refine Ev_intro mvX12_spread.1 rfl (fun h => by cases h) (allc1 rfl) (Nat.le_of_ble_eq_true rfl) (Or.inl rfl) ?_
  show Go G cX12_spread mX12_spread none 2 0 0 0 [some (vr 68), some (vi z1), none, none] [] w K X
  refine Go_ald0 dX12_spread_0 ?_
  refine Go_iconst dX12_spread_1 ?_
  refine pf11_0 dX12_spread_2 flX12_59 (by first | assumption | rfl) ?_
  refine Go_ald0 dX12_spread_5 ?_
  refine Go_ild1 dX12_spread_6 ?_
  refine Go_cV1 (d' := 1) (bc' := 0) (bs' := 0) rfl dX12_spread_7 mvX12_isPath rfl lkX12_66 (by first | assumption | rfl) rfl trivial (by decide) (by decide) (by decide) (Nat.le_of_ble_eq_true rfl) ?_
  refine e_X12_isPath hm.1 h1 ?_
  refine Go_ifb_ne (tgt := 20) dX12_spread_10 (by decide)  (fun h10 => ?_) (fun h10 => ?_)
  · obtain ⟨p, rfl⟩ := Int.eq_ofNat_of_zero_le h10.1
    have hp : p < s.1.length := by omega
    have hl := h.1.1.len hp
    refine Go_ald0 dX12_spread_20 ?_
    refine Go_ild1 dX12_spread_21 ?_
    refine Go_cV1 (d' := 0) (bc' := 0) (bs' := 0) rfl dX12_spread_22 mvX12_lengthOf rfl lkX12_70 (by first | assumption | rfl) rfl trivial (by decide) (by decide) (by decide) (Nat.le_of_ble_eq_true rfl) ?_
    refine e_X12_lengthOf hm.1 hp ?_
    refine Go_i2d dX12_spread_25 ?_
    refine Go_dstore_n (i := 2) dX12_spread_26 rfl rfl (Nat.le_of_ble_eq_true rfl) (fun j hj => by have e : j = 1 := (by omega); subst e; rfl) ?_
    refine Go_ald0 dX12_spread_27 ?_
    refine Go_ild1 dX12_spread_28 ?_
    refine Go_cV1 (d' := 1) (bc' := 0) (bs' := 0) rfl dX12_spread_29 mvX12_moment rfl lkX12_184 (by first | assumption | rfl) rfl trivial (by decide) (by decide) (by decide) (Nat.le_of_ble_eq_true rfl) ?_
    refine e_X12_moment hm.1 hp ?_
    refine Go_i2d dX12_spread_32 ?_
    refine Go_dload_n (i := 2) dX12_spread_33 rfl rfl ?_
    refine Go_dload_n (i := 2) dX12_spread_34 rfl rfl ?_
    refine Go_dmul dX12_spread_35 (nn64 (sq_ok _)) ?_
    refine Go_ddiv dX12_spread_36 (nn64 (spr_ok _ (by omega) (by omega))) ?_
    refine Go_dreturn dX12_spread_37 rfl ?_
    exact k _ p rfl hp (MX_q h thr0 up_s)
  · refine Go_ald0 dX12_spread_13 ?_
    refine Go_iconst dX12_spread_14 ?_
    refine pf11_0 dX12_spread_15 flX12_59 (by first | assumption | rfl) ?_
    refine Go_dconst0 dX12_spread_18 ?_
    refine Go_dreturn dX12_spread_19 rfl ?_
    exact x1 _ h10 (MX_fail h)
theorem e_X12_share (h : MInv w s sv g tx) (k : ∀ w', MX w w' 0 s sv g tx → K (vf (shrF (tot s.1))) none w') : Ev G yX12_share cX12_share 1 mX12_share none 2 0 0 [vr 68] w K X := by
  have hm := thr0.MInv h
  refine Ev_intro mvX12_share.1 rfl (fun h => by cases h) (allc1 rfl) (Nat.le_of_ble_eq_true rfl) (Or.inl rfl) ?_
  show Go G cX12_share mX12_share none 2 0 0 0 [some (vr 68)] [] w K X
  refine Go_ald0 dX12_share_0 ?_
  refine Go_iconst dX12_share_1 ?_
  refine pf11_0 dX12_share_2 flX12_59 (by first | assumption | rfl) ?_
  refine Go_ald0 dX12_share_5 ?_
  refine Go_cV0 (d' := 1) (bc' := 0) (bs' := 0) rfl dX12_share_6 mvX12_sitesInPaths rfl lkX12_218 (by first | assumption | rfl) rfl trivial (by decide) (by decide) (by decide) (Nat.le_of_ble_eq_true rfl) ?_
  refine e_X12_sitesInPaths hm.1 ?_
  refine Go_i2f dX12_share_9 ?_
  refine Go_ldcF dX12_share_10 cfX12_221 ?_
  refine Go_fdiv dX12_share_12 (shr_ok _).1 ?_
  refine Go_freturn dX12_share_13 rfl ?_
  exact k _ (MX_q h thr0 up_s)
end Model10
