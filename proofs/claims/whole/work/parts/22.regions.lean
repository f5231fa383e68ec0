section Loops2
variable {G : Gm} {cc : ByteArray} {mt : Mt} {nx : Option Nat} {d bc bs pc : Nat} {ls : List (Option Vl)} {st : List Vl} {w : Wd} {K : Kt} {X : Xt}
/-- a loop that counts up to a bound and carries something along; it may end earlier -/
theorem Go_upToS {σ : Type} {n : Nat} {L : Nat → σ → List (Option Vl)} {P : Nat → σ → Wd → Prop} (x0 : σ) (hl : lsub (L 0 x0) ls) (hp : P 0 x0 w)
    (hs : ∀ i x v, i < n → P i x v → (∀ x' v', P (i + 1) x' v' → Go G cc mt nx d bc bs pc (L (i + 1) x') st v' K X) → Go G cc mt nx d bc bs pc (L i x) st v K X)
    (he : ∀ x v, P n x v → Go G cc mt nx d bc bs pc (L n x) st v K X) : Go G cc mt nx d bc bs pc ls st w K X := by
  have key : ∀ (m i : Nat) (x : σ) (v : Wd), i + m = n → P i x v → Go G cc mt nx d bc bs pc (L i x) st v K X := by
    intro m
    induction m with
    | zero => intro i x v hi hv; have : i = n := by omega
              subst this; exact he x v hv
    | succ m ih => intro i x v hi hv; exact hs i x v (by omega) hv (fun x' v' hv' => ih (i + 1) x' v' (by omega) hv')
  exact Go_forget hl (key n 0 x0 w (by omega) hp)
end Loops2
/-- what can be come to over free sites -/
def cn (ps : List (List Nat)) (s t : Nat) : Prop := ∀ P : Nat → Prop, P s → (∀ a b, P a → nbr a b → ow ps b = -1 → P b) → P t
theorem nbr_lt {a b : Nat} (h : nbr a b) : b < 100 := by
  obtain ⟨d, -, e⟩ := h
  have := nbI_in a d
  omega
theorem cn_self (ps : List (List Nat)) (s : Nat) : cn ps s s := fun _ h _ => h
theorem cn_step {ps : List (List Nat)} {s a b : Nat} (h : cn ps s a) (hn : nbr a b) (hb : ow ps b = -1) : cn ps s b := fun P h0 h1 => h1 a b (h P h0 h1) hn hb
noncomputable def rgS (ps : List (List Nat)) : Nat → (Nat → Int) × Nat
  | 0 => (fun _ => -1, 0)
  | m + 1 => if ow ps m = -1 ∧ (rgS ps m).1 m = -1 then (fun t => @ite Int (cn ps m t) (Classical.propDecidable _) ((rgS ps m).2 : Int) ((rgS ps m).1 t), (rgS ps m).2 + 1) else rgS ps m
/-- what holds of regions that are numbered so far -/
def RGI (ps : List (List Nat)) (r : Nat → Int) (n : Nat) : Prop := (∀ t, r t = -1 ∨ (0 ≤ r t ∧ r t < n ∧ t < 100 ∧ ow ps t = -1)) ∧ ∀ a b, r a ≠ -1 → nbr a b → ow ps b = -1 → r b = r a
theorem RGI.unseen {ps : List (List Nat)} {r : Nat → Int} {n s t : Nat} (h : RGI ps r n) (hs : s < 100) (ho : ow ps s = -1) (hr : r s = -1) (hc : cn ps s t) : r t = -1 ∧ t < 100 ∧ ow ps t = -1 := by
  refine hc (fun t => r t = -1 ∧ t < 100 ∧ ow ps t = -1) ⟨hr, hs, ho⟩ (fun a b ha hn hb => ⟨?_, nbr_lt hn, hb⟩)
  by_cases q : r b = -1
  · exact q
  · have := h.2 b a q (nbr_symm ha.2.1 (nbr_lt hn) hn) ha.2.2
    rw [ha.1] at this
    exact absurd this.symm q
theorem RGI.next {ps : List (List Nat)} {r r' : Nat → Int} {n s : Nat} (h : RGI ps r n) (hs : s < 100) (ho : ow ps s = -1) (hr : r s = -1) (h1 : ∀ t, cn ps s t → r' t = n) (h2 : ∀ t, ¬ cn ps s t → r' t = r t) : RGI ps r' (n + 1) := by
  constructor
  · intro t
    by_cases q : cn ps s t
    · have := h.unseen hs ho hr q
      rw [h1 t q]
      exact Or.inr ⟨by omega, by omega, this.2.1, this.2.2⟩
    · rw [h2 t q]
      rcases h.1 t with c | c
      · exact Or.inl c
      · exact Or.inr ⟨c.1, by omega, c.2.2.1, c.2.2.2⟩
  · intro a b ha hn hb
    by_cases q : cn ps s a
    · rw [h1 a q, h1 b (cn_step q hn hb)]
    · rw [h2 a q] at ha ⊢
      have e := h.2 a b ha hn hb
      have q2 : ¬ cn ps s b := fun c => by
        have := (h.unseen hs ho hr c).1
        rw [e] at this
        exact ha this
      rw [h2 b q2]
      exact e
theorem rgS_pos {ps : List (List Nat)} {m : Nat} (h : ow ps m = -1 ∧ (rgS ps m).1 m = -1) : (∀ t, cn ps m t → (rgS ps (m + 1)).1 t = (rgS ps m).2) ∧ (∀ t, ¬ cn ps m t → (rgS ps (m + 1)).1 t = (rgS ps m).1 t) ∧ (rgS ps (m + 1)).2 = (rgS ps m).2 + 1 := by
  have e : rgS ps (m + 1) = (fun t => @ite Int (cn ps m t) (Classical.propDecidable _) ((rgS ps m).2 : Int) ((rgS ps m).1 t), (rgS ps m).2 + 1) := by
    rw [rgS, if_pos h]
  rw [e]
  exact ⟨fun t ht => if_pos ht, fun t ht => if_neg ht, rfl⟩
theorem rgS_neg {ps : List (List Nat)} {m : Nat} (h : ¬ (ow ps m = -1 ∧ (rgS ps m).1 m = -1)) : rgS ps (m + 1) = rgS ps m := by
  rw [rgS, if_neg h]
theorem rgS_ok (ps : List (List Nat)) : ∀ (m : Nat), m ≤ 100 → RGI ps (rgS ps m).1 (rgS ps m).2 ∧ (rgS ps m).2 ≤ m
  | 0, _ => ⟨⟨fun t => Or.inl rfl, fun a b h => absurd rfl h⟩, Nat.le_refl _⟩
  | m + 1, hm => by
    have ih := rgS_ok ps m (by omega)
    by_cases q : ow ps m = -1 ∧ (rgS ps m).1 m = -1
    · obtain ⟨a1, a2, a3⟩ := rgS_pos q
      have := ih.1.next (by omega) q.1 q.2 a1 a2
      rw [a3]
      exact ⟨this, by omega⟩
    · rw [rgS_neg q]
      exact ⟨ih.1, by omega⟩
/-- how many sites have a number -/
def cntF (r : Nat → Int) (i : Int) : Int := smF (fun t => if r t = i then 1 else 0) 100
theorem smF_set {f g : Nat → Int} {a : Nat} (h : g a = f a + 1) (ho : ∀ t, t ≠ a → g t = f t) : ∀ n, smF g n = smF f n + (if a < n then 1 else 0)
  | 0 => rfl
  | n + 1 => by
    show smF g n + g n = smF f n + f n + _
    rw [smF_set h ho n]
    by_cases q : n = a
    · subst q; rw [h, if_neg (by omega), if_pos (by omega)]; omega
    · rw [ho n q]
      by_cases c : a < n
      · rw [if_pos c, if_pos (by omega)]; omega
      · rw [if_neg c, if_neg (by omega)]; omega
theorem cnt_set {r r' : Nat → Int} {a n : Nat} (ha : a < 100) (h : r a = -1) (h' : r' a = n) (ho : ∀ t, t ≠ a → r' t = r t) : cntF r' n = cntF r n + 1 ∧ ∀ i : Nat, i ≠ n → cntF r' i = cntF r i := by
  constructor
  · unfold cntF
    rw [smF_set (f := fun t => if r t = n then 1 else 0) (a := a) (by rw [h, h', if_pos rfl, if_neg (by omega)]; rfl) (fun t ht => by rw [ho t ht]) 100, if_pos ha]
  · intro i hi
    unfold cntF
    refine smF_congr (fun t _ => ?_)
    by_cases q : t = a
    · subst q; rw [h, h', if_neg (by omega), if_neg (by omega)]
    · rw [ho t q]
theorem cntF_in (r : Nat → Int) (i : Int) : 0 ≤ cntF r i ∧ cntF r i ≤ 100 := by
  have := smF_in (f := fun t => if r t = i then 1 else 0) (c := 1) (n := 100) (fun j _ => by split <;> omega)
  exact this
theorem cntF_congr {r r' : Nat → Int} {i : Int} (h : ∀ t, t < 100 → r' t = r t) : cntF r' i = cntF r i := smF_congr (fun t ht => by rw [h t ht])
theorem cnt_list {r : Nat → Int} {n : Nat} (hr : ∀ t, r t ≠ n) : ∀ (l : List Nat), l.Nodup → (∀ x ∈ l, x < 100 ∧ r x = -1) → cntF (fun t => if t ∈ l then (n : Int) else r t) n = l.length ∧ ∀ i : Nat, i ≠ n → cntF (fun t => if t ∈ l then (n : Int) else r t) i = cntF r i
  | [], _, _ => by
    have e0 : cntF r n = 0 := by
      unfold cntF
      rw [smF_congr (g := fun _ => 0) (fun j _ => by rw [if_neg (hr j)])]
      have z : ∀ m, smF (fun _ => 0) m = 0 := by intro m; induction m with
        | zero => rfl
        | succ m ih => show smF (fun _ => 0) m + 0 = 0; rw [ih]; rfl
      exact z 100
    refine ⟨?_, fun i _ => cntF_congr (fun t _ => by simp)⟩
    rw [cntF_congr (r := r) (fun t _ => by simp), e0]
    rfl
  | a :: l, hn, hx => by
    have ih := cnt_list hr l (List.nodup_cons.mp hn).2 (fun x hm => hx x (List.mem_cons_of_mem _ hm))
    have ha := hx a List.mem_cons_self
    have hal := (List.nodup_cons.mp hn).1
    have c := cnt_set (r := fun t => if t ∈ l then (n : Int) else r t) (r' := fun t => if t ∈ a :: l then (n : Int) else r t) (a := a) (n := n) ha.1 (by rw [if_neg hal]; exact ha.2) (by rw [if_pos List.mem_cons_self]) (fun t ht => by
      try dsimp only
      by_cases q : t ∈ l
      · rw [if_pos q, if_pos (List.mem_cons_of_mem _ q)]
      · rw [if_neg q, if_neg (fun z => by rcases List.mem_cons.mp z with z | z; exact ht z; exact q z)])
    refine ⟨?_, fun i hi => ?_⟩
    · rw [c.1, ih.1, List.length_cons]; omega
    · rw [c.2 i hi, ih.2 i hi]
def RG (w : Wd) (r : Nat → Int) (n : Nat) (ch : Nat → Bool) : Prop := (∀ t, t < 100 → w 54 t = r t) ∧ w 53 4 = (n : Int) ∧ ∀ i, i < n → w 55 i = cntF r i ∧ w 56 i = if ch i = true then 1 else 0
noncomputable def rgR (ps : List (List Nat)) : Nat → Int := (rgS ps 100).1
noncomputable def rgN (ps : List (List Nat)) : Nat := (rgS ps 100).2
theorem rg_ok (ps : List (List Nat)) : RGI ps (rgR ps) (rgN ps) ∧ rgN ps ≤ 100 := rgS_ok ps 100 (Nat.le_refl _)
def bsdB (r : Nat → Int) (s i d : Nat) : Bool := decide (0 ≤ nbI s d ∧ r (nbI s d).toNat = i)
def bsd (r : Nat → Int) (s i : Nat) : Bool := (List.range 4).any (bsdB r s i)
section Regions
variable {G : Gm} {w : Wd} {K : Kt} {X : Xt} {ps : List (List Nat)}
theorem e_X4_isUnseen {z : Int} (h : MK (w 4) (w 5) ps) (h5 : ps.length ≤ 5) (hz : -1 ≤ z ∧ z < 100) (hr : 0 ≤ z → inR (w 54 z.toNat)) (k : K (vi (if 0 ≤ z ∧ ow ps z.toNat = -1 ∧ w 54 z.toNat = -1 then 1 else 0)) none w) : Ev G yX4_isUnseen cX4_isUnseen 3 mX4_isUnseen none 2 0 0 [vr 53, vr 2, vi z] w K X := by
  have b0 := ow_in ps z.toNat
  refine Ev_intro mvX4_isUnseen.1 rfl (fun h => by cases h) (allc1 rfl) (Nat.le_of_ble_eq_true rfl) (Or.inl rfl) ?_
  show Go G cX4_isUnseen mX4_isUnseen none 2 0 0 0 [some (vr 53), some (vr 2), some (vi z)] [] w K X
  refine Go_ald1 dX4_isUnseen_0 ?_
  refine Go_ild2 dX4_isUnseen_1 ?_
  refine Go_cV1 (d' := 1) (bc' := 0) (bs' := 0) rfl dX4_isUnseen_2 mvX0_isFree rfl lkX4_49 (by first | assumption | rfl) rfl trivial (by decide) (by decide) (by decide) (Nat.le_of_ble_eq_true rfl) ?_
  refine e_X0_isFree h h5 (by constructor <;> omega) ?_
  refine Go_ifb_eq (tgt := 22) dX4_isUnseen_5 (by decide)  (fun h5 => ?_) (fun h5 => ?_)
  · refine Go_iconst dX4_isUnseen_22 ?_
    refine Go_ireturn dX4_isUnseen_23 rfl (by first | rfl | decide | simp [narrow]) ?_
    first | (refine kI (Eq.symm (if_neg (by omega))) k) | (refine kI (Eq.symm (if_pos (by omega))) k)
  · refine Go_ald0 dX4_isUnseen_8 ?_
    refine gf3_0 dX4_isUnseen_9 flX4_9 ?_
    refine Go_ild2 dX4_isUnseen_12 ?_
    refine Go_iald dX4_isUnseen_13 (by first | assumption | rfl) trivial (by omega) (by omega) (by decide) ?_
    refine Go_iconst dX4_isUnseen_14 ?_
    refine Go_icmp_ne (tgt := 22) dX4_isUnseen_15 (by decide) (hr (by omega)) (by constructor <;> omega) (fun h15 => ?_) (fun h15 => ?_)
    · refine Go_iconst dX4_isUnseen_22 ?_
      refine Go_ireturn dX4_isUnseen_23 rfl (by first | rfl | decide | simp [narrow]) ?_
      first | (refine kI (Eq.symm (if_neg (by omega))) k) | (refine kI (Eq.symm (if_pos (by omega))) k)
    · refine Go_iconst dX4_isUnseen_18 ?_
      refine Go_goto (tgt := 23) dX4_isUnseen_19 (by decide) ?_
      refine Go_ireturn dX4_isUnseen_23 rfl (by first | rfl | decide | simp [narrow]) ?_
      first | (refine kI (Eq.symm (if_neg (by omega))) k) | (refine kI (Eq.symm (if_pos (by omega))) k)
/-- what a flood has found so far -/
def FLD (w v : Wd) (ps : List (List Nat)) (r : Nat → Int) (n s : Nat) (fl : List Nat) : Prop := fl.Nodup ∧ (∀ x ∈ fl, x < 100 ∧ ow ps x = -1 ∧ cn ps s x ∧ r x = -1) ∧ s ∈ fl ∧ (∀ t, t < 100 → v 54 t = if t ∈ fl then (n : Int) else r t) ∧ (∀ j, j < fl.length → v 57 j = (fl.getD j 0 : Int)) ∧ frm w v [54, 57] ∧ v 53 4 = (n : Int)
theorem FLD.len {w v : Wd} {ps : List (List Nat)} {r : Nat → Int} {n s : Nat} {fl : List Nat} (h : FLD w v ps r n s fl) : fl.length ≤ 100 := nodup_le 100 fl h.1 (fun x hx => (h.2.1 x hx).1)
theorem FLD.push {w v : Wd} {ps : List (List Nat)} {r : Nat → Int} {n s a b : Nat} {fl : List Nat} (h : FLD w v ps r n s fl) (ha : a ∈ fl) (hn : nbr a b) (ho : ow ps b = -1) (hv : v 54 b = -1) (hl : fl.length < 100) : FLD w (up (up v 54 b n) 57 fl.length b) ps r n s (fl ++ [b]) := by
  obtain ⟨h1, h2, h3, h4, h5, h6, h7⟩ := h
  have hb := nbr_lt hn
  have e := h4 b hb
  have hbl : b ∉ fl := fun q => by rw [if_pos q] at e; omega
  rw [if_neg hbl] at e
  refine ⟨?_, fun x hx => ?_, List.mem_append_left _ h3, fun t ht => ?_, fun j hj => ?_, (h6.up (by simp)).up (by simp), by rw [up_a (by decide), up_a (by decide)]; exact h7⟩
  · rw [List.nodup_append]
    exact ⟨h1, by simp, fun x hx y hy ex => by rw [List.mem_singleton] at hy; rw [hy] at ex; rw [ex] at hx; exact hbl hx⟩
  · rcases List.mem_append.mp hx with q | q
    · exact h2 x q
    · rw [List.mem_singleton] at q
      subst q
      exact ⟨hb, ho, cn_step (h2 a ha).2.2.1 hn ho, by rw [← e]; exact hv⟩
  · rw [up_a (by decide)]
    by_cases q : t = b
    · subst q; rw [up_s, if_pos (by simp)]
    · rw [up_k q, h4 t ht]
      by_cases c : t ∈ fl
      · rw [if_pos c, if_pos (List.mem_append_left _ c)]
      · rw [if_neg c, if_neg (fun z => by rcases List.mem_append.mp z with z | z; exact c z; rw [List.mem_singleton] at z; exact q z)]
  · rw [List.length_append, List.length_cons, List.length_nil] at hj
    rw [gD_app]
    by_cases q : j = fl.length
    · subst q; rw [up_s, if_neg (by omega), Nat.sub_self]; rfl
    · rw [up_k q, up_a (by decide), if_pos (by omega)]; exact h5 j (by omega)
/-- the neighbours that are looked at already are found -/
def SEEN (ps : List (List Nat)) (fl : List Nat) (j d : Nat) : Prop := ∀ i e b : Nat, (i < j ∨ (i = j ∧ e < d)) → e < 4 → i < fl.length → nbI (fl.getD i 0) e = (b : Int) → ow ps b = -1 → b ∈ fl
theorem e_X4_flood {r : Nat → Int} {n s : Nat} (h : BD w ps) (hI : RGI ps r n) (hn : n < 100) (hs : s < 100) (ho : ow ps s = -1) (hr : r s = -1) (h54 : ∀ t, t < 100 → w 54 t = r t) (h53 : w 53 4 = (n : Int))
    (k : ∀ w' fl, FLD w w' ps r n s fl → (∀ t, cn ps s t ↔ t ∈ fl) → K (vi (fl.length : Int)) none w') : Ev G yX4_flood cX4_flood 7 mX4_flood none 3 0 0 [vr 53, vr 2, vi (s : Int)] w K X := by
  have hl5 := h.1.2.1
  have hi_2 : ∀ {fl : List Nat} {v : Wd}, FLD w v ps r n s fl → ∀ a b, a ∈ fl → nbr a b → ow ps b = -1 → r b = -1 := fun g a b ha hn hb => by
    have ga := g.2.1 a ha
    by_cases q : r b = -1
    · exact q
    · have := hI.2 b a q (nbr_symm ga.1 (nbr_lt hn) hn) ga.2.1
      omega
  have f0 : FLD w (up (up w 54 s n) 57 0 s) ps r n s [s] := by
    refine ⟨by simp, fun x hx => ?_, by simp, fun t ht => ?_, fun j hj => ?_, (frm.rfl.up (by simp)).up (by simp), by rw [up_a (by decide), up_a (by decide)]; exact h53⟩
    · rw [List.mem_singleton] at hx; subst hx; exact ⟨hs, ho, cn_self _ _, hr⟩
    · rw [up_a (by decide)]
      by_cases q : t = s
      · subst q; rw [up_s, if_pos (by simp)]
      · rw [up_k q, if_neg (by simp [q])]; exact h54 t ht
    · have e : j = 0 := by simp at hj; omega
      subst e; rw [up_s]; rfl
  refine Ev_intro mvX4_flood.1 rfl (fun h => by cases h) (allc1 rfl) (Nat.le_of_ble_eq_true rfl) (Or.inl rfl) ?_
  show Go G cX4_flood mX4_flood none 3 0 0 0 [some (vr 53), some (vr 2), some (vi (s : Int)), none, none, none, none] [] w K X
  refine Go_ald0 dX4_flood_0 ?_
  refine gf3_0 dX4_flood_1 flX4_9 ?_
  refine Go_ild2 dX4_flood_4 ?_
  refine Go_ald0 dX4_flood_5 ?_
  refine gf3_4 dX4_flood_6 flX4_31 (by first | assumption | rfl) ?_
  refine Go_iast dX4_flood_9 (by first | assumption | rfl) trivial (by omega) (by omega) (by decide) ?_
  refine Go_ald0 dX4_flood_10 ?_
  refine gf3_3 dX4_flood_11 flX4_22 ?_
  refine Go_iconst dX4_flood_14 ?_
  refine Go_ild2 dX4_flood_15 ?_
  refine Go_iast dX4_flood_16 (by first | assumption | rfl) trivial (by omega) (by omega) (by decide) ?_
  refine Go_iconst dX4_flood_17 ?_
  refine Go_ist3 dX4_flood_18 rfl ?_
  refine Go_iconst dX4_flood_19 ?_
  refine Go_ist4 dX4_flood_20 rfl ?_
  rw [h53, Int.toNat_natCast]
  refine Go_upToS (σ := List Nat) (n := 100) (L := fun i fl => [some (vr 53), some (vr 2), some (vi (s : Int)), some (vi (fl.length : Int)), some (vi (i : Int)), none, none]) (P := fun i fl v => FLD w v ps r n s fl ∧ SEEN ps fl i 0) [s] ((by repeat' (first | exact Or.inl rfl | exact Or.inr rfl | exact Or.inr (lcg (by omega)) | exact trivial | constructor))) ⟨f0, fun i e b c => by omega⟩ (fun i fl v hi hP kn => ?_) (fun fl v hP => ?_)
  · obtain ⟨g, sn⟩ := hP
    have gl := g.len
    by_cases q : (fl.length : Int) ≤ i
    · skip
      refine Go_ild4 dX4_flood_22 ?_
      refine Go_ild3 dX4_flood_24 ?_
      refine Go_icmp_ge (tgt := 108) dX4_flood_25 (by decide) (by constructor <;> omega) (by constructor <;> omega) (fun h25 => ?_) (fun h25 => by omega)
      refine Go_ild3 dX4_flood_108 ?_
      refine Go_ireturn dX4_flood_109 rfl (by first | rfl | decide | simp [narrow]) ?_
      refine k _ fl g (fun t => ⟨fun c => ?_, fun c => (g.2.1 t c).2.2.1⟩)
      refine c (fun t => t ∈ fl) g.2.2.1 (fun a b ha hn hb => ?_)
      obtain ⟨j, hj, e⟩ := mem_getD ha
      obtain ⟨d, hd, e2⟩ := hn
      exact sn j d b (Or.inl (by omega)) hd hj (by rw [e]; exact e2) hb
    · skip
      refine Go_ild4 dX4_flood_22 ?_
      refine Go_ild3 dX4_flood_24 ?_
      refine Go_icmp_ge (tgt := 108) dX4_flood_25 (by decide) (by constructor <;> omega) (by constructor <;> omega) (fun h25 => by omega) (fun h25 => ?_)
      refine Go_ild4 dX4_flood_28 ?_
      refine Go_bipush dX4_flood_30 (by decide +kernel) ?_
      refine Go_icmp_ge (tgt := 108) dX4_flood_32 (by decide) (by constructor <;> omega) (by constructor <;> omega) (fun h32 => by omega) (fun h32 => ?_)
      refine Go_iconst dX4_flood_35 ?_
      refine Go_ist5 dX4_flood_36 rfl ?_
      refine Go_upToS (σ := List Nat) (n := 4) (L := fun e fl => [some (vr 53), some (vr 2), some (vi (s : Int)), some (vi (fl.length : Int)), some (vi (i : Int)), some (vi (e : Int)), none]) (P := fun e fl v => FLD w v ps r n s fl ∧ SEEN ps fl i e ∧ i < fl.length) fl ((by repeat' (first | exact Or.inl rfl | exact Or.inr rfl | exact Or.inr (lcg (by omega)) | exact trivial | constructor))) ⟨g, sn, by omega⟩ (fun e fl v he hP2 kn2 => ?_) (fun fl v hP2 => ?_)
      · obtain ⟨g2, sn2, il⟩ := hP2
        have gl2 := g2.len
        have hb := h.frm g2.2.2.2.2.2.1 (by simp)
        have e57 := g2.2.2.2.2.1 i il
        have e53 := g2.2.2.2.2.2.2
        have hx := (g2.2.1 _ (getD_mem il)).1
        have b := nbI_in (fl.getD i 0) e
        have h54v : ∀ z : Int, 0 ≤ z → z < 100 → -1 ≤ v 54 z.toNat ∧ v 54 z.toNat < 100 := fun z z0 z1 => by
          rw [g2.2.2.2.1 z.toNat (by omega)]
          split
          · omega
          · rcases hI.1 z.toNat with c | c <;> omega
        by_cases q2 : 0 ≤ nbI (fl.getD i 0) e ∧ ow ps (nbI (fl.getD i 0) e).toNat = -1 ∧ v 54 (nbI (fl.getD i 0) e).toNat = -1
        · have eb : nbI (fl.getD i 0) e = (((nbI (fl.getD i 0) e).toNat : Nat) : Int) := by omega
          have nb : nbr (fl.getD i 0) (nbI (fl.getD i 0) e).toNat := ⟨e, he, eb⟩
          have lt100 : fl.length < 100 := by
            have e4 := g2.2.2.2.1 _ (nbr_lt nb)
            have nm : (nbI (fl.getD i 0) e).toNat ∉ fl := fun c => by rw [if_pos c] at e4; omega
            have := nodup_le 100 ((nbI (fl.getD i 0) e).toNat :: fl) (List.nodup_cons.mpr ⟨nm, g2.1⟩) (fun x hx => by rcases List.mem_cons.mp hx with c | c; rw [c]; exact nbr_lt nb; exact (g2.2.1 x c).1)
            rw [List.length_cons] at this
            omega
          have g3 := g2.push (getD_mem il) nb q2.2.1 q2.2.2 lt100
          refine Go_ild5 dX4_flood_38 ?_
          refine Go_iconst dX4_flood_40 ?_
          refine Go_icmp_ge (tgt := 102) dX4_flood_41 (by decide) (by constructor <;> omega) (by constructor <;> omega) (fun h41 => by omega) (fun h41 => ?_)
          refine Go_ald0 dX4_flood_44 ?_
          refine gf3_3 dX4_flood_45 flX4_22 ?_
          refine Go_ild4 dX4_flood_48 ?_
          refine Go_iald dX4_flood_50 (by first | assumption | rfl) trivial (by omega) (by omega) (by decide) ?_
          rw [Int.toNat_natCast, e57]
          refine Go_ild5 dX4_flood_51 ?_
          refine Go_cS2 (d' := 1) (bc' := 0) (bs' := 0) rfl dX4_flood_53 msX2_neighbour rfl lkX4_43 (by decide) (by decide) (by decide) (Nat.le_of_ble_eq_true rfl) ?_
          refine e_X2_neighbour (by omega) (by omega) (by constructor <;> omega) ?_
          refine Go_ist6 dX4_flood_56 rfl ?_
          refine Go_ald0 dX4_flood_58 ?_
          refine Go_ald1 dX4_flood_59 ?_
          refine Go_ild6 dX4_flood_60 ?_
          refine Go_cV2 (d' := 2) (bc' := 0) (bs' := 0) rfl dX4_flood_62 mvX4_isUnseen rfl lkX4_35 (by first | assumption | rfl) rfl trivial (by decide) (by decide) (by decide) (Nat.le_of_ble_eq_true rfl) ?_
          refine e_X4_isUnseen hb.2.1 hl5 b (fun z0 => by have := h54v _ z0 b.2; constructor <;> omega) ?_
          refine Go_ifb_eq (tgt := 96) dX4_flood_65 (by decide)  (fun h65 => by exact absurd q2 h65) (fun h65 => ?_)
          refine Go_ild3 dX4_flood_68 ?_
          refine Go_bipush dX4_flood_69 (by decide +kernel) ?_
          refine Go_icmp_ge (tgt := 96) dX4_flood_71 (by decide) (by constructor <;> omega) (by constructor <;> omega) (fun h71 => by omega) (fun h71 => ?_)
          refine Go_ald0 dX4_flood_74 ?_
          refine gf3_0 dX4_flood_75 flX4_9 ?_
          refine Go_ild6 dX4_flood_78 ?_
          refine Go_ald0 dX4_flood_80 ?_
          refine gf3_4 dX4_flood_81 flX4_31 (by first | assumption | rfl) ?_
          refine Go_iast dX4_flood_84 (by first | assumption | rfl) trivial (by omega) (by omega) (by decide) ?_
          refine Go_ald0 dX4_flood_85 ?_
          refine gf3_3 dX4_flood_86 flX4_22 ?_
          refine Go_ild3 dX4_flood_89 ?_
          refine Go_ild6 dX4_flood_90 ?_
          refine Go_iast dX4_flood_92 (by first | assumption | rfl) trivial (by omega) (by omega) (by decide) ?_
          refine Go_inc3 dX4_flood_93 rfl ?_
          refine Go_inc5 dX4_flood_96 rfl ?_
          refine Go_goto (tgt := 38) dX4_flood_99 (by decide) ?_
          rw [e53, Int.toNat_natCast]
          refine Go_forget (ls' := _) ?_ (kn2 (fl ++ [(nbI (fl.getD i 0) e).toNat]) _ ⟨?_, ?_, ?_⟩)
          · rw [List.length_append, List.length_cons, List.length_nil]; exact (by repeat' (first | exact Or.inl rfl | exact Or.inr rfl | exact Or.inr (lcg (by omega)) | exact trivial | constructor))
          · rw [← eb] at g3; exact g3
          · intro i' e' b' c1 c2 c3 c4 c5
            rw [List.length_append, List.length_cons, List.length_nil] at c3
            by_cases c6 : i' < fl.length
            · rw [gD_app, if_pos c6] at c4
              by_cases c7 : i' = i ∧ e' = e
              · rw [c7.1, c7.2] at c4; exact List.mem_append_right _ (by rw [List.mem_singleton]; omega)
              · exact List.mem_append_left _ (sn2 i' e' b' (by omega) c2 c6 c4 c5)
            · omega
          · rw [List.length_append]; omega
        · skip
          refine Go_ild5 dX4_flood_38 ?_
          refine Go_iconst dX4_flood_40 ?_
          refine Go_icmp_ge (tgt := 102) dX4_flood_41 (by decide) (by constructor <;> omega) (by constructor <;> omega) (fun h41 => by omega) (fun h41 => ?_)
          refine Go_ald0 dX4_flood_44 ?_
          refine gf3_3 dX4_flood_45 flX4_22 ?_
          refine Go_ild4 dX4_flood_48 ?_
          refine Go_iald dX4_flood_50 (by first | assumption | rfl) trivial (by omega) (by omega) (by decide) ?_
          rw [Int.toNat_natCast, e57]
          refine Go_ild5 dX4_flood_51 ?_
          refine Go_cS2 (d' := 1) (bc' := 0) (bs' := 0) rfl dX4_flood_53 msX2_neighbour rfl lkX4_43 (by decide) (by decide) (by decide) (Nat.le_of_ble_eq_true rfl) ?_
          refine e_X2_neighbour (by omega) (by omega) (by constructor <;> omega) ?_
          refine Go_ist6 dX4_flood_56 rfl ?_
          refine Go_ald0 dX4_flood_58 ?_
          refine Go_ald1 dX4_flood_59 ?_
          refine Go_ild6 dX4_flood_60 ?_
          refine Go_cV2 (d' := 2) (bc' := 0) (bs' := 0) rfl dX4_flood_62 mvX4_isUnseen rfl lkX4_35 (by first | assumption | rfl) rfl trivial (by decide) (by decide) (by decide) (Nat.le_of_ble_eq_true rfl) ?_
          refine e_X4_isUnseen hb.2.1 hl5 b (fun z0 => by have := h54v _ z0 b.2; constructor <;> omega) ?_
          refine Go_ifb_eq (tgt := 96) dX4_flood_65 (by decide)  (fun h65 => ?_) (fun h65 => by exact absurd h65 q2)
          refine Go_inc5 dX4_flood_96 rfl ?_
          refine Go_goto (tgt := 38) dX4_flood_99 (by decide) ?_
          refine Go_forget (by repeat' (first | exact Or.inl rfl | exact Or.inr rfl | exact Or.inr (lcg (by omega)) | exact trivial | constructor)) (kn2 fl _ ⟨g2, ?_, il⟩)
          intro i' e' b' c1 c2 c3 c4 c5
          by_cases c7 : i' = i ∧ e' = e
          · rw [c7.1, c7.2] at c4
            have e4 := g2.2.2.2.1 b' (by omega)
            by_cases c8 : b' ∈ fl
            · exact c8
            · rw [if_neg c8] at e4
              have tb : (nbI (fl.getD i 0) e).toNat = b' := by omega
              exfalso
              refine q2 ⟨by omega, by rw [tb]; exact c5, ?_⟩
              rw [tb, e4]
              have hu := hi_2 g2 (fl.getD i 0) b' (getD_mem il) ⟨e, he, c4⟩ c5
              exact hu
          · exact sn2 i' e' b' (by omega) c2 c3 c4 c5
      · obtain ⟨g2, sn2, il⟩ := hP2
        refine Go_ild5 dX4_flood_38 ?_
        refine Go_iconst dX4_flood_40 ?_
        refine Go_icmp_ge (tgt := 102) dX4_flood_41 (by decide) (by constructor <;> omega) (by constructor <;> omega) (fun h41 => ?_) (fun h41 => by omega)
        refine Go_inc4 dX4_flood_102 rfl ?_
        refine Go_goto (tgt := 22) dX4_flood_105 (by decide) ?_
        refine Go_forget (by repeat' (first | exact Or.inl rfl | exact Or.inr rfl | exact Or.inr (lcg (by omega)) | exact trivial | constructor)) (kn fl _ ⟨g2, ?_⟩)
        intro i' e' b' c1 c2 c3 c4 c5
        exact sn2 i' e' b' (by omega) c2 c3 c4 c5
  · obtain ⟨g, sn⟩ := hP
    have gl := g.len
    refine Go_ild4 dX4_flood_22 ?_
    refine Go_ild3 dX4_flood_24 ?_
    refine Go_icmp_ge (tgt := 108) dX4_flood_25 (by decide) (by constructor <;> omega) (by constructor <;> omega) (fun h25 => ?_) (fun h25 => by omega)
    refine Go_ild3 dX4_flood_108 ?_
    refine Go_ireturn dX4_flood_109 rfl (by first | rfl | decide | simp [narrow]) ?_
    refine k _ fl g (fun t => ⟨fun c => ?_, fun c => (g.2.1 t c).2.2.1⟩)
    refine c (fun t => t ∈ fl) g.2.2.1 (fun a b ha hn hb => ?_)
    obtain ⟨j, hj, e⟩ := mem_getD ha
    obtain ⟨d, hd, e2⟩ := hn
    exact sn j d b (Or.inl (by omega)) hd hj (by rw [e]; exact e2) hb
theorem e_X4_explore (h : BD w ps) (k : ∀ w', RG w' (rgR ps) (rgN ps) (fun _ => false) → frm w w' [53, 54, 55, 56, 57] → K (vi 0) none w') : Ev G yX4_explore cX4_explore 3 mX4_explore none 4 0 0 [vr 53, vr 2] w K X := by
  have hl5 := h.1.2.1
  refine Ev_intro mvX4_explore.1 rfl (fun h => by cases h) (allc1 rfl) (Nat.le_of_ble_eq_true rfl) (Or.inl rfl) ?_
  show Go G cX4_explore mX4_explore none 4 0 0 0 [some (vr 53), some (vr 2), none] [] w K X
  refine Go_ald0 dX4_explore_0 ?_
  refine gf3_0 dX4_explore_1 flX4_9 ?_
  refine Go_iconst dX4_explore_4 ?_
  refine Go_cSv2 (d' := 0) (bc' := 0) (bs' := 0) rfl dX4_explore_5 msJ7_fill_53178 rfl lkX4_25 (by decide) (by decide) (by decide) (Nat.le_of_ble_eq_true rfl) ?_
  refine e_J7_fill_53178 (n := 100) rfl (by decide) (fun w1 f1 g1 => ?_)
  refine Go_ald0 dX4_explore_8 ?_
  refine Go_iconst dX4_explore_9 ?_
  refine pf3_4 dX4_explore_10 flX4_31 (by first | assumption | rfl) ?_
  have r0 : RG (up w1 53 4 0) (rgS ps 0).1 (rgS ps 0).2 (fun _ => false) := ⟨fun t ht => by rw [up_a (by decide)]; exact g1 t ht, by rw [up_s]; rfl, fun i hi => by have : i < 0 := hi; omega⟩
  refine Go_iconst dX4_explore_13 ?_
  refine Go_ist2 dX4_explore_14 rfl ?_
  refine Go_upTo (n := 100) (L := fun i => [some (vr 53), some (vr 2), some (vi (i : Int))]) (P := fun i v => RG v (rgS ps i).1 (rgS ps i).2 (fun _ => false) ∧ frm w v [53, 54, 55, 56, 57]) (by repeat' (first | exact Or.inl rfl | exact Or.inr rfl | exact Or.inr (lcg (by omega)) | exact trivial | constructor)) (⟨r0, (f1.mono (by decide)).up (by decide)⟩) (fun i v hi hP kn => ?_) (fun v hP => ?_)
  · try dsimp only at hP kn
    try dsimp only
    obtain ⟨⟨g1, g2, g3⟩, f1⟩ := hP
    have hb := h.frm f1 (by simp)
    obtain ⟨hI, hn⟩ := rgS_ok ps i (by omega)
    have e := g1 i hi
    have bi := hI.1 i
    by_cases q : 0 ≤ (i : Int) ∧ ow ps (i : Int).toNat = -1 ∧ v 54 (i : Int).toNat = -1
    · have q1 : ow ps i = -1 := by have := q.2.1; rw [Int.toNat_natCast] at this; exact this
      have q2 : (rgS ps i).1 i = -1 := by have := q.2.2; rw [Int.toNat_natCast] at this; omega
      obtain ⟨a1, a2, a3⟩ := rgS_pos ⟨q1, q2⟩
      refine Go_ild2 dX4_explore_15 ?_
      refine Go_bipush dX4_explore_16 (by decide +kernel) ?_
      refine Go_icmp_ge (tgt := 71) dX4_explore_18 (by decide) (by constructor <;> omega) (by constructor <;> omega) (fun h18 => by omega) (fun h18 => ?_)
      refine Go_ald0 dX4_explore_21 ?_
      refine Go_ald1 dX4_explore_22 ?_
      refine Go_ild2 dX4_explore_23 ?_
      refine Go_cV2 (d' := 2) (bc' := 0) (bs' := 0) rfl dX4_explore_24 mvX4_isUnseen rfl lkX4_35 (by first | assumption | rfl) rfl trivial (by decide) (by decide) (by decide) (Nat.le_of_ble_eq_true rfl) ?_
      refine e_X4_isUnseen hb.2.1 hl5 (by omega) (fun _ => by rw [Int.toNat_natCast, e]; rcases bi with c | c <;> constructor <;> omega) ?_
      refine Go_ifb_eq (tgt := 65) dX4_explore_27 (by decide)  (fun h27 => by exact absurd q h27) (fun h27 => ?_)
      refine Go_ald0 dX4_explore_30 ?_
      refine gf3_1 dX4_explore_31 flX4_15 ?_
      refine Go_ald0 dX4_explore_34 ?_
      refine gf3_4 dX4_explore_35 flX4_31 (by first | assumption | rfl) ?_
      refine Go_ald0 dX4_explore_38 ?_
      refine Go_ald1 dX4_explore_39 ?_
      refine Go_ild2 dX4_explore_40 ?_
      refine Go_cV2 (d' := 3) (bc' := 0) (bs' := 0) rfl dX4_explore_41 mvX4_flood rfl lkX4_39 (by first | assumption | rfl) rfl trivial (by decide) (by decide) (by decide) (Nat.le_of_ble_eq_true rfl) ?_
      refine e_X4_flood (n := (rgS ps i).2) hb hI (by omega) hi q1 q2 g1 g2 (fun w2 fl gf cf => ?_)
      refine Go_iast dX4_explore_44 (by first | assumption | rfl) trivial (by rw [g2]; omega) (by rw [g2]; omega) (by decide) ?_
      refine Go_ald0 dX4_explore_45 ?_
      refine gf3_2 dX4_explore_46 flX4_18 ?_
      refine Go_ald0 dX4_explore_49 ?_
      have e53 : w2 53 4 = ((rgS ps i).2 : Int) := gf.2.2.2.2.2.2
      refine gf3_4 dX4_explore_50 flX4_31 (by first | assumption | rfl) ?_
      refine Go_iconst dX4_explore_53 ?_
      rw [up_a (by decide), e53]
      refine Go_zast dX4_explore_54 (by first | assumption | rfl) trivial (by omega) (by omega) (by decide) (by omega) ?_
      refine Go_ald0 dX4_explore_55 ?_
      refine Go_dup dX4_explore_56 ?_
      refine gf3_4 dX4_explore_57 flX4_31 (by first | assumption | rfl) ?_
      refine Go_iconst dX4_explore_60 ?_
      refine Go_iadd dX4_explore_61 ?_
      refine pf3_4 dX4_explore_62 flX4_31 (by first | assumption | rfl) ?_
      rw [g2, Int.toNat_natCast, up_a (by decide), up_a (by decide), e53]
      have cl := cnt_list (r := (rgS ps i).1) (n := (rgS ps i).2) (fun t => by rcases hI.1 t with c | c <;> omega) fl gf.1 (fun x hx => ⟨(gf.2.1 x hx).1, (gf.2.1 x hx).2.2.2⟩)
      have er : ∀ t, (rgS ps (i + 1)).1 t = if t ∈ fl then ((rgS ps i).2 : Int) else (rgS ps i).1 t := fun t => by
        by_cases c : t ∈ fl
        · rw [if_pos c]; exact a1 t ((cf t).mpr c)
        · rw [if_neg c]; exact a2 t (fun z => c ((cf t).mp z))
      have ec : ∀ j : Int, cntF (rgS ps (i + 1)).1 j = cntF (fun t => if t ∈ fl then ((rgS ps i).2 : Int) else (rgS ps i).1 t) j := fun j => cntF_congr (fun t _ => er t)
      refine Go_inc2 dX4_explore_65 rfl ?_
      refine Go_goto (tgt := 15) dX4_explore_68 (by decide) ?_
      refine Go_forget (by repeat' (first | exact Or.inl rfl | exact Or.inr rfl | exact Or.inr (lcg (by omega)) | exact trivial | constructor)) (kn _ ⟨⟨fun t ht => ?_, ?_, fun j hj => ?_⟩, ?_⟩)
      · rw [up_a (by decide), up_a (by decide), up_a (by decide), gf.2.2.2.1 t ht, er t]
      · rw [up_s, a3]; omega
      · rw [up_a (by decide), up_a (by decide), up_a (b := 56) (by decide), ec]
        rw [a3] at hj
        by_cases c : j = (rgS ps i).2
        · subst c; rw [up_s, up_s, cl.1]; exact ⟨rfl, rfl⟩
        · have := g3 j (by omega)
          rw [up_k c, up_k c, up_a (by decide), gf.2.2.2.2.2.1.at (by decide), gf.2.2.2.2.2.1.at (by decide), cl.2 j c]
          exact this
      · exact ((((f1.trans gf.2.2.2.2.2.1 (by decide)).up (by decide)).up (by decide)).up (by decide))
    · have q9 : ¬ (ow ps i = -1 ∧ (rgS ps i).1 i = -1) := fun z => q ⟨by omega, by rw [Int.toNat_natCast]; exact z.1, by rw [Int.toNat_natCast, e]; exact z.2⟩
      have eS := rgS_neg q9
      refine Go_ild2 dX4_explore_15 ?_
      refine Go_bipush dX4_explore_16 (by decide +kernel) ?_
      refine Go_icmp_ge (tgt := 71) dX4_explore_18 (by decide) (by constructor <;> omega) (by constructor <;> omega) (fun h18 => by omega) (fun h18 => ?_)
      refine Go_ald0 dX4_explore_21 ?_
      refine Go_ald1 dX4_explore_22 ?_
      refine Go_ild2 dX4_explore_23 ?_
      refine Go_cV2 (d' := 2) (bc' := 0) (bs' := 0) rfl dX4_explore_24 mvX4_isUnseen rfl lkX4_35 (by first | assumption | rfl) rfl trivial (by decide) (by decide) (by decide) (Nat.le_of_ble_eq_true rfl) ?_
      refine e_X4_isUnseen hb.2.1 hl5 (by omega) (fun _ => by rw [Int.toNat_natCast, e]; rcases bi with c | c <;> constructor <;> omega) ?_
      refine Go_ifb_eq (tgt := 65) dX4_explore_27 (by decide)  (fun h27 => ?_) (fun h27 => by exact absurd h27 q)
      refine Go_inc2 dX4_explore_65 rfl ?_
      refine Go_goto (tgt := 15) dX4_explore_68 (by decide) ?_
      refine Go_forget (by repeat' (first | exact Or.inl rfl | exact Or.inr rfl | exact Or.inr (lcg (by omega)) | exact trivial | constructor)) (kn _ ⟨?_, f1⟩)
      rw [eS]
      exact ⟨g1, g2, g3⟩
  · try dsimp only at hP
    try dsimp only
    obtain ⟨g, f1⟩ := hP
    refine Go_ild2 dX4_explore_15 ?_
    refine Go_bipush dX4_explore_16 (by decide +kernel) ?_
    refine Go_icmp_ge (tgt := 71) dX4_explore_18 (by decide) (by constructor <;> omega) (by constructor <;> omega) (fun h18 => ?_) (fun h18 => by omega)
    refine Go_return dX4_explore_71 rfl ?_
    exact k _ g f1
variable {r : Nat → Int} {n : Nat} {ch : Nat → Bool}
theorem e_X4_size (h : RG w r n ch) (k : K (vi n) none w) : Ev G yX4_size cX4_size 1 mX4_size none 0 0 0 [vr 53] w K X := by
  refine Ev_intro mvX4_size.1 rfl (fun h => by cases h) (allc1 rfl) (Nat.le_of_ble_eq_true rfl) (Or.inl rfl) ?_
  show Go G cX4_size mX4_size none 0 0 0 0 [some (vr 53)] [] w K X
  refine Go_ald0 dX4_size_0 ?_
  refine gf3_4 dX4_size_1 flX4_31 (by first | assumption | rfl) ?_
  refine Go_ireturn dX4_size_4 rfl (by first | rfl | decide | simp [narrow]) ?_
  exact kI h.2.1 k
theorem e_X4_greatest (h : RG w r n ch) (hn : n ≤ 100) (k : K (vi (mxF (fun i => cntF r i) 0 n)) none w) : Ev G yX4_greatest cX4_greatest 3 mX4_greatest none 1 0 0 [vr 53] w K X := by
  obtain ⟨g1, g2, g3⟩ := h
  refine Ev_intro mvX4_greatest.1 rfl (fun h => by cases h) (allc1 rfl) (Nat.le_of_ble_eq_true rfl) (Or.inl rfl) ?_
  show Go G cX4_greatest mX4_greatest none 1 0 0 0 [some (vr 53), none, none] [] w K X
  refine Go_iconst dX4_greatest_0 ?_
  refine Go_ist1 dX4_greatest_1 rfl ?_
  refine Go_iconst dX4_greatest_2 ?_
  refine Go_ist2 dX4_greatest_3 rfl ?_
  refine Go_upTo (n := n) (L := fun i => [some (vr 53), some (vi (mxF (fun i => cntF r i) 0 i)), some (vi (i : Int))]) (P := fun i v => v = w) (by repeat' (first | exact Or.inl rfl | exact Or.inr rfl | exact Or.inr (lcg (by omega)) | exact trivial | constructor)) (rfl) (fun i v hi hP kn => ?_) (fun v hP => ?_)
  · try dsimp only at hP kn
    try dsimp only
    subst hP
    have e := (g3 i hi).1
    have b := cntF_in r i
    have b2 := mxF_in (f := fun i => cntF r i) (a := 0) (lo := 0) (hi := 100) (n := i) (by omega) (fun j _ => cntF_in r j)
    refine Go_ild2 dX4_greatest_4 ?_
    refine Go_ald0 dX4_greatest_5 ?_
    refine gf3_4 dX4_greatest_6 flX4_31 (by first | assumption | rfl) ?_
    refine Go_icmp_ge (tgt := 29) dX4_greatest_9 (by decide) (by constructor <;> omega) (by constructor <;> omega) (fun h9 => by omega) (fun h9 => ?_)
    refine Go_ild1 dX4_greatest_12 ?_
    refine Go_ald0 dX4_greatest_13 ?_
    refine gf3_1 dX4_greatest_14 flX4_15 ?_
    refine Go_ild2 dX4_greatest_17 ?_
    refine Go_iald dX4_greatest_18 (by first | assumption | rfl) trivial (by omega) (by omega) (by decide) ?_
    rw [Int.toNat_natCast, e]
    refine Go_mmax dX4_greatest_19 lkX4_55 (by decide) (by constructor <;> omega) (by constructor <;> omega) (Nat.le_of_ble_eq_true rfl) ?_
    refine Go_ist1 dX4_greatest_22 rfl ?_
    refine Go_inc2 dX4_greatest_23 rfl ?_
    refine Go_goto (tgt := 4) dX4_greatest_26 (by decide) ?_
    exact Go_forget (by repeat' (first | exact Or.inl rfl | exact Or.inr rfl | exact Or.inr (lcg (by omega)) | exact trivial | constructor)) (kn _ rfl)
  · try dsimp only at hP
    try dsimp only
    subst hP
    refine Go_ild2 dX4_greatest_4 ?_
    refine Go_ald0 dX4_greatest_5 ?_
    refine gf3_4 dX4_greatest_6 flX4_31 (by first | assumption | rfl) ?_
    refine Go_icmp_ge (tgt := 29) dX4_greatest_9 (by decide) (by constructor <;> omega) (by constructor <;> omega) (fun h9 => ?_) (fun h9 => by omega)
    refine Go_ild1 dX4_greatest_29 ?_
    refine Go_ireturn dX4_greatest_30 rfl (by first | rfl | decide | simp [narrow]) ?_
    exact k
theorem e_X4_chooseAround {s : Nat} (h : RG w r n ch) (hr : ∀ t, r t = -1 ∨ (0 ≤ r t ∧ r t < n)) (hn : n ≤ 100) (hs : s < 100) (k : ∀ w', RG w' r n (fun i => ch i || bsd r s i) → frm w w' [56] → K (vi 0) none w') : Ev G yX4_chooseAround cX4_chooseAround 4 mX4_chooseAround none 2 0 0 [vr 53, vi (s : Int)] w K X := by
  have z0 : RG w r n (fun i => ch i || (List.range 0).any (bsdB r s i)) := by simpa using h
  refine Ev_intro mvX4_chooseAround.1 rfl (fun h => by cases h) (allc1 rfl) (Nat.le_of_ble_eq_true rfl) (Or.inl rfl) ?_
  show Go G cX4_chooseAround mX4_chooseAround none 2 0 0 0 [some (vr 53), some (vi (s : Int)), none, none] [] w K X
  refine Go_iconst dX4_chooseAround_0 ?_
  refine Go_ist2 dX4_chooseAround_1 rfl ?_
  refine Go_upTo (n := 4) (L := fun i => [some (vr 53), some (vi (s : Int)), some (vi (i : Int)), none]) (P := fun i v => RG v r n (fun j => or (ch j) ((List.range i).any (bsdB r s j))) ∧ frm w v [56]) (by repeat' (first | exact Or.inl rfl | exact Or.inr rfl | exact Or.inr (lcg (by omega)) | exact trivial | constructor)) (⟨z0, frm.rfl⟩) (fun i v hi hP kn => ?_) (fun v hP => ?_)
  · try dsimp only at hP kn
    try dsimp only
    obtain ⟨⟨g1, g2, g3⟩, f1⟩ := hP
    have b := nbI_in s i
    have e : 0 ≤ nbI s i → v 54 (nbI s i).toNat = r (nbI s i).toNat := fun q => g1 _ (by omega)
    have br := hr (nbI s i).toNat
    have ea : ∀ j, (List.range (i + 1)).any (bsdB r s j) = ((List.range i).any (bsdB r s j) || bsdB r s j i) := fun j => by rw [List.range_succ, List.any_append]; simp
    have no : (¬ (0 ≤ nbI s i) ∨ r (nbI s i).toNat = -1) → ∀ j : Nat, bsdB r s j i = false := fun q j => by unfold bsdB; rw [decide_eq_false_iff_not]; omega
    have fin1 : ∀ j, j < n → (¬ (0 ≤ nbI s i) ∨ r (nbI s i).toNat = -1) → v 55 j = cntF r j ∧ v 56 j = if (ch j || (List.range (i + 1)).any (bsdB r s j)) = true then 1 else 0 := fun j hj q => by
      have g4 := g3 j hj
      dsimp only at g4
      simp only [ea j, no q j, Bool.or_false]
      exact g4
    have fin2 : ∀ j, j < n → 0 ≤ nbI s i → r (nbI s i).toNat ≠ -1 → up v 56 (r (nbI s i).toNat).toNat 1 55 j = cntF r j ∧ up v 56 (r (nbI s i).toNat).toNat 1 56 j = if (ch j || (List.range (i + 1)).any (bsdB r s j)) = true then 1 else 0 := fun j hj q1 q2 => by
      have g4 := g3 j hj
      dsimp only at g4
      simp only [ea j]
      refine ⟨by rw [up_a (by decide)]; exact g4.1, ?_⟩
      by_cases c : j = (r (nbI s i).toNat).toNat
      · have : bsdB r s j i = true := by unfold bsdB; rw [decide_eq_true_eq]; omega
        rw [← c, up_s]; simp [this]
      · have : bsdB r s j i = false := by unfold bsdB; rw [decide_eq_false_iff_not]; omega
        rw [up_k c]; simp only [this, Bool.or_false]; exact g4.2
    refine Go_ild2 dX4_chooseAround_2 ?_
    refine Go_iconst dX4_chooseAround_3 ?_
    refine Go_icmp_ge (tgt := 48) dX4_chooseAround_4 (by decide) (by constructor <;> omega) (by constructor <;> omega) (fun h4 => by omega) (fun h4 => ?_)
    refine Go_ild1 dX4_chooseAround_7 ?_
    refine Go_ild2 dX4_chooseAround_8 ?_
    refine Go_cS2 (d' := 1) (bc' := 0) (bs' := 0) rfl dX4_chooseAround_9 msX2_neighbour rfl lkX4_43 (by decide) (by decide) (by decide) (Nat.le_of_ble_eq_true rfl) ?_
    refine e_X2_neighbour (by omega) (by omega) (by constructor <;> omega) ?_
    refine Go_ist3 dX4_chooseAround_12 rfl ?_
    refine Go_ild3 dX4_chooseAround_13 ?_
    refine Go_cS1 (d' := 0) (bc' := 0) (bs' := 0) rfl dX4_chooseAround_14 msX2_isSite rfl lkX4_60 (by decide) (by decide) (by decide) (Nat.le_of_ble_eq_true rfl) ?_
    refine e_X2_isSite (by constructor <;> omega) ?_
    refine Go_ifb_eq (tgt := 42) dX4_chooseAround_17 (by decide)  (fun h17 => ?_) (fun h17 => ?_)
    · refine Go_inc2 dX4_chooseAround_42 rfl ?_
      refine Go_goto (tgt := 2) dX4_chooseAround_45 (by decide) ?_
      refine Go_forget (by repeat' (first | exact Or.inl rfl | exact Or.inr rfl | exact Or.inr (lcg (by omega)) | exact trivial | constructor)) (kn _ ⟨⟨?_, ?_, fun j hj => ?_⟩, ?_⟩)
      · first | exact g1 | (intro t ht; rw [up_a (by decide)]; exact g1 t ht)
      · first | exact g2 | (rw [up_a (by decide)]; exact g2)
      · first | exact fin1 j hj (Or.inl (by omega)) | exact fin1 j hj (Or.inr (by omega)) | exact fin2 j hj (by omega) (by omega)
      · first | exact f1 | exact f1.up (by simp)
    · refine Go_ald0 dX4_chooseAround_20 ?_
      refine gf3_0 dX4_chooseAround_21 flX4_9 ?_
      refine Go_ild3 dX4_chooseAround_24 ?_
      refine Go_iald dX4_chooseAround_25 (by first | assumption | rfl) trivial (by omega) (by omega) (by decide) ?_
      refine Go_iconst dX4_chooseAround_26 ?_
      rw [e h17.1]
      refine Go_icmp_eq (tgt := 42) dX4_chooseAround_27 (by decide) (by constructor <;> omega) (by constructor <;> omega) (fun h27 => ?_) (fun h27 => ?_)
      · refine Go_inc2 dX4_chooseAround_42 rfl ?_
        refine Go_goto (tgt := 2) dX4_chooseAround_45 (by decide) ?_
        refine Go_forget (by repeat' (first | exact Or.inl rfl | exact Or.inr rfl | exact Or.inr (lcg (by omega)) | exact trivial | constructor)) (kn _ ⟨⟨?_, ?_, fun j hj => ?_⟩, ?_⟩)
        · first | exact g1 | (intro t ht; rw [up_a (by decide)]; exact g1 t ht)
        · first | exact g2 | (rw [up_a (by decide)]; exact g2)
        · first | exact fin1 j hj (Or.inl (by omega)) | exact fin1 j hj (Or.inr (by omega)) | exact fin2 j hj (by omega) (by omega)
        · first | exact f1 | exact f1.up (by simp)
      · refine Go_ald0 dX4_chooseAround_30 ?_
        refine gf3_2 dX4_chooseAround_31 flX4_18 ?_
        refine Go_ald0 dX4_chooseAround_34 ?_
        refine gf3_0 dX4_chooseAround_35 flX4_9 ?_
        refine Go_ild3 dX4_chooseAround_38 ?_
        refine Go_iald dX4_chooseAround_39 (by first | assumption | rfl) trivial (by omega) (by omega) (by decide) ?_
        refine Go_iconst dX4_chooseAround_40 ?_
        rw [e h17.1]
        refine Go_zast dX4_chooseAround_41 (by first | assumption | rfl) trivial (by omega) (by omega) (by decide) (by omega) ?_
        refine Go_inc2 dX4_chooseAround_42 rfl ?_
        refine Go_goto (tgt := 2) dX4_chooseAround_45 (by decide) ?_
        refine Go_forget (by repeat' (first | exact Or.inl rfl | exact Or.inr rfl | exact Or.inr (lcg (by omega)) | exact trivial | constructor)) (kn _ ⟨⟨?_, ?_, fun j hj => ?_⟩, ?_⟩)
        · first | exact g1 | (intro t ht; rw [up_a (by decide)]; exact g1 t ht)
        · first | exact g2 | (rw [up_a (by decide)]; exact g2)
        · first | exact fin1 j hj (Or.inl (by omega)) | exact fin1 j hj (Or.inr (by omega)) | exact fin2 j hj (by omega) (by omega)
        · first | exact f1 | exact f1.up (by simp)
  · try dsimp only at hP
    try dsimp only
    obtain ⟨g, f1⟩ := hP
    refine Go_ild2 dX4_chooseAround_2 ?_
    refine Go_iconst dX4_chooseAround_3 ?_
    refine Go_icmp_ge (tgt := 48) dX4_chooseAround_4 (by decide) (by constructor <;> omega) (by constructor <;> omega) (fun h4 => ?_) (fun h4 => by omega)
    refine Go_return dX4_chooseAround_48 rfl ?_
    exact k _ g f1
theorem e_X4_chosenRegions (h : RG w r n ch) (hn : n ≤ 100) (k : K (vi (smF (fun i => if ch i = true then 1 else 0) n)) none w) : Ev G yX4_chosenRegions cX4_chosenRegions 3 mX4_chosenRegions none 0 0 0 [vr 53] w K X := by
  obtain ⟨g1, g2, g3⟩ := h
  refine Ev_intro mvX4_chosenRegions.1 rfl (fun h => by cases h) (allc1 rfl) (Nat.le_of_ble_eq_true rfl) (Or.inl rfl) ?_
  show Go G cX4_chosenRegions mX4_chosenRegions none 0 0 0 0 [some (vr 53), none, none] [] w K X
  refine Go_iconst dX4_chosenRegions_0 ?_
  refine Go_ist1 dX4_chosenRegions_1 rfl ?_
  refine Go_iconst dX4_chosenRegions_2 ?_
  refine Go_ist2 dX4_chosenRegions_3 rfl ?_
  refine Go_upTo (n := n) (L := fun i => [some (vr 53), some (vi (smF (fun i => if ch i = true then 1 else 0) i)), some (vi (i : Int))]) (P := fun i v => v = w) (by repeat' (first | exact Or.inl rfl | exact Or.inr rfl | exact Or.inr (lcg (by omega)) | exact trivial | constructor)) (rfl) (fun i v hi hP kn => ?_) (fun v hP => ?_)
  · try dsimp only at hP kn
    try dsimp only
    subst hP
    have e := (g3 i hi).2
    have e2 : smF (fun i => if ch i = true then (1 : Int) else 0) (i + 1) = smF (fun i => if ch i = true then (1 : Int) else 0) i + (if ch i = true then 1 else 0) := rfl
    refine Go_ild2 dX4_chosenRegions_4 ?_
    refine Go_ald0 dX4_chosenRegions_5 ?_
    refine gf3_4 dX4_chosenRegions_6 flX4_31 (by first | assumption | rfl) ?_
    refine Go_icmp_ge (tgt := 30) dX4_chosenRegions_9 (by decide) (by constructor <;> omega) (by constructor <;> omega) (fun h9 => by omega) (fun h9 => ?_)
    refine Go_ald0 dX4_chosenRegions_12 ?_
    refine gf3_2 dX4_chosenRegions_13 flX4_18 ?_
    refine Go_ild2 dX4_chosenRegions_16 ?_
    refine Go_zald dX4_chosenRegions_17 (by first | assumption | rfl) trivial (by omega) (by omega) (by decide) ?_
    rw [Int.toNat_natCast, e]
    refine Go_ifb_eq (tgt := 24) dX4_chosenRegions_18 (by decide)  (fun h18 => ?_) (fun h18 => ?_)
    · refine Go_inc2 dX4_chosenRegions_24 rfl ?_
      refine Go_goto (tgt := 4) dX4_chosenRegions_27 (by decide) ?_
      refine Go_forget (ls' := _) ?_ (kn _ rfl)
      first | rw [if_pos h18] at e2 | rw [if_neg h18, Int.add_zero] at e2
      rw [e2]
      exact (by repeat' (first | exact Or.inl rfl | exact Or.inr rfl | exact Or.inr (lcg (by omega)) | exact trivial | constructor))
    · refine Go_inc1 dX4_chosenRegions_21 rfl ?_
      refine Go_inc2 dX4_chosenRegions_24 rfl ?_
      refine Go_goto (tgt := 4) dX4_chosenRegions_27 (by decide) ?_
      refine Go_forget (ls' := _) ?_ (kn _ rfl)
      first | rw [if_pos h18] at e2 | rw [if_neg h18, Int.add_zero] at e2
      rw [e2]
      exact (by repeat' (first | exact Or.inl rfl | exact Or.inr rfl | exact Or.inr (lcg (by omega)) | exact trivial | constructor))
  · try dsimp only at hP
    try dsimp only
    subst hP
    refine Go_ild2 dX4_chosenRegions_4 ?_
    refine Go_ald0 dX4_chosenRegions_5 ?_
    refine gf3_4 dX4_chosenRegions_6 flX4_31 (by first | assumption | rfl) ?_
    refine Go_icmp_ge (tgt := 30) dX4_chosenRegions_9 (by decide) (by constructor <;> omega) (by constructor <;> omega) (fun h9 => ?_) (fun h9 => by omega)
    refine Go_ild1 dX4_chosenRegions_30 ?_
    refine Go_ireturn dX4_chosenRegions_31 rfl (by first | rfl | decide | simp [narrow]) ?_
    exact k
theorem e_X4_chosenSites (h : RG w r n ch) (hn : n ≤ 100) (k : K (vi (smF (fun i => if ch i = true then cntF r i else 0) n)) none w) : Ev G yX4_chosenSites cX4_chosenSites 3 mX4_chosenSites none 0 0 0 [vr 53] w K X := by
  obtain ⟨g1, g2, g3⟩ := h
  refine Ev_intro mvX4_chosenSites.1 rfl (fun h => by cases h) (allc1 rfl) (Nat.le_of_ble_eq_true rfl) (Or.inl rfl) ?_
  show Go G cX4_chosenSites mX4_chosenSites none 0 0 0 0 [some (vr 53), none, none] [] w K X
  refine Go_iconst dX4_chosenSites_0 ?_
  refine Go_ist1 dX4_chosenSites_1 rfl ?_
  refine Go_iconst dX4_chosenSites_2 ?_
  refine Go_ist2 dX4_chosenSites_3 rfl ?_
  refine Go_upTo (n := n) (L := fun i => [some (vr 53), some (vi (smF (fun i => if ch i = true then cntF r i else 0) i)), some (vi (i : Int))]) (P := fun i v => v = w) (by repeat' (first | exact Or.inl rfl | exact Or.inr rfl | exact Or.inr (lcg (by omega)) | exact trivial | constructor)) (rfl) (fun i v hi hP kn => ?_) (fun v hP => ?_)
  · try dsimp only at hP kn
    try dsimp only
    subst hP
    have e := (g3 i hi).2
    have e1 := (g3 i hi).1
    have e2 : smF (fun i => if ch i = true then cntF r i else (0 : Int)) (i + 1) = smF (fun i => if ch i = true then cntF r i else (0 : Int)) i + (if ch i = true then cntF r i else 0) := rfl
    refine Go_ild2 dX4_chosenSites_4 ?_
    refine Go_ald0 dX4_chosenSites_5 ?_
    refine gf3_4 dX4_chosenSites_6 flX4_31 (by first | assumption | rfl) ?_
    refine Go_icmp_ge (tgt := 36) dX4_chosenSites_9 (by decide) (by constructor <;> omega) (by constructor <;> omega) (fun h9 => by omega) (fun h9 => ?_)
    refine Go_ald0 dX4_chosenSites_12 ?_
    refine gf3_2 dX4_chosenSites_13 flX4_18 ?_
    refine Go_ild2 dX4_chosenSites_16 ?_
    refine Go_zald dX4_chosenSites_17 (by first | assumption | rfl) trivial (by omega) (by omega) (by decide) ?_
    rw [Int.toNat_natCast, e]
    refine Go_ifb_eq (tgt := 30) dX4_chosenSites_18 (by decide)  (fun h18 => ?_) (fun h18 => ?_)
    · refine Go_inc2 dX4_chosenSites_30 rfl ?_
      refine Go_goto (tgt := 4) dX4_chosenSites_33 (by decide) ?_
      refine Go_forget (ls' := _) ?_ (kn _ rfl)
      first | rw [if_pos h18] at e2 | rw [if_neg h18, Int.add_zero] at e2
      rw [e2]
      exact (by repeat' (first | exact Or.inl rfl | exact Or.inr rfl | exact Or.inr (lcg (by omega)) | exact trivial | constructor))
    · refine Go_ild1 dX4_chosenSites_21 ?_
      refine Go_ald0 dX4_chosenSites_22 ?_
      refine gf3_1 dX4_chosenSites_23 flX4_15 ?_
      refine Go_ild2 dX4_chosenSites_26 ?_
      refine Go_iald dX4_chosenSites_27 (by first | assumption | rfl) trivial (by omega) (by omega) (by decide) ?_
      rw [Int.toNat_natCast, e1]
      refine Go_iadd dX4_chosenSites_28 ?_
      refine Go_ist1 dX4_chosenSites_29 rfl ?_
      refine Go_inc2 dX4_chosenSites_30 rfl ?_
      refine Go_goto (tgt := 4) dX4_chosenSites_33 (by decide) ?_
      refine Go_forget (ls' := _) ?_ (kn _ rfl)
      first | rw [if_pos h18] at e2 | rw [if_neg h18, Int.add_zero] at e2
      rw [e2]
      exact (by repeat' (first | exact Or.inl rfl | exact Or.inr rfl | exact Or.inr (lcg (by omega)) | exact trivial | constructor))
  · try dsimp only at hP
    try dsimp only
    subst hP
    refine Go_ild2 dX4_chosenSites_4 ?_
    refine Go_ald0 dX4_chosenSites_5 ?_
    refine gf3_4 dX4_chosenSites_6 flX4_31 (by first | assumption | rfl) ?_
    refine Go_icmp_ge (tgt := 36) dX4_chosenSites_9 (by decide) (by constructor <;> omega) (by constructor <;> omega) (fun h9 => ?_) (fun h9 => by omega)
    refine Go_ild1 dX4_chosenSites_36 ?_
    refine Go_ireturn dX4_chosenSites_37 rfl (by first | rfl | decide | simp [narrow]) ?_
    exact k
end Regions
