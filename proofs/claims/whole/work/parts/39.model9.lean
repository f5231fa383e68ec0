/-- how many sites are free -/
theorem occ_sum : ∀ (ps : List (List Nat)) (k : Nat), (∀ l ∈ ps, l.Nodup ∧ ∀ x ∈ l, x < 100) → ps.Pairwise (fun a b => ∀ x ∈ a, x ∉ b) → smF (fun t => if owA ps k t = -1 then 1 else 0) 100 = 100 - (tot ps : Int)
  | [], k, _, _ => by
    have e : (fun t => if owA [] k t = -1 then (1 : Int) else 0) = fun _ => 1 := by
      funext t
      rfl
    rw [e]
    decide +kernel
  | l :: r, k, h, hp => by
    have ih := occ_sum r (k + 1) (fun m hm => h m (List.mem_cons_of_mem _ hm)) (List.pairwise_cons.mp hp).2
    have hl := h l List.mem_cons_self
    have c := (cnt_list (r := fun _ => -1) (n := 0) (fun t => by decide) l hl.1 (fun x hx => ⟨hl.2 x hx, rfl⟩)).1
    unfold cntF at c
    have e : smF (fun t => if owA r (k + 1) t = -1 then 1 else 0) 100 = smF (fun t => if owA (l :: r) k t = -1 then 1 else 0) 100 + smF (fun t => if (if t ∈ l then ((0 : Nat) : Int) else -1) = ((0 : Nat) : Int) then 1 else 0) 100 := by
      rw [← smF_add]
      refine smF_congr (fun t _ => ?_)
      rw [owA]
      by_cases q : t ∈ l
      · rw [if_pos q, if_pos q, owA_none r (k + 1) t (fun m hm hx => (List.pairwise_cons.mp hp).1 m hm t q hx), if_pos rfl, if_neg (by omega), if_pos rfl]
        rfl
      · rw [if_neg q, if_neg q, if_neg (c := (-1 : Int) = ((0 : Nat) : Int)) (by decide)]
        omega
    rw [ih, c] at e
    show _ = 100 - ((l.length + tot r : Nat) : Int)
    omega
theorem occ_ok {ps : List (List Nat)} (h : OKp ps) : smF (fun t => if ow ps t = -1 then 1 else 0) 100 = 100 - (tot ps : Int) := by
  refine occ_sum ps 0 (fun l hl => ?_) ?_
  · obtain ⟨p, hp, e⟩ := mem_pth hl
    rw [← e]
    exact ⟨(h.nd p).1, h.lt p⟩
  · rw [List.pairwise_iff_getElem]
    intro i j hi hj hij x hx
    have := (h.nd i).2 j (by omega) x (by rw [pth_lt hi]; exact hx)
    rw [pth_lt hj] at this
    exact this
section While
variable {G : Gm} {cc : ByteArray} {mt : Mt} {nx : Option Nat} {d bc bs pc : Nat} {ls : List (Option Vl)} {st : List Vl} {w : Wd} {K : Kt} {X : Xt}
/-- a loop with a measure that falls -/
theorem Go_while {σ : Type} {M : σ → Nat} {L : σ → List (Option Vl)} {P : σ → Wd → Prop} (x0 : σ) (hl : lsub (L x0) ls) (hp : P x0 w)
    (hs : ∀ x v, P x v → (∀ x' v', M x' < M x → P x' v' → Go G cc mt nx d bc bs pc (L x') st v' K X) → Go G cc mt nx d bc bs pc (L x) st v K X) : Go G cc mt nx d bc bs pc ls st w K X := by
  have key : ∀ (m : Nat) (x : σ) (v : Wd), M x < m → P x v → Go G cc mt nx d bc bs pc (L x) st v K X := by
    intro m
    induction m with
    | zero => intro x v h; omega
    | succ m ih => intro x v h hv; exact hs x v hv (fun x' v' h' hv' => ih x' v' (by omega) hv')
  exact Go_forget hl (key (M x0 + 1) x0 w (by omega) hp)
end While
section Model9
variable {G : Gm} {w : Wd} {K : Kt} {X : Xt} {s : Sta} {sv : List Sta} {g : Nat → Option Sta} {tx : List Nat} {z z1 z2 z3 : Int} {p o q k0 n : Nat} {l : List Nat} {ps : List (List Nat)} {r : Nat → Int}
theorem bsd_succ (r : Nat → Int) (x i0 i : Nat) : (List.range (i + 1)).any (bsdB r x i0) = ((List.range i).any (bsdB r x i0) || bsdB r x i0 i) := by
  rw [List.range_succ, List.any_append]; simp
theorem e_X12_isBeside {x i0 : Nat} (hx : x < 100) (hr : ∀ t, t < 100 → w 76 t = r t ∧ -1 ≤ r t ∧ r t < 100) (hi0 : i0 < 100) (k : K (vi (if bsd r x i0 = true then 1 else 0)) none w) : Ev G yX12_isBeside cX12_isBeside 6 mX12_isBeside none 2 0 0 [vr 68, vi (x : Int), vi (i0 : Int)] w K X := by
  unfold bsd at k
  refine Ev_intro mvX12_isBeside.1 rfl (fun h => by cases h) (allc1 rfl) (Nat.le_of_ble_eq_true rfl) (Or.inl rfl) ?_
  show Go G cX12_isBeside mX12_isBeside none 2 0 0 0 [some (vr 68), some (vi (x : Int)), some (vi (i0 : Int)), none, none, none] [] w K X
  refine Go_iconst dX12_isBeside_0 ?_
  refine Go_ist3 dX12_isBeside_1 rfl ?_
  refine Go_iconst dX12_isBeside_2 ?_
  refine Go_ist4 dX12_isBeside_3 rfl ?_
  refine Go_upTo (n := 4) (L := fun i => [some (vr 68), some (vi (x : Int)), some (vi (i0 : Int)), some (vi (if (List.range i).any (bsdB r x i0) = true then 1 else 0)), some (vi (i : Int)), none]) (P := fun i v => v = w) (by repeat' (first | exact Or.inl rfl | exact Or.inr rfl | exact Or.inr (lcg (by omega)) | exact trivial | constructor)) (rfl) (fun i v hi hP kn => ?_) (fun v hP => ?_)
  · try dsimp only at hP kn
    try dsimp only
    subst hP
    have b := nbI_in x i
    have e := bsd_succ r x i0 i
    have ee : bsdB r x i0 i = true ↔ (0 ≤ nbI x i ∧ r (nbI x i).toNat = i0) := by unfold bsdB; rw [decide_eq_true_eq]
    have er : 0 ≤ nbI x i → v 76 (nbI x i).toNat = r (nbI x i).toNat := fun q => (hr _ (by omega)).1
    have br : 0 ≤ nbI x i → -1 ≤ r (nbI x i).toNat ∧ r (nbI x i).toNat < 100 := fun q => (hr _ (by omega)).2
    refine Go_ild4 dX12_isBeside_5 ?_
    refine Go_iconst dX12_isBeside_7 ?_
    refine Go_icmp_ge (tgt := 52) dX12_isBeside_8 (by decide) (by constructor <;> omega) (by constructor <;> omega) (fun h8 => by omega) (fun h8 => ?_)
    refine Go_ild1 dX12_isBeside_11 ?_
    refine Go_ild4 dX12_isBeside_12 ?_
    refine Go_cS2 (d' := 1) (bc' := 0) (bs' := 0) rfl dX12_isBeside_14 msX12_next rfl lkX12_84 (by decide) (by decide) (by decide) (Nat.le_of_ble_eq_true rfl) ?_
    refine e_X12_next (by omega) (by omega) hi ?_
    refine Go_ist5 dX12_isBeside_17 rfl ?_
    refine Go_ild3 dX12_isBeside_19 ?_
    refine Go_ifb_ne (tgt := 40) dX12_isBeside_20 (by decide)  (fun h20 => ?_) (fun h20 => ?_)
    · refine Go_iconst dX12_isBeside_40 ?_
      refine Go_goto (tgt := 45) dX12_isBeside_41 (by decide) ?_
      refine Go_ist3 dX12_isBeside_45 rfl ?_
      refine Go_inc4 dX12_isBeside_46 rfl ?_
      refine Go_goto (tgt := 5) dX12_isBeside_49 (by decide) ?_
      refine Go_forget (ls' := _) ?_ (kn _ rfl)
      first | (rw [if_pos (show (List.range (i + 1)).any (bsdB r x i0) = true by rw [e, h20]; rfl)]; exact (by repeat' (first | exact Or.inl rfl | exact Or.inr rfl | exact Or.inr (lcg (by omega)) | exact trivial | constructor))) | (rw [if_pos (show (List.range (i + 1)).any (bsdB r x i0) = true by rw [e, ee.mpr ⟨by omega, by omega⟩, Bool.or_true])]; exact (by repeat' (first | exact Or.inl rfl | exact Or.inr rfl | exact Or.inr (lcg (by omega)) | exact trivial | constructor))) | (rw [if_neg (show ¬ (List.range (i + 1)).any (bsdB r x i0) = true by rw [e, Bool.or_eq_true, ee]; exact fun z => z.elim h20 (fun z => by omega))]; exact (by repeat' (first | exact Or.inl rfl | exact Or.inr rfl | exact Or.inr (lcg (by omega)) | exact trivial | constructor)))
    · refine Go_ild5 dX12_isBeside_23 ?_
      refine Go_iconst dX12_isBeside_25 ?_
      refine Go_icmp_eq (tgt := 44) dX12_isBeside_26 (by decide) (by constructor <;> omega) (by constructor <;> omega) (fun h26 => ?_) (fun h26 => ?_)
      · refine Go_iconst dX12_isBeside_44 ?_
        refine Go_ist3 dX12_isBeside_45 rfl ?_
        refine Go_inc4 dX12_isBeside_46 rfl ?_
        refine Go_goto (tgt := 5) dX12_isBeside_49 (by decide) ?_
        refine Go_forget (ls' := _) ?_ (kn _ rfl)
        first | (rw [if_pos (show (List.range (i + 1)).any (bsdB r x i0) = true by rw [e, h20]; rfl)]; exact (by repeat' (first | exact Or.inl rfl | exact Or.inr rfl | exact Or.inr (lcg (by omega)) | exact trivial | constructor))) | (rw [if_pos (show (List.range (i + 1)).any (bsdB r x i0) = true by rw [e, ee.mpr ⟨by omega, by omega⟩, Bool.or_true])]; exact (by repeat' (first | exact Or.inl rfl | exact Or.inr rfl | exact Or.inr (lcg (by omega)) | exact trivial | constructor))) | (rw [if_neg (show ¬ (List.range (i + 1)).any (bsdB r x i0) = true by rw [e, Bool.or_eq_true, ee]; exact fun z => z.elim h20 (fun z => by omega))]; exact (by repeat' (first | exact Or.inl rfl | exact Or.inr rfl | exact Or.inr (lcg (by omega)) | exact trivial | constructor)))
      · refine Go_ald0 dX12_isBeside_29 ?_
        refine gf11_10 dX12_isBeside_30 flX12_31 ?_
        refine Go_ild5 dX12_isBeside_33 ?_
        refine Go_iald dX12_isBeside_35 (by first | assumption | rfl) trivial (by omega) (by omega) (by decide) ?_
        rw [er (by omega)]
        have br2 := br (by omega)
        refine Go_ild2 dX12_isBeside_36 ?_
        refine Go_icmp_ne (tgt := 44) dX12_isBeside_37 (by decide) (by constructor <;> omega) (by constructor <;> omega) (fun h37 => ?_) (fun h37 => ?_)
        · refine Go_iconst dX12_isBeside_44 ?_
          refine Go_ist3 dX12_isBeside_45 rfl ?_
          refine Go_inc4 dX12_isBeside_46 rfl ?_
          refine Go_goto (tgt := 5) dX12_isBeside_49 (by decide) ?_
          refine Go_forget (ls' := _) ?_ (kn _ rfl)
          first | (rw [if_pos (show (List.range (i + 1)).any (bsdB r x i0) = true by rw [e, h20]; rfl)]; exact (by repeat' (first | exact Or.inl rfl | exact Or.inr rfl | exact Or.inr (lcg (by omega)) | exact trivial | constructor))) | (rw [if_pos (show (List.range (i + 1)).any (bsdB r x i0) = true by rw [e, ee.mpr ⟨by omega, by omega⟩, Bool.or_true])]; exact (by repeat' (first | exact Or.inl rfl | exact Or.inr rfl | exact Or.inr (lcg (by omega)) | exact trivial | constructor))) | (rw [if_neg (show ¬ (List.range (i + 1)).any (bsdB r x i0) = true by rw [e, Bool.or_eq_true, ee]; exact fun z => z.elim h20 (fun z => by omega))]; exact (by repeat' (first | exact Or.inl rfl | exact Or.inr rfl | exact Or.inr (lcg (by omega)) | exact trivial | constructor)))
        · refine Go_iconst dX12_isBeside_40 ?_
          refine Go_goto (tgt := 45) dX12_isBeside_41 (by decide) ?_
          refine Go_ist3 dX12_isBeside_45 rfl ?_
          refine Go_inc4 dX12_isBeside_46 rfl ?_
          refine Go_goto (tgt := 5) dX12_isBeside_49 (by decide) ?_
          refine Go_forget (ls' := _) ?_ (kn _ rfl)
          first | (rw [if_pos (show (List.range (i + 1)).any (bsdB r x i0) = true by rw [e, h20]; rfl)]; exact (by repeat' (first | exact Or.inl rfl | exact Or.inr rfl | exact Or.inr (lcg (by omega)) | exact trivial | constructor))) | (rw [if_pos (show (List.range (i + 1)).any (bsdB r x i0) = true by rw [e, ee.mpr ⟨by omega, by omega⟩, Bool.or_true])]; exact (by repeat' (first | exact Or.inl rfl | exact Or.inr rfl | exact Or.inr (lcg (by omega)) | exact trivial | constructor))) | (rw [if_neg (show ¬ (List.range (i + 1)).any (bsdB r x i0) = true by rw [e, Bool.or_eq_true, ee]; exact fun z => z.elim h20 (fun z => by omega))]; exact (by repeat' (first | exact Or.inl rfl | exact Or.inr rfl | exact Or.inr (lcg (by omega)) | exact trivial | constructor)))
  · try dsimp only at hP
    try dsimp only
    subst hP
    refine Go_ild4 dX12_isBeside_5 ?_
    refine Go_iconst dX12_isBeside_7 ?_
    refine Go_icmp_ge (tgt := 52) dX12_isBeside_8 (by decide) (by constructor <;> omega) (by constructor <;> omega) (fun h8 => ?_) (fun h8 => by omega)
    refine Go_ild3 dX12_isBeside_52 ?_
    refine Go_ireturn dX12_isBeside_53 rfl (by first | rfl | decide | exact nar_b | simp [narrow]) ?_
    exact k
/-- what a growing region has so far -/
def GRW (w v : Wd) (ps : List (List Nat)) (r : Nat → Int) (n s : Nat) (fl : List Nat) : Prop := fl.Nodup ∧ (∀ x ∈ fl, x < 100 ∧ ow ps x = -1 ∧ cn ps s x ∧ r x = -1) ∧ s ∈ fl ∧ (∀ t, t < 100 → v 76 t = if t ∈ fl then (n : Int) else r t) ∧ v 77 n = (fl.length : Int) ∧ (∀ i, i ≠ n → v 77 i = w 77 i) ∧ frm w v [76, 77]
theorem GRW.len {w v : Wd} {s : Nat} {fl : List Nat} (h : GRW w v ps r n s fl) : fl.length ≤ 100 := nodup_le 100 fl h.1 (fun x hx => (h.2.1 x hx).1)
theorem GRW.push {w v : Wd} {s a b : Nat} {fl : List Nat} (h : GRW w v ps r n s fl) (ha : a ∈ fl) (hn : nbr a b) (ho : ow ps b = -1) (hv : v 76 b = -1) : GRW w (up (up v 76 b n) 77 n (fl.length + 1 : Nat)) ps r n s (fl ++ [b]) := by
  obtain ⟨h1, h2, h3, h4, h5, h6, h7⟩ := h
  have hb := nbr_lt hn
  have e := h4 b hb
  have hbl : b ∉ fl := fun q => by rw [if_pos q] at e; omega
  rw [if_neg hbl] at e
  refine ⟨?_, fun x hx => ?_, List.mem_append_left _ h3, fun t ht => ?_, ?_, fun i hi => ?_, (h7.up (by simp)).up (by simp)⟩
  · rw [List.nodup_append]
    exact ⟨h1, by simp, fun x hx y hy ex => by rw [List.mem_singleton] at hy; rw [hy] at ex; rw [ex] at hx; exact hbl hx⟩
  · rcases List.mem_append.mp hx with q | q
    · exact h2 x q
    · rw [List.mem_singleton] at q
      subst q
      exact ⟨hb, ho, cn_step (h2 a ha).2.2.1 hn ho, by rw [← e]; exact hv⟩
  · rw [up_a (by decide)]
    by_cases q : t = b
    · subst q; rw [up_s, if_pos (by simp)]
    · rw [up_k q, h4 t ht]
      by_cases c : t ∈ fl
      · rw [if_pos c, if_pos (List.mem_append_left _ c)]
      · rw [if_neg c, if_neg (fun z => by rcases List.mem_append.mp z with z | z; exact c z; rw [List.mem_singleton] at z; exact q z)]
  · rw [up_s, List.length_append]; rfl
  · rw [up_k hi, up_a (by decide)]; exact h6 i hi
/-- what is beside the region is in it -/
def CLO (ps : List (List Nat)) (r' : Nat → Int) (n : Nat) (k : Nat) : Prop := ∀ t, t < k → ow ps t = -1 → r' t = -1 → bsd r' t n = false
theorem bsd_of {r : Nat → Int} {x n : Nat} (h : bsd r x n = true) : ∃ d b : Nat, d < 4 ∧ nbI x d = (b : Int) ∧ r b = n := by
  unfold bsd at h
  obtain ⟨d, hd, e⟩ := List.any_eq_true.mp h
  rw [bsdB, decide_eq_true_eq] at e
  exact ⟨d, (nbI x d).toNat, List.mem_range.mp hd, by omega, e.2⟩
theorem bsd_mk {r : Nat → Int} {x n d b : Nat} (hd : d < 4) (e : nbI x d = (b : Int)) (h : r b = n) : bsd r x n = true := by
  unfold bsd
  refine List.any_eq_true.mpr ⟨d, List.mem_range.mpr hd, ?_⟩
  rw [bsdB, decide_eq_true_eq, e]
  exact ⟨by omega, by rw [Int.toNat_natCast]; exact h⟩
theorem e_X12_growRegion {s : Nat} (h : MK (w 74) (w 75) ps) (h5 : ps.length ≤ 5) (hI : RGI ps r n) (hn : n < 100) (hg : GRW w w ps r n s [s])
    (k : ∀ w' fl, GRW w w' ps r n s fl → (∀ t, cn ps s t ↔ t ∈ fl) → K (vi 0) none w') : Ev G yX12_growRegion cX12_growRegion 5 mX12_growRegion none 3 0 0 [vr 68, vi (n : Int)] w K X := by
  have rn : ∀ t, r t ≠ (n : Int) := fun t => by rcases hI.1 t with c | c <;> omega
  have fin : ∀ v fl, GRW w v ps r n s fl → CLO ps (v 76) n 100 → ∀ t, cn ps s t ↔ t ∈ fl := fun v fl g cl t => by
    refine ⟨fun c => ?_, fun c => (g.2.1 t c).2.2.1⟩
    refine c (fun t => t ∈ fl) g.2.2.1 (fun a b ha nb hb => ?_)
    have ga := g.2.1 a ha
    by_cases q : b ∈ fl
    · exact q
    · exfalso
      have hb1 := nbr_lt nb
      have nb2 := nbr_symm ga.1 hb1 nb
      have rb : r b = -1 := by
        by_cases c2 : r b = -1
        · exact c2
        · have := hI.2 b a c2 nb2 ga.2.1
          omega
      have eb := g.2.2.2.1 b hb1
      rw [if_neg q, rb] at eb
      obtain ⟨d, hd, e⟩ := nb2
      have := cl b hb1 hb eb
      rw [bsd_mk hd e (by rw [g.2.2.2.1 a ga.1, if_pos ha])] at this
      cases this
  refine Ev_intro mvX12_growRegion.1 rfl (fun h => by cases h) (allc1 rfl) (Nat.le_of_ble_eq_true rfl) (Or.inl rfl) ?_
  show Go G cX12_growRegion mX12_growRegion none 3 0 0 0 [some (vr 68), some (vi (n : Int)), none, none, none] [] w K X
  refine Go_iconst dX12_growRegion_0 ?_
  refine Go_ist2 dX12_growRegion_1 rfl ?_
  refine Go_while (σ := List Nat × Nat) (M := fun x => if x.2 = 0 then 0 else 101 - x.1.length) (L := fun x => [some (vr 68), some (vi (n : Int)), some (vi (x.2 : Int)), none, none]) (P := fun x v => GRW w v ps r n s x.1 ∧ x.2 ≤ 1 ∧ (x.2 = 0 → CLO ps (v 76) n 100)) ([s], 1) ((by repeat' (first | exact Or.inl rfl | exact Or.inr rfl | exact Or.inr (lcg (by omega)) | exact trivial | constructor))) ⟨hg, Nat.le_refl _, fun q => by cases q⟩ (fun x v hP kn => ?_)
  obtain ⟨fl, gx⟩ := x
  obtain ⟨g1, g2, g3⟩ := hP
  try dsimp only at g1 g2 g3 kn
  try dsimp only
  have gl := g1.len
  have gx2 : gx = 0 ∨ gx = 1 := by omega
  rcases gx2 with rfl | rfl
  · skip
    refine Go_ild2 dX12_growRegion_2 ?_
    refine Go_if_eq (tgt := 85) dX12_growRegion_3 (by decide) (by constructor <;> omega) (fun h3 => ?_) (fun h3 => by omega)
    refine Go_return dX12_growRegion_85 rfl ?_
    exact k v fl g1 (fin v fl g1 (g3 rfl))
  · skip
    refine Go_ild2 dX12_growRegion_2 ?_
    refine Go_if_eq (tgt := 85) dX12_growRegion_3 (by decide) (by constructor <;> omega) (fun h3 => by omega) (fun h3 => ?_)
    refine Go_iconst dX12_growRegion_6 ?_
    refine Go_ist2 dX12_growRegion_7 rfl ?_
    refine Go_iconst dX12_growRegion_8 ?_
    refine Go_ist3 dX12_growRegion_9 rfl ?_
    refine Go_upToS (σ := List Nat × Nat) (n := 100) (L := fun i x => [some (vr 68), some (vi (n : Int)), some (vi (x.2 : Int)), some (vi (i : Int)), none]) (P := fun i x v => GRW w v ps r n s x.1 ∧ x.2 ≤ 1 ∧ fl.length ≤ x.1.length ∧ (x.2 = 0 → CLO ps (v 76) n i) ∧ (x.2 = 1 → fl.length < x.1.length)) (fl, 0) ((by repeat' (first | exact Or.inl rfl | exact Or.inr rfl | exact Or.inr (lcg (by omega)) | exact trivial | constructor))) ⟨g1, Nat.zero_le _, Nat.le_refl _, fun _ t ht => by omega, fun q => by cases q⟩ (fun i x v hi hP2 kn2 => ?_) (fun x v hP2 => ?_)
    · obtain ⟨fl2, fx⟩ := x
      obtain ⟨a1, a2, a3, a4, a5⟩ := hP2
      try dsimp only at a1 a2 a3 a4 a5 kn2
      try dsimp only
      have al := a1.len
      have hm := h
      have f9 := a1.2.2.2.2.2.2
      have e74 : v 74 i = ow ps i := by rw [f9.at (by decide)]; exact (h i hi).1
      have bo := ow_in ps i
      have bb : ∀ t, t < 100 → -1 ≤ v 76 t ∧ v 76 t < 100 := fun t ht => by
        rw [a1.2.2.2.1 t ht]
        split
        · omega
        · rcases hI.1 t with c | c <;> omega
      have bi := bb i hi
      have nx0 : (ow ps i = -1 → v 76 i = -1 → bsd (v 76) i n = false) → fx = 0 → CLO ps (v 76) n (i + 1) := fun q f0 t ht c1 c2 => by
        by_cases c3 : t = i
        · subst c3; exact q c1 c2
        · exact a4 f0 t (by omega) c1 c2
      have stay : (ow ps i = -1 → v 76 i = -1 → bsd (v 76) i n = false) → Go G cX12_growRegion mX12_growRegion none 3 0 0 50 [some (vr 68), some (vi (n : Int)), some (vi (fx : Int)), some (vi (i : Int)), none] [vi 0] v K X := fun q => by
        refine Go_ist4 dX12_growRegion_50 rfl ?_
        refine Go_ild4 dX12_growRegion_52 ?_
        refine Go_if_eq (tgt := 76) dX12_growRegion_54 (by decide) (by constructor <;> omega) (fun h54 => ?_) (fun h54 => by omega)
        refine Go_inc3 dX12_growRegion_76 rfl ?_
        refine Go_goto (tgt := 10) dX12_growRegion_79 (by decide) ?_
        exact Go_forget (by repeat' (first | exact Or.inl rfl | exact Or.inr rfl | exact Or.inr (lcg (by omega)) | exact trivial | constructor)) (kn2 (fl2, fx) _ ⟨a1, a2, a3, nx0 q, a5⟩)
      have go1 : ow ps i = -1 → v 76 i = -1 → bsd (v 76) i n = true → Go G cX12_growRegion mX12_growRegion none 3 0 0 42 [some (vr 68), some (vi (n : Int)), some (vi (fx : Int)), some (vi (i : Int)), none] [vi 1] v K X := fun c1 c2 cb => by
        obtain ⟨d, b, hd, eb, rb⟩ := bsd_of cb
        have hb : b < 100 := by have := nbI_in i d; omega
        have bm : b ∈ fl2 := by
          have := a1.2.2.2.1 b hb
          by_cases c : b ∈ fl2
          · exact c
          · rw [if_neg c, rb] at this; exact absurd this.symm (rn b)
        have nb : nbr b i := nbr_symm hi hb ⟨d, hd, eb⟩
        have ga := a1.push bm nb (by omega) (by omega)
        have e77 := a1.2.2.2.2.1
        refine Go_if_eq (tgt := 49) dX12_growRegion_42 (by decide) (by constructor <;> omega) (fun h42 => by omega) (fun h42 => ?_)
        refine Go_iconst dX12_growRegion_45 ?_
        refine Go_goto (tgt := 50) dX12_growRegion_46 (by decide) ?_
        refine Go_ist4 dX12_growRegion_50 rfl ?_
        refine Go_ild4 dX12_growRegion_52 ?_
        refine Go_if_eq (tgt := 76) dX12_growRegion_54 (by decide) (by constructor <;> omega) (fun h54 => by omega) (fun h54 => ?_)
        refine Go_ald0 dX12_growRegion_57 ?_
        refine gf11_10 dX12_growRegion_58 flX12_31 ?_
        refine Go_ild3 dX12_growRegion_61 ?_
        refine Go_ild1 dX12_growRegion_62 ?_
        refine Go_iast dX12_growRegion_63 (by first | assumption | rfl) trivial (by omega) (by omega) (by decide) ?_
        refine Go_ald0 dX12_growRegion_64 ?_
        refine gf11_11 dX12_growRegion_65 flX12_34 ?_
        refine Go_ild1 dX12_growRegion_68 ?_
        refine Go_dup2 dX12_growRegion_69 ?_
        refine Go_iald dX12_growRegion_70 (by first | assumption | rfl) trivial (by omega) (by omega) (by decide) ?_
        rw [Int.toNat_natCast, Int.toNat_natCast, up_a (by decide), e77]
        refine Go_iconst dX12_growRegion_71 ?_
        refine Go_iadd dX12_growRegion_72 ?_
        refine Go_iast dX12_growRegion_73 (by first | assumption | rfl) trivial (by omega) (by omega) (by decide) ?_
        refine Go_iconst dX12_growRegion_74 ?_
        refine Go_ist2 dX12_growRegion_75 rfl ?_
        refine Go_inc3 dX12_growRegion_76 rfl ?_
        refine Go_goto (tgt := 10) dX12_growRegion_79 (by decide) ?_
        rw [Int.toNat_natCast, show (fl2.length : Int) + 1 = ((fl2.length + 1 : Nat) : Int) by omega]
        refine Go_forget (ls' := _) ?_ (kn2 (fl2 ++ [i], 1) _ ⟨ga, Nat.le_refl _, ?_, fun q => (by cases q), fun _ => ?_⟩)
        · exact (by repeat' (first | exact Or.inl rfl | exact Or.inr rfl | exact Or.inr (lcg (by omega)) | exact trivial | constructor))
        · rw [List.length_append]; show fl.length ≤ fl2.length + 1; omega
        · show fl.length < (fl2 ++ [i]).length; rw [List.length_append]; show fl.length < fl2.length + 1; omega
      have go0 : ¬ bsd (v 76) i n = true → Go G cX12_growRegion mX12_growRegion none 3 0 0 42 [some (vr 68), some (vi (n : Int)), some (vi (fx : Int)), some (vi (i : Int)), none] [vi 0] v K X := fun cb => by
        refine Go_if_eq (tgt := 49) dX12_growRegion_42 (by decide) (by constructor <;> omega) (fun h42 => ?_) (fun h42 => by omega)
        refine Go_iconst dX12_growRegion_49 ?_
        exact stay (fun _ _ => by cases c : bsd (v 76) i n; rfl; exact absurd c cb)
      refine Go_ild3 dX12_growRegion_10 ?_
      refine Go_bipush dX12_growRegion_11 (by decide +kernel) ?_
      refine Go_icmp_ge (tgt := 82) dX12_growRegion_13 (by decide) (by constructor <;> omega) (by constructor <;> omega) (fun h13 => by omega) (fun h13 => ?_)
      refine Go_ald0 dX12_growRegion_16 ?_
      refine gf11_8 dX12_growRegion_17 flX12_25 ?_
      refine Go_ild3 dX12_growRegion_20 ?_
      refine Go_iald dX12_growRegion_21 (by first | assumption | rfl) trivial (by omega) (by omega) (by decide) ?_
      rw [Int.toNat_natCast, e74]
      refine Go_iconst dX12_growRegion_22 ?_
      refine Go_icmp_ne (tgt := 49) dX12_growRegion_23 (by decide) (by constructor <;> omega) (by constructor <;> omega) (fun h23 => ?_) (fun h23 => ?_)
      · refine Go_iconst dX12_growRegion_49 ?_
        exact stay (fun c1 c2 => by omega)
      · refine Go_ald0 dX12_growRegion_26 ?_
        refine gf11_10 dX12_growRegion_27 flX12_31 ?_
        refine Go_ild3 dX12_growRegion_30 ?_
        refine Go_iald dX12_growRegion_31 (by first | assumption | rfl) trivial (by omega) (by omega) (by decide) ?_
        rw [Int.toNat_natCast]
        refine Go_iconst dX12_growRegion_32 ?_
        refine Go_icmp_ne (tgt := 49) dX12_growRegion_33 (by decide) (by constructor <;> omega) (by constructor <;> omega) (fun h33 => ?_) (fun h33 => ?_)
        · refine Go_iconst dX12_growRegion_49 ?_
          exact stay (fun c1 c2 => by omega)
        · refine Go_ald0 dX12_growRegion_36 ?_
          refine Go_ild3 dX12_growRegion_37 ?_
          refine Go_ild1 dX12_growRegion_38 ?_
          refine Go_cV2 (d' := 2) (bc' := 0) (bs' := 0) rfl dX12_growRegion_39 mvX12_isBeside rfl lkX12_97 (by first | assumption | rfl) rfl trivial (by decide) (by decide) (by decide) (Nat.le_of_ble_eq_true rfl) ?_
          refine e_X12_isBeside (r := v 76) hi (fun t ht => ⟨rfl, bb t ht⟩) hn ?_
          by_cases cb : bsd (v 76) i n = true
          · rw [if_pos cb]; exact go1 (by omega) (by omega) cb
          · rw [if_neg cb]; exact go0 cb
    · obtain ⟨fl2, fx⟩ := x
      obtain ⟨a1, a2, a3, a4, a5⟩ := hP2
      try dsimp only at a1 a2 a3 a4 a5
      try dsimp only
      have al := a1.len
      refine Go_ild3 dX12_growRegion_10 ?_
      refine Go_bipush dX12_growRegion_11 (by decide +kernel) ?_
      refine Go_icmp_ge (tgt := 82) dX12_growRegion_13 (by decide) (by constructor <;> omega) (by constructor <;> omega) (fun h13 => ?_) (fun h13 => by omega)
      refine Go_goto (tgt := 2) dX12_growRegion_82 (by decide) ?_
      refine Go_forget (ls' := _) ?_ (kn (fl2, fx) _ ?_ ⟨a1, a2, a4⟩)
      · exact (by repeat' (first | exact Or.inl rfl | exact Or.inr rfl | exact Or.inr (lcg (by omega)) | exact trivial | constructor))
      · have c : fx = 0 ∨ fx = 1 := by omega
        rcases c with rfl | rfl
        · show 0 < _; rw [if_neg (by decide)]; omega
        · have := a5 rfl
          show (if (1 : Nat) = 0 then 0 else 101 - fl2.length) < (if (1 : Nat) = 0 then 0 else 101 - fl.length)
          rw [if_neg (by decide), if_neg (by decide)]; omega
/-- regions as the reference numbers them -/
def RM (w : Wd) (r : Nat → Int) (n : Nat) : Prop := (∀ t, t < 100 → w 76 t = r t) ∧ w 68 12 = (n : Int) ∧ ∀ i, i < n → w 77 i = cntF r i
def f68 (w v : Wd) : Prop := frm w v [68, 76, 77] ∧ ∀ j, j ≠ 12 → v 68 j = w 68 j
theorem f68.up {w v : Wd} {a k : Nat} {z : Int} (h : f68 w v) (ha : (a = 68 ∧ k = 12) ∨ a = 76 ∨ a = 77) : f68 w (up v a k z) := by
  refine ⟨h.1.up (by rcases ha with q | q | q <;> simp [q]), fun j hj => ?_⟩
  by_cases c : a = 68
  · rw [c, up_k (by omega)]; exact h.2 j hj
  · rw [up_a (fun q => c q.symm)]; exact h.2 j hj
theorem f68.frm {w v v' : Wd} (h : f68 w v) (f : frm v v' [76, 77]) : f68 w v' := ⟨h.1.trans f (by decide), fun j hj => by rw [f.at (by decide)]; exact h.2 j hj⟩
theorem f68.mfr {w v : Wd} (h : f68 w v) : mfr w v := ⟨h.1.mono (by decide), h.2 3 (by decide), h.2 7 (by decide)⟩
theorem f68.t0 {w v : Wd} (h : f68 w v) : v 68 0 = w 68 0 := h.2 0 (by decide)
theorem e_X12_findRegions (h : MK (w 74) (w 75) ps) (h5 : ps.length ≤ 5) (k : ∀ w', RM w' (rgR ps) (rgN ps) → f68 w w' → K (vi 0) none w') : Ev G yX12_findRegions cX12_findRegions 2 mX12_findRegions none 4 0 0 [vr 68] w K X := by
  have z0 : f68 w w := ⟨frm.rfl, fun _ _ => rfl⟩
  refine Ev_intro mvX12_findRegions.1 rfl (fun h => by cases h) (allc1 rfl) (Nat.le_of_ble_eq_true rfl) (Or.inl rfl) ?_
  show Go G cX12_findRegions mX12_findRegions none 4 0 0 0 [some (vr 68), none] [] w K X
  refine Go_ald0 dX12_findRegions_0 ?_
  refine Go_iconst dX12_findRegions_1 ?_
  refine pf11_12 dX12_findRegions_2 flX12_90 (by first | assumption | rfl) ?_
  refine Go_iconst dX12_findRegions_5 ?_
  refine Go_ist1 dX12_findRegions_6 rfl ?_
  refine Go_upTo (n := 100) (L := fun i => [some (vr 68), some (vi (i : Int))]) (P := fun i v => f68 w v ∧ v 68 12 = 0 ∧ ∀ j, j < i → v 76 j = -1) (by repeat' (first | exact Or.inl rfl | exact Or.inr rfl | exact Or.inr (lcg (by omega)) | exact trivial | constructor)) (⟨z0.up (Or.inl ⟨rfl, rfl⟩), by rw [up_s], fun j hj => by omega⟩) (fun i v hi hP kn => ?_) (fun v hP => ?_)
  · try dsimp only at hP kn
    try dsimp only
    obtain ⟨f1, e12, a1⟩ := hP
    refine Go_ild1 dX12_findRegions_7 ?_
    refine Go_bipush dX12_findRegions_8 (by decide +kernel) ?_
    refine Go_icmp_ge (tgt := 26) dX12_findRegions_10 (by decide) (by constructor <;> omega) (by constructor <;> omega) (fun h10 => by omega) (fun h10 => ?_)
    refine Go_ald0 dX12_findRegions_13 ?_
    refine gf11_10 dX12_findRegions_14 flX12_31 ?_
    refine Go_ild1 dX12_findRegions_17 ?_
    refine Go_iconst dX12_findRegions_18 ?_
    refine Go_iast dX12_findRegions_19 (by first | assumption | rfl) trivial (by omega) (by omega) (by decide) ?_
    refine Go_inc1 dX12_findRegions_20 rfl ?_
    refine Go_goto (tgt := 7) dX12_findRegions_23 (by decide) ?_
    rw [Int.toNat_natCast]
    refine Go_forget (by repeat' (first | exact Or.inl rfl | exact Or.inr rfl | exact Or.inr (lcg (by omega)) | exact trivial | constructor)) (kn _ ⟨f1.up (by simp), by rw [up_a (by decide)]; exact e12, fun j hj => ?_⟩)
    by_cases c : j = i
    · subst c; rw [up_s]
    · rw [up_k c]; exact a1 j (by omega)
  · try dsimp only at hP
    try dsimp only
    obtain ⟨f1, e12, a1⟩ := hP
    have r0 : RM v (rgS ps 0).1 (rgS ps 0).2 := ⟨fun t ht => a1 t ht, e12, fun i hi => by have : i < 0 := hi; omega⟩
    refine Go_ild1 dX12_findRegions_7 ?_
    refine Go_bipush dX12_findRegions_8 (by decide +kernel) ?_
    refine Go_icmp_ge (tgt := 26) dX12_findRegions_10 (by decide) (by constructor <;> omega) (by constructor <;> omega) (fun h10 => ?_) (fun h10 => by omega)
    refine Go_iconst dX12_findRegions_26 ?_
    refine Go_ist1 dX12_findRegions_27 rfl ?_
    refine Go_upTo (n := 100) (L := fun i => [some (vr 68), some (vi (i : Int))]) (P := fun i v => RM v (rgS ps i).1 (rgS ps i).2 ∧ f68 w v) (by repeat' (first | exact Or.inl rfl | exact Or.inr rfl | exact Or.inr (lcg (by omega)) | exact trivial | constructor)) (⟨r0, f1⟩) (fun i v hi hP kn => ?_) (fun v hP => ?_)
    · try dsimp only at hP kn
      try dsimp only
      obtain ⟨⟨g1, g2, g3⟩, f2⟩ := hP
      obtain ⟨hI, hn⟩ := rgS_ok ps i (by omega)
      have e74 : v 74 i = ow ps i := by rw [f2.1.at (by decide)]; exact (h i hi).1
      have bo := ow_in ps i
      have e := g1 i hi
      have bi := hI.1 i
      by_cases q : ow ps i = -1 ∧ (rgS ps i).1 i = -1
      · obtain ⟨b1, b2, b3⟩ := rgS_pos q
        refine Go_ild1 dX12_findRegions_28 ?_
        refine Go_bipush dX12_findRegions_29 (by decide +kernel) ?_
        refine Go_icmp_ge (tgt := 98) dX12_findRegions_31 (by decide) (by constructor <;> omega) (by constructor <;> omega) (fun h31 => by omega) (fun h31 => ?_)
        refine Go_ald0 dX12_findRegions_34 ?_
        refine gf11_8 dX12_findRegions_35 flX12_25 ?_
        refine Go_ild1 dX12_findRegions_38 ?_
        refine Go_iald dX12_findRegions_39 (by first | assumption | rfl) trivial (by omega) (by omega) (by decide) ?_
        rw [Int.toNat_natCast, e74]
        refine Go_iconst dX12_findRegions_40 ?_
        refine Go_icmp_ne (tgt := 92) dX12_findRegions_41 (by decide) (by constructor <;> omega) (by constructor <;> omega) (fun h41 => by omega) (fun h41 => ?_)
        refine Go_ald0 dX12_findRegions_44 ?_
        refine gf11_10 dX12_findRegions_45 flX12_31 ?_
        refine Go_ild1 dX12_findRegions_48 ?_
        refine Go_iald dX12_findRegions_49 (by first | assumption | rfl) trivial (by omega) (by omega) (by decide) ?_
        rw [Int.toNat_natCast, e]
        refine Go_iconst dX12_findRegions_50 ?_
        refine Go_icmp_ne (tgt := 92) dX12_findRegions_51 (by decide) (by constructor <;> omega) (by constructor <;> omega) (fun h51 => by omega) (fun h51 => ?_)
        refine Go_ald0 dX12_findRegions_54 ?_
        refine gf11_10 dX12_findRegions_55 flX12_31 ?_
        refine Go_ild1 dX12_findRegions_58 ?_
        refine Go_ald0 dX12_findRegions_59 ?_
        refine gf11_12 dX12_findRegions_60 flX12_90 (by first | assumption | rfl) ?_
        rw [g2]
        refine Go_iast dX12_findRegions_63 (by first | assumption | rfl) trivial (by omega) (by omega) (by decide) ?_
        refine Go_ald0 dX12_findRegions_64 ?_
        refine gf11_11 dX12_findRegions_65 flX12_34 ?_
        refine Go_ald0 dX12_findRegions_68 ?_
        refine gf11_12 dX12_findRegions_69 flX12_90 (by first | assumption | rfl) ?_
        rw [up_a (by decide), g2]
        refine Go_iconst dX12_findRegions_72 ?_
        refine Go_iast dX12_findRegions_73 (by first | assumption | rfl) trivial (by omega) (by omega) (by decide) ?_
        refine Go_ald0 dX12_findRegions_74 ?_
        refine Go_ald0 dX12_findRegions_75 ?_
        refine gf11_12 dX12_findRegions_76 flX12_90 (by first | assumption | rfl) ?_
        rw [up_a (by decide), up_a (by decide), g2, Int.toNat_natCast, Int.toNat_natCast]
        have f3 : f68 w (up (up v 76 i ((rgS ps i).2 : Int)) 77 (rgS ps i).2 1) := (f2.up (by simp)).up (by simp)
        have hm : MK (up (up v 76 i ((rgS ps i).2 : Int)) 77 (rgS ps i).2 1 74) (up (up v 76 i ((rgS ps i).2 : Int)) 77 (rgS ps i).2 1 75) ps := by rw [f3.1 74 (by decide), f3.1 75 (by decide)]; exact h
        have gg : GRW (up (up v 76 i ((rgS ps i).2 : Int)) 77 (rgS ps i).2 1) (up (up v 76 i ((rgS ps i).2 : Int)) 77 (rgS ps i).2 1) ps (rgS ps i).1 (rgS ps i).2 i [i] := by
          refine ⟨by simp, fun x hx => ?_, by simp, fun t ht => ?_, by rw [up_s]; rfl, fun _ _ => rfl, frm.rfl⟩
          · rw [List.mem_singleton] at hx; subst hx; exact ⟨hi, q.1, cn_self _ _, q.2⟩
          · rw [up_a (by decide)]
            by_cases c : t = i
            · subst c; rw [up_s, if_pos (by simp)]
            · rw [up_k c, if_neg (by simp [c])]; exact g1 t ht
        refine Go_cVv1 (d' := 3) (bc' := 0) (bs' := 0) rfl dX12_findRegions_79 mvX12_growRegion rfl lkX12_93 (by first | assumption | rfl) rfl trivial (by decide) (by decide) (by decide) (Nat.le_of_ble_eq_true rfl) ?_
        refine e_X12_growRegion (n := (rgS ps i).2) hm h5 hI (by omega) gg (fun w2 fl gf cf => ?_)
        refine Go_ald0 dX12_findRegions_82 ?_
        refine Go_dup dX12_findRegions_83 ?_
        have f4 := f3.frm gf.2.2.2.2.2.2
        have e12 : w2 68 12 = ((rgS ps i).2 : Int) := by rw [gf.2.2.2.2.2.2.at (by decide), up_a (by decide), up_a (by decide)]; exact g2
        have cl := cnt_list (r := (rgS ps i).1) (n := (rgS ps i).2) (fun t => by rcases hI.1 t with c | c <;> omega) fl gf.1 (fun x hx => ⟨(gf.2.1 x hx).1, (gf.2.1 x hx).2.2.2⟩)
        have er : ∀ t, (rgS ps (i + 1)).1 t = if t ∈ fl then ((rgS ps i).2 : Int) else (rgS ps i).1 t := fun t => by
          by_cases c : t ∈ fl
          · rw [if_pos c]; exact b1 t ((cf t).mpr c)
          · rw [if_neg c]; exact b2 t (fun z => c ((cf t).mp z))
        have ec : ∀ j : Int, cntF (rgS ps (i + 1)).1 j = cntF (fun t => if t ∈ fl then ((rgS ps i).2 : Int) else (rgS ps i).1 t) j := fun j => cntF_congr (fun t _ => er t)
        refine gf11_12 dX12_findRegions_84 flX12_90 (by first | assumption | rfl) ?_
        refine Go_iconst dX12_findRegions_87 ?_
        refine Go_iadd dX12_findRegions_88 ?_
        refine pf11_12 dX12_findRegions_89 flX12_90 (by first | assumption | rfl) ?_
        refine Go_inc1 dX12_findRegions_92 rfl ?_
        refine Go_goto (tgt := 28) dX12_findRegions_95 (by decide) ?_
        rw [e12]
        refine Go_forget (by repeat' (first | exact Or.inl rfl | exact Or.inr rfl | exact Or.inr (lcg (by omega)) | exact trivial | constructor)) (kn _ ⟨⟨fun t ht => ?_, ?_, fun j hj => ?_⟩, f4.up (Or.inl ⟨rfl, rfl⟩)⟩)
        · rw [up_a (by decide), gf.2.2.2.1 t ht, er t]
        · rw [up_s, b3]; omega
        · rw [up_a (by decide), ec]
          rw [b3] at hj
          by_cases c : j = (rgS ps i).2
          · subst c; rw [gf.2.2.2.2.1, cl.1]
          · have := g3 j (by omega)
            rw [gf.2.2.2.2.2.1 j c, up_k c, up_a (by decide), cl.2 j c]
            exact this
      · have eS := rgS_neg q
        refine Go_ild1 dX12_findRegions_28 ?_
        refine Go_bipush dX12_findRegions_29 (by decide +kernel) ?_
        refine Go_icmp_ge (tgt := 98) dX12_findRegions_31 (by decide) (by constructor <;> omega) (by constructor <;> omega) (fun h31 => by omega) (fun h31 => ?_)
        refine Go_ald0 dX12_findRegions_34 ?_
        refine gf11_8 dX12_findRegions_35 flX12_25 ?_
        refine Go_ild1 dX12_findRegions_38 ?_
        refine Go_iald dX12_findRegions_39 (by first | assumption | rfl) trivial (by omega) (by omega) (by decide) ?_
        rw [Int.toNat_natCast, e74]
        refine Go_iconst dX12_findRegions_40 ?_
        refine Go_icmp_ne (tgt := 92) dX12_findRegions_41 (by decide) (by constructor <;> omega) (by constructor <;> omega) (fun h41 => ?_) (fun h41 => ?_)
        · refine Go_inc1 dX12_findRegions_92 rfl ?_
          refine Go_goto (tgt := 28) dX12_findRegions_95 (by decide) ?_
          refine Go_forget (by repeat' (first | exact Or.inl rfl | exact Or.inr rfl | exact Or.inr (lcg (by omega)) | exact trivial | constructor)) (kn _ ⟨?_, f2⟩)
          rw [eS]
          exact ⟨g1, g2, g3⟩
        · refine Go_ald0 dX12_findRegions_44 ?_
          refine gf11_10 dX12_findRegions_45 flX12_31 ?_
          refine Go_ild1 dX12_findRegions_48 ?_
          refine Go_iald dX12_findRegions_49 (by first | assumption | rfl) trivial (by omega) (by omega) (by decide) ?_
          rw [Int.toNat_natCast, e]
          refine Go_iconst dX12_findRegions_50 ?_
          refine Go_icmp_ne (tgt := 92) dX12_findRegions_51 (by decide) (by constructor <;> omega) (by constructor <;> omega) (fun h51 => ?_) (fun h51 => by omega)
          refine Go_inc1 dX12_findRegions_92 rfl ?_
          refine Go_goto (tgt := 28) dX12_findRegions_95 (by decide) ?_
          refine Go_forget (by repeat' (first | exact Or.inl rfl | exact Or.inr rfl | exact Or.inr (lcg (by omega)) | exact trivial | constructor)) (kn _ ⟨?_, f2⟩)
          rw [eS]
          exact ⟨g1, g2, g3⟩
    · try dsimp only at hP
      try dsimp only
      obtain ⟨g, f1⟩ := hP
      refine Go_ild1 dX12_findRegions_28 ?_
      refine Go_bipush dX12_findRegions_29 (by decide +kernel) ?_
      refine Go_icmp_ge (tgt := 98) dX12_findRegions_31 (by decide) (by constructor <;> omega) (by constructor <;> omega) (fun h31 => ?_) (fun h31 => by omega)
      refine Go_return dX12_findRegions_98 rfl ?_
      exact k _ g f1
theorem e_X12_freeSites (h : MK (w 74) (w 75) ps) (h5 : ps.length ≤ 5) (ho : OKp ps) (k : K (vi (100 - (tot ps : Int))) none w) : Ev G yX12_freeSites cX12_freeSites 3 mX12_freeSites none 0 0 0 [vr 68] w K X := by
  rw [← occ_ok ho] at k
  refine Ev_intro mvX12_freeSites.1 rfl (fun h => by cases h) (allc1 rfl) (Nat.le_of_ble_eq_true rfl) (Or.inl rfl) ?_
  show Go G cX12_freeSites mX12_freeSites none 0 0 0 0 [some (vr 68), none, none] [] w K X
  refine Go_iconst dX12_freeSites_0 ?_
  refine Go_ist1 dX12_freeSites_1 rfl ?_
  refine Go_iconst dX12_freeSites_2 ?_
  refine Go_ist2 dX12_freeSites_3 rfl ?_
  refine Go_upTo (n := 100) (L := fun i => [some (vr 68), some (vi (smF (fun t => if ow ps t = -1 then 1 else 0) i)), some (vi (i : Int))]) (P := fun i v => v = w) (by repeat' (first | exact Or.inl rfl | exact Or.inr rfl | exact Or.inr (lcg (by omega)) | exact trivial | constructor)) (rfl) (fun i v hi hP kn => ?_) (fun v hP => ?_)
  · try dsimp only at hP kn
    try dsimp only
    subst hP
    have e74 := (h i hi).1
    have bo := ow_in ps i
    have e : smF (fun t => if ow ps t = -1 then (1 : Int) else 0) (i + 1) = smF (fun t => if ow ps t = -1 then (1 : Int) else 0) i + (if ow ps i = -1 then 1 else 0) := rfl
    refine Go_ild2 dX12_freeSites_4 ?_
    refine Go_bipush dX12_freeSites_5 (by decide +kernel) ?_
    refine Go_icmp_ge (tgt := 34) dX12_freeSites_7 (by decide) (by constructor <;> omega) (by constructor <;> omega) (fun h7 => by omega) (fun h7 => ?_)
    refine Go_ild1 dX12_freeSites_10 ?_
    refine Go_ald0 dX12_freeSites_11 ?_
    refine gf11_8 dX12_freeSites_12 flX12_25 ?_
    refine Go_ild2 dX12_freeSites_15 ?_
    refine Go_iald dX12_freeSites_16 (by first | assumption | rfl) trivial (by omega) (by omega) (by decide) ?_
    rw [Int.toNat_natCast, e74]
    refine Go_iconst dX12_freeSites_17 ?_
    refine Go_icmp_ne (tgt := 25) dX12_freeSites_18 (by decide) (by constructor <;> omega) (by constructor <;> omega) (fun h18 => ?_) (fun h18 => ?_)
    · refine Go_iconst dX12_freeSites_25 ?_
      refine Go_iadd dX12_freeSites_26 ?_
      refine Go_ist1 dX12_freeSites_27 rfl ?_
      refine Go_inc2 dX12_freeSites_28 rfl ?_
      refine Go_goto (tgt := 4) dX12_freeSites_31 (by decide) ?_
      refine Go_forget (ls' := _) ?_ (kn _ rfl)
      first | rw [if_pos (by omega)] at e | rw [if_neg (by omega)] at e
      rw [e]
      exact (by repeat' (first | exact Or.inl rfl | exact Or.inr rfl | exact Or.inr (lcg (by omega)) | exact trivial | constructor))
    · refine Go_iconst dX12_freeSites_21 ?_
      refine Go_goto (tgt := 26) dX12_freeSites_22 (by decide) ?_
      refine Go_iadd dX12_freeSites_26 ?_
      refine Go_ist1 dX12_freeSites_27 rfl ?_
      refine Go_inc2 dX12_freeSites_28 rfl ?_
      refine Go_goto (tgt := 4) dX12_freeSites_31 (by decide) ?_
      refine Go_forget (ls' := _) ?_ (kn _ rfl)
      first | rw [if_pos (by omega)] at e | rw [if_neg (by omega)] at e
      rw [e]
      exact (by repeat' (first | exact Or.inl rfl | exact Or.inr rfl | exact Or.inr (lcg (by omega)) | exact trivial | constructor))
  · try dsimp only at hP
    try dsimp only
    subst hP
    refine Go_ild2 dX12_freeSites_4 ?_
    refine Go_bipush dX12_freeSites_5 (by decide +kernel) ?_
    refine Go_icmp_ge (tgt := 34) dX12_freeSites_7 (by decide) (by constructor <;> omega) (by constructor <;> omega) (fun h7 => ?_) (fun h7 => by omega)
    refine Go_ild1 dX12_freeSites_34 ?_
    refine Go_ireturn dX12_freeSites_35 rfl (by first | rfl | decide | exact nar_b | simp [narrow]) ?_
    exact k
theorem e_X12_greatestRegion (h : RM w r n) (hn : n ≤ 100) (k : K (vi (mxF (fun i => cntF r i) 0 n)) none w) : Ev G yX12_greatestRegion cX12_greatestRegion 3 mX12_greatestRegion none 0 0 0 [vr 68] w K X := by
  obtain ⟨g1, g2, g3⟩ := h
  refine Ev_intro mvX12_greatestRegion.1 rfl (fun h => by cases h) (allc1 rfl) (Nat.le_of_ble_eq_true rfl) (Or.inl rfl) ?_
  show Go G cX12_greatestRegion mX12_greatestRegion none 0 0 0 0 [some (vr 68), none, none] [] w K X
  refine Go_iconst dX12_greatestRegion_0 ?_
  refine Go_ist1 dX12_greatestRegion_1 rfl ?_
  refine Go_iconst dX12_greatestRegion_2 ?_
  refine Go_ist2 dX12_greatestRegion_3 rfl ?_
  refine Go_upTo (n := n) (L := fun i => [some (vr 68), some (vi (mxF (fun i => cntF r i) 0 i)), some (vi (i : Int))]) (P := fun i v => v = w) (by repeat' (first | exact Or.inl rfl | exact Or.inr rfl | exact Or.inr (lcg (by omega)) | exact trivial | constructor)) (rfl) (fun i v hi hP kn => ?_) (fun v hP => ?_)
  · try dsimp only at hP kn
    try dsimp only
    subst hP
    have e := g3 i hi
    have b := cntF_in r i
    have b2 := mxF_in (f := fun i => cntF r i) (a := 0) (lo := 0) (hi := 100) (n := i) (by omega) (fun j _ => cntF_in r j)
    have e2 : mxF (fun i => cntF r i) 0 (i + 1) = if mxF (fun i => cntF r i) 0 i < cntF r i then cntF r i else mxF (fun i => cntF r i) 0 i := rfl
    refine Go_ild2 dX12_greatestRegion_4 ?_
    refine Go_ald0 dX12_greatestRegion_5 ?_
    refine gf11_12 dX12_greatestRegion_6 flX12_90 rfl ?_
    rw [g2]
    refine Go_icmp_ge (tgt := 39) dX12_greatestRegion_9 (by decide) (by constructor <;> omega) (by constructor <;> omega) (fun h9 => by omega) (fun h9 => ?_)
    refine Go_ald0 dX12_greatestRegion_12 ?_
    refine gf11_11 dX12_greatestRegion_13 flX12_34 ?_
    refine Go_ild2 dX12_greatestRegion_16 ?_
    refine Go_iald dX12_greatestRegion_17 rfl trivial (by omega) (by omega) (by decide) ?_
    rw [Int.toNat_natCast, e]
    refine Go_ild1 dX12_greatestRegion_18 ?_
    refine Go_icmp_le (tgt := 31) dX12_greatestRegion_19 (by decide) (by constructor <;> omega) (by constructor <;> omega) (fun h19 => ?_) (fun h19 => ?_)
    · refine Go_ild1 dX12_greatestRegion_31 ?_
      refine Go_ist1 dX12_greatestRegion_32 rfl ?_
      refine Go_inc2 dX12_greatestRegion_33 rfl ?_
      refine Go_goto (tgt := 4) dX12_greatestRegion_36 (by decide) ?_
      refine Go_forget (ls' := _) ?_ (kn _ rfl)
      first | rw [if_pos (by omega)] at e2 | rw [if_neg (by omega)] at e2
      rw [e2]
      exact (by repeat' (first | exact Or.inl rfl | exact Or.inr rfl | exact Or.inr (lcg (by omega)) | exact trivial | constructor))
    · refine Go_ald0 dX12_greatestRegion_22 ?_
      refine gf11_11 dX12_greatestRegion_23 flX12_34 ?_
      refine Go_ild2 dX12_greatestRegion_26 ?_
      refine Go_iald dX12_greatestRegion_27 rfl trivial (by omega) (by omega) (by decide) ?_
      rw [Int.toNat_natCast, e]
      refine Go_goto (tgt := 32) dX12_greatestRegion_28 (by decide) ?_
      refine Go_ist1 dX12_greatestRegion_32 rfl ?_
      refine Go_inc2 dX12_greatestRegion_33 rfl ?_
      refine Go_goto (tgt := 4) dX12_greatestRegion_36 (by decide) ?_
      refine Go_forget (ls' := _) ?_ (kn _ rfl)
      first | rw [if_pos (by omega)] at e2 | rw [if_neg (by omega)] at e2
      rw [e2]
      exact (by repeat' (first | exact Or.inl rfl | exact Or.inr rfl | exact Or.inr (lcg (by omega)) | exact trivial | constructor))
  · try dsimp only at hP
    try dsimp only
    subst hP
    refine Go_ild2 dX12_greatestRegion_4 ?_
    refine Go_ald0 dX12_greatestRegion_5 ?_
    refine gf11_12 dX12_greatestRegion_6 flX12_90 (by first | assumption | rfl) ?_
    rw [g2]
    refine Go_icmp_ge (tgt := 39) dX12_greatestRegion_9 (by decide) (by constructor <;> omega) (by constructor <;> omega) (fun h9 => ?_) (fun h9 => by omega)
    refine Go_ild1 dX12_greatestRegion_39 ?_
    refine Go_ireturn dX12_greatestRegion_40 rfl (by first | rfl | decide | exact nar_b | simp [narrow]) ?_
    exact k
theorem e_X12_isBesideHead {i0 : Nat} (h : ST w 69 0 s) (hr : ∀ t, t < 100 → w 76 t = r t ∧ -1 ≤ r t ∧ r t < 100) (hi0 : i0 < 100) (k : K (vi (if hdB s.1 r s.1.length i0 = true then 1 else 0)) none w) : Ev G yX12_isBesideHead cX12_isBesideHead 4 mX12_isBesideHead none 3 0 0 [vr 68, vi (i0 : Int)] w K X := by
  have h5 := h.1.1
  have e0 := st_n h
  refine Ev_intro mvX12_isBesideHead.1 rfl (fun h => by cases h) (allc1 rfl) (Nat.le_of_ble_eq_true rfl) (Or.inl rfl) ?_
  show Go G cX12_isBesideHead mX12_isBesideHead none 3 0 0 0 [some (vr 68), some (vi (i0 : Int)), none, none] [] w K X
  refine Go_iconst dX12_isBesideHead_0 ?_
  refine Go_ist2 dX12_isBesideHead_1 rfl ?_
  refine Go_iconst dX12_isBesideHead_2 ?_
  refine Go_ist3 dX12_isBesideHead_3 rfl ?_
  refine Go_upTo (n := s.1.length) (L := fun i => [some (vr 68), some (vi (i0 : Int)), some (vi (if hdB s.1 r i i0 = true then 1 else 0)), some (vi (i : Int))]) (P := fun i v => v = w) (by repeat' (first | exact Or.inl rfl | exact Or.inr rfl | exact Or.inr (lcg (by omega)) | exact trivial | constructor)) (rfl) (fun i v hi hP kn => ?_) (fun v hP => ?_)
  · try dsimp only at hP kn
    try dsimp only
    subst hP
    have hh : hdL (pth s.1 i) < 100 := (h.1.lt i).at _
    have e : hdB s.1 r (i + 1) i0 = (hdB s.1 r i i0 || bsd r (hdL (pth s.1 i)) i0) := by unfold hdB; rw [List.range_succ, List.any_append]; simp
    refine Go_ild3 dX12_isBesideHead_4 ?_
    refine Go_ald0 dX12_isBesideHead_5 ?_
    refine gf11_1 dX12_isBesideHead_6 flX12_7 ?_
    refine Go_iconst dX12_isBesideHead_9 ?_
    refine Go_iald dX12_isBesideHead_10 (by first | assumption | rfl) trivial (by omega) (by omega) (by decide) ?_
    rw [show (0 : Int).toNat = 0 from rfl, e0]
    refine Go_icmp_ge (tgt := 43) dX12_isBesideHead_11 (by decide) (by constructor <;> omega) (by constructor <;> omega) (fun h11 => by omega) (fun h11 => ?_)
    refine Go_ild2 dX12_isBesideHead_14 ?_
    refine Go_ifb_ne (tgt := 31) dX12_isBesideHead_15 (by decide)  (fun h15 => ?_) (fun h15 => ?_)
    · refine Go_iconst dX12_isBesideHead_31 ?_
      refine Go_goto (tgt := 36) dX12_isBesideHead_32 (by decide) ?_
      refine Go_ist2 dX12_isBesideHead_36 rfl ?_
      refine Go_inc3 dX12_isBesideHead_37 rfl ?_
      refine Go_goto (tgt := 4) dX12_isBesideHead_40 (by decide) ?_
      refine Go_forget (ls' := _) ?_ (kn _ rfl)
      first | rw [if_pos (by rw [e, h15]; rfl)] | rw [if_pos (by rw [e, h28, Bool.or_true])] | rw [if_neg (by rw [e, Bool.or_eq_true]; exact fun z => z.elim h15 h28)]
      exact (by repeat' (first | exact Or.inl rfl | exact Or.inr rfl | exact Or.inr (lcg (by omega)) | exact trivial | constructor))
    · refine Go_ald0 dX12_isBesideHead_18 ?_
      refine Go_ald0 dX12_isBesideHead_19 ?_
      refine Go_ild3 dX12_isBesideHead_20 ?_
      refine Go_cV1 (d' := 1) (bc' := 0) (bs' := 0) rfl dX12_isBesideHead_21 mvX12_headOf rfl lkX12_121 (by first | assumption | rfl) rfl trivial (by decide) (by decide) (by decide) (Nat.le_of_ble_eq_true rfl) ?_
      refine e_X12_headOf h hi ?_
      refine Go_ild1 dX12_isBesideHead_24 ?_
      refine Go_cV2 (d' := 2) (bc' := 0) (bs' := 0) rfl dX12_isBesideHead_25 mvX12_isBeside rfl lkX12_97 (by first | assumption | rfl) rfl trivial (by decide) (by decide) (by decide) (Nat.le_of_ble_eq_true rfl) ?_
      refine e_X12_isBeside hh hr hi0 ?_
      refine Go_ifb_eq (tgt := 35) dX12_isBesideHead_28 (by decide)  (fun h28 => ?_) (fun h28 => ?_)
      · refine Go_iconst dX12_isBesideHead_35 ?_
        refine Go_ist2 dX12_isBesideHead_36 rfl ?_
        refine Go_inc3 dX12_isBesideHead_37 rfl ?_
        refine Go_goto (tgt := 4) dX12_isBesideHead_40 (by decide) ?_
        refine Go_forget (ls' := _) ?_ (kn _ rfl)
        first | rw [if_pos (by rw [e, h15]; rfl)] | rw [if_pos (by rw [e, h28, Bool.or_true])] | rw [if_neg (by rw [e, Bool.or_eq_true]; exact fun z => z.elim h15 h28)]
        exact (by repeat' (first | exact Or.inl rfl | exact Or.inr rfl | exact Or.inr (lcg (by omega)) | exact trivial | constructor))
      · refine Go_iconst dX12_isBesideHead_31 ?_
        refine Go_goto (tgt := 36) dX12_isBesideHead_32 (by decide) ?_
        refine Go_ist2 dX12_isBesideHead_36 rfl ?_
        refine Go_inc3 dX12_isBesideHead_37 rfl ?_
        refine Go_goto (tgt := 4) dX12_isBesideHead_40 (by decide) ?_
        refine Go_forget (ls' := _) ?_ (kn _ rfl)
        first | rw [if_pos (by rw [e, h15]; rfl)] | rw [if_pos (by rw [e, h28, Bool.or_true])] | rw [if_neg (by rw [e, Bool.or_eq_true]; exact fun z => z.elim h15 h28)]
        exact (by repeat' (first | exact Or.inl rfl | exact Or.inr rfl | exact Or.inr (lcg (by omega)) | exact trivial | constructor))
  · try dsimp only at hP
    try dsimp only
    subst hP
    refine Go_ild3 dX12_isBesideHead_4 ?_
    refine Go_ald0 dX12_isBesideHead_5 ?_
    refine gf11_1 dX12_isBesideHead_6 flX12_7 ?_
    refine Go_iconst dX12_isBesideHead_9 ?_
    refine Go_iald dX12_isBesideHead_10 (by first | assumption | rfl) trivial (by omega) (by omega) (by decide) ?_
    rw [show (0 : Int).toNat = 0 from rfl, e0]
    refine Go_icmp_ge (tgt := 43) dX12_isBesideHead_11 (by decide) (by constructor <;> omega) (by constructor <;> omega) (fun h11 => ?_) (fun h11 => by omega)
    refine Go_ild2 dX12_isBesideHead_43 ?_
    refine Go_ireturn dX12_isBesideHead_44 rfl (by first | rfl | decide | exact nar_b | simp [narrow]) ?_
    exact k
theorem rgR_b (ps : List (List Nat)) (t : Nat) : -1 ≤ rgR ps t ∧ rgR ps t < 100 := by
  have n1 := (rg_ok ps).2
  rcases rg_r ps t with c | c <;> omega
theorem e_X12_free (h : MInv w s sv g tx) (h1 : inR z1)
    (k : ∀ w', 0 ≤ z1 → z1 ≤ 3 → MX w w' 0 s sv g tx → K (vi (if z1 = 0 then 100 - (tot s.1 : Int) else if z1 = 1 then (rgN s.1 : Int) else if z1 = 2 then mxF (fun i => cntF (rgR s.1) i) 0 (rgN s.1) else smF (fun i => if hdB s.1 (rgR s.1) s.1.length i = true then 1 else 0) (rgN s.1))) none w')
    (x1 : ∀ w', ¬ (0 ≤ z1 ∧ z1 ≤ 3) → MX w w' 1 s sv g tx → K (vi 0) none w') : Ev G yX12_free cX12_free 4 mX12_free none 5 0 0 [vr 68, vi z1] w K X := by
  have hm := thr0.MInv h
  have h5 := h.1.1.1
  have n1 := (rg_ok s.1).2
  refine Ev_intro mvX12_free.1 rfl (fun h => by cases h) (allc1 rfl) (Nat.le_of_ble_eq_true rfl) (Or.inl rfl) ?_
  show Go G cX12_free mX12_free none 5 0 0 0 [some (vr 68), some (vi z1), none, none] [] w K X
  by_cases h11 : 0 ≤ z1 ∧ z1 ≤ 3
  case neg =>
    refine Go_ald0 dX12_free_0 ?_
    refine Go_iconst dX12_free_1 ?_
    refine pf11_0 dX12_free_2 flX12_59 (by first | assumption | rfl) ?_
    refine Go_ild1 dX12_free_5 ?_
    refine Go_iconst dX12_free_6 ?_
    refine Go_iconst dX12_free_7 ?_
    refine Go_cS3 (d' := 0) (bc' := 0) (bs' := 0) rfl dX12_free_8 msX12_within rfl lkX12_62 (by decide) (by decide) (by decide) (Nat.le_of_ble_eq_true rfl) ?_
    refine e_X12_within h1 (by constructor <;> omega) (by constructor <;> omega) ?_
    refine Go_ifb_ne (tgt := 20) dX12_free_11 (by decide)  (fun h11 => by omega) (fun h11 => ?_)
    refine Go_ald0 dX12_free_14 ?_
    refine Go_iconst dX12_free_15 ?_
    refine Go_cV1 (d' := 0) (bc' := 0) (bs' := 0) rfl dX12_free_16 mvX12_fails rfl lkX12_78 (by first | assumption | rfl) rfl trivial (by decide) (by decide) (by decide) (Nat.le_of_ble_eq_true rfl) ?_
    refine e_X12_fails ?_
    refine Go_ireturn dX12_free_19 rfl (by first | rfl | decide | exact nar_b | simp [narrow]) ?_
    exact x1 _ h11 (MX_fail h)
  refine Go_ald0 dX12_free_0 ?_
  refine Go_iconst dX12_free_1 ?_
  refine pf11_0 dX12_free_2 flX12_59 (by first | assumption | rfl) ?_
  refine Go_ild1 dX12_free_5 ?_
  refine Go_iconst dX12_free_6 ?_
  refine Go_iconst dX12_free_7 ?_
  refine Go_cS3 (d' := 0) (bc' := 0) (bs' := 0) rfl dX12_free_8 msX12_within rfl lkX12_62 (by decide) (by decide) (by decide) (Nat.le_of_ble_eq_true rfl) ?_
  refine e_X12_within h1 (by constructor <;> omega) (by constructor <;> omega) ?_
  refine Go_ifb_ne (tgt := 20) dX12_free_11 (by decide)  (fun h11 => ?_) (fun h11 => by omega)
  refine Go_ald0 dX12_free_20 ?_
  refine Go_cVv0 (d' := 1) (bc' := 0) (bs' := 0) rfl dX12_free_21 mvX12_lay rfl lkX12_114 (by first | assumption | rfl) rfl trivial (by decide) (by decide) (by decide) (Nat.le_of_ble_eq_true rfl) ?_
  refine e_X12_lay hm.1 (fun w1 m1 f1 => ?_)
  have o := mq_lay (s := s) (sv := sv) (g := g) (tx := tx) f1
  refine Go_ald0 dX12_free_24 ?_
  refine Go_cVv0 (d' := 4) (bc' := 0) (bs' := 0) rfl dX12_free_25 mvX12_findRegions rfl lkX12_203 (by first | assumption | rfl) rfl trivial (by decide) (by decide) (by decide) (Nat.le_of_ble_eq_true rfl) ?_
  refine e_X12_findRegions m1 h5 (fun w2 g2 f2 => ?_)
  have o2 := o.1.trans f2.mfr
  have mx := MX_q h o2 (by rw [f2.t0]; exact o.2)
  have m2 : MK (w2 74) (w2 75) s.1 := by rw [f2.1 74 (by decide), f2.1 75 (by decide)]; exact m1
  have hs := mx.1.1
  have c : z1 = 0 ∨ z1 = 1 ∨ z1 = 2 ∨ z1 = 3 := by omega
  rcases c with rfl | rfl | rfl | rfl
  · skip
    refine Go_ild1 dX12_free_28 ?_
    refine Go_iconst dX12_free_29 ?_
    refine Go_icmp_ge (tgt := 61) dX12_free_30 (by decide) (by constructor <;> omega) (by constructor <;> omega) (fun h30 => by omega) (fun h30 => ?_)
    refine Go_ild1 dX12_free_33 ?_
    refine Go_if_ne (tgt := 44) dX12_free_34 (by decide) (by constructor <;> omega) (fun h34 => by omega) (fun h34 => ?_)
    refine Go_ald0 dX12_free_37 ?_
    refine Go_cV0 (d' := 0) (bc' := 0) (bs' := 0) rfl dX12_free_38 mvX12_freeSites rfl lkX12_206 (by first | assumption | rfl) rfl trivial (by decide) (by decide) (by decide) (Nat.le_of_ble_eq_true rfl) ?_
    refine e_X12_freeSites m2 h5 h.1.1 ?_
    refine Go_goto (tgt := 60) dX12_free_41 (by decide) ?_
    refine Go_ireturn dX12_free_60 rfl (by first | rfl | decide | exact nar_b | simp [narrow]) ?_
    exact k _ h11.1 h11.2 mx
  · skip
    refine Go_ild1 dX12_free_28 ?_
    refine Go_iconst dX12_free_29 ?_
    refine Go_icmp_ge (tgt := 61) dX12_free_30 (by decide) (by constructor <;> omega) (by constructor <;> omega) (fun h30 => by omega) (fun h30 => ?_)
    refine Go_ild1 dX12_free_33 ?_
    refine Go_if_ne (tgt := 44) dX12_free_34 (by decide) (by constructor <;> omega) (fun h34 => ?_) (fun h34 => by omega)
    refine Go_ild1 dX12_free_44 ?_
    refine Go_iconst dX12_free_45 ?_
    refine Go_icmp_ne (tgt := 56) dX12_free_46 (by decide) (by constructor <;> omega) (by constructor <;> omega) (fun h46 => by omega) (fun h46 => ?_)
    refine Go_ald0 dX12_free_49 ?_
    refine gf11_12 dX12_free_50 flX12_90 (by first | assumption | rfl) ?_
    refine Go_goto (tgt := 60) dX12_free_53 (by decide) ?_
    refine Go_ireturn dX12_free_60 rfl (by first | rfl | decide | exact nar_b | simp [narrow]) ?_
    exact kI g2.2.1 (k _ h11.1 h11.2 mx)
  · skip
    refine Go_ild1 dX12_free_28 ?_
    refine Go_iconst dX12_free_29 ?_
    refine Go_icmp_ge (tgt := 61) dX12_free_30 (by decide) (by constructor <;> omega) (by constructor <;> omega) (fun h30 => by omega) (fun h30 => ?_)
    refine Go_ild1 dX12_free_33 ?_
    refine Go_if_ne (tgt := 44) dX12_free_34 (by decide) (by constructor <;> omega) (fun h34 => ?_) (fun h34 => by omega)
    refine Go_ild1 dX12_free_44 ?_
    refine Go_iconst dX12_free_45 ?_
    refine Go_icmp_ne (tgt := 56) dX12_free_46 (by decide) (by constructor <;> omega) (by constructor <;> omega) (fun h46 => ?_) (fun h46 => by omega)
    refine Go_ald0 dX12_free_56 ?_
    refine Go_cV0 (d' := 0) (bc' := 0) (bs' := 0) rfl dX12_free_57 mvX12_greatestRegion rfl lkX12_209 (by first | assumption | rfl) rfl trivial (by decide) (by decide) (by decide) (Nat.le_of_ble_eq_true rfl) ?_
    refine e_X12_greatestRegion g2 n1 ?_
    refine Go_ireturn dX12_free_60 rfl (by first | rfl | decide | exact nar_b | simp [narrow]) ?_
    exact k _ h11.1 h11.2 mx
  · have k9 := k w2 h11.1 h11.2 mx
    rw [if_neg (by decide), if_neg (by decide), if_neg (by decide)] at k9
    refine Go_ild1 dX12_free_28 ?_
    refine Go_iconst dX12_free_29 ?_
    refine Go_icmp_ge (tgt := 61) dX12_free_30 (by decide) (by constructor <;> omega) (by constructor <;> omega) (fun h30 => ?_) (fun h30 => by omega)
    refine Go_iconst dX12_free_61 ?_
    refine Go_ist2 dX12_free_62 rfl ?_
    refine Go_iconst dX12_free_63 ?_
    refine Go_ist3 dX12_free_64 rfl ?_
    refine Go_upTo (n := rgN s.1) (L := fun i => [some (vr 68), some (vi 3), some (vi (smF (fun i => if hdB s.1 (rgR s.1) s.1.length i = true then 1 else 0) i)), some (vi (i : Int))]) (P := fun i v => v = w2) (by repeat' (first | exact Or.inl rfl | exact Or.inr rfl | exact Or.inr (lcg (by omega)) | exact trivial | constructor)) (rfl) (fun i v hi hP kn => ?_) (fun v hP => ?_)
    · try dsimp only at hP kn
      try dsimp only
      subst hP
      have e : smF (fun i => if hdB s.1 (rgR s.1) s.1.length i = true then (1 : Int) else 0) (i + 1) = smF (fun i => if hdB s.1 (rgR s.1) s.1.length i = true then (1 : Int) else 0) i + (if hdB s.1 (rgR s.1) s.1.length i = true then 1 else 0) := rfl
      refine Go_ild3 dX12_free_65 ?_
      refine Go_ald0 dX12_free_66 ?_
      refine gf11_12 dX12_free_67 flX12_90 (by first | assumption | rfl) ?_
      rw [g2.2.1]
      refine Go_icmp_ge (tgt := 95) dX12_free_70 (by decide) (by constructor <;> omega) (by constructor <;> omega) (fun h70 => by omega) (fun h70 => ?_)
      refine Go_ild2 dX12_free_73 ?_
      refine Go_ald0 dX12_free_74 ?_
      refine Go_ild3 dX12_free_75 ?_
      refine Go_cV1 (d' := 3) (bc' := 0) (bs' := 0) rfl dX12_free_76 mvX12_isBesideHead rfl lkX12_212 (by first | assumption | rfl) rfl trivial (by decide) (by decide) (by decide) (Nat.le_of_ble_eq_true rfl) ?_
      refine e_X12_isBesideHead (r := rgR s.1) hs (fun t ht => ⟨g2.1 t ht, rgR_b s.1 t⟩) (by omega) ?_
      refine Go_ifb_eq (tgt := 86) dX12_free_79 (by decide)  (fun h79 => ?_) (fun h79 => ?_)
      · refine Go_iconst dX12_free_86 ?_
        refine Go_iadd dX12_free_87 ?_
        refine Go_ist2 dX12_free_88 rfl ?_
        refine Go_inc3 dX12_free_89 rfl ?_
        refine Go_goto (tgt := 65) dX12_free_92 (by decide) ?_
        refine Go_forget (ls' := _) ?_ (kn _ rfl)
        first | rw [if_pos h79] at e | rw [if_neg h79] at e
        rw [e]
        exact (by repeat' (first | exact Or.inl rfl | exact Or.inr rfl | exact Or.inr (lcg (by omega)) | exact trivial | constructor))
      · refine Go_iconst dX12_free_82 ?_
        refine Go_goto (tgt := 87) dX12_free_83 (by decide) ?_
        refine Go_iadd dX12_free_87 ?_
        refine Go_ist2 dX12_free_88 rfl ?_
        refine Go_inc3 dX12_free_89 rfl ?_
        refine Go_goto (tgt := 65) dX12_free_92 (by decide) ?_
        refine Go_forget (ls' := _) ?_ (kn _ rfl)
        first | rw [if_pos h79] at e | rw [if_neg h79] at e
        rw [e]
        exact (by repeat' (first | exact Or.inl rfl | exact Or.inr rfl | exact Or.inr (lcg (by omega)) | exact trivial | constructor))
    · try dsimp only at hP
      try dsimp only
      subst hP
      refine Go_ild3 dX12_free_65 ?_
      refine Go_ald0 dX12_free_66 ?_
      refine gf11_12 dX12_free_67 flX12_90 (by first | assumption | rfl) ?_
      rw [g2.2.1]
      refine Go_icmp_ge (tgt := 95) dX12_free_70 (by decide) (by constructor <;> omega) (by constructor <;> omega) (fun h70 => ?_) (fun h70 => by omega)
      refine Go_ild2 dX12_free_95 ?_
      refine Go_ireturn dX12_free_96 rfl (by first | rfl | decide | exact nar_b | simp [narrow]) ?_
      exact k9
theorem e_X12_reach (h : MInv w s sv g tx) (h1 : inR z1)
    (k : ∀ w' (p : Nat), z1 = p → p < s.1.length → MX w w' 0 s sv g tx → K (vi (smF (fun i => if bsd (rgR s.1) (hdL (pth s.1 p)) i = true then cntF (rgR s.1) i else 0) (rgN s.1))) none w')
    (x1 : ∀ w', ¬ (0 ≤ z1 ∧ z1 < s.1.length) → MX w w' 1 s sv g tx → K (vi 0) none w') : Ev G yX12_reach cX12_reach 4 mX12_reach none 5 0 0 [vr 68, vi z1] w K X := by
  have hm := thr0.MInv h
  have h5 := h.1.1.1
  have n1 := (rg_ok s.1).2
  refine Ev_intro mvX12_reach.1 rfl (fun h => by cases h) (allc1 rfl) (Nat.le_of_ble_eq_true rfl) (Or.inl rfl) ?_
  show Go G cX12_reach mX12_reach none 5 0 0 0 [some (vr 68), some (vi z1), none, none] [] w K X
  by_cases c0 : 0 ≤ z1 ∧ z1 < s.1.length
  case neg =>
    refine Go_ald0 dX12_reach_0 ?_
    refine Go_iconst dX12_reach_1 ?_
    refine pf11_0 dX12_reach_2 flX12_59 (by first | assumption | rfl) ?_
    refine Go_ald0 dX12_reach_5 ?_
    refine Go_ild1 dX12_reach_6 ?_
    refine Go_cV1 (d' := 1) (bc' := 0) (bs' := 0) rfl dX12_reach_7 mvX12_isPath rfl lkX12_66 (by first | assumption | rfl) rfl trivial (by decide) (by decide) (by decide) (Nat.le_of_ble_eq_true rfl) ?_
    refine e_X12_isPath hm.1 h1 ?_
    refine Go_ifb_ne (tgt := 19) dX12_reach_10 (by decide)  (fun h10 => by omega) (fun h10 => ?_)
    refine Go_ald0 dX12_reach_13 ?_
    refine Go_iconst dX12_reach_14 ?_
    refine Go_cV1 (d' := 0) (bc' := 0) (bs' := 0) rfl dX12_reach_15 mvX12_fails rfl lkX12_78 (by first | assumption | rfl) rfl trivial (by decide) (by decide) (by decide) (Nat.le_of_ble_eq_true rfl) ?_
    refine e_X12_fails ?_
    refine Go_ireturn dX12_reach_18 rfl (by first | rfl | decide | exact nar_b | simp [narrow]) ?_
    exact x1 _ c0 (MX_fail h)
  refine Go_ald0 dX12_reach_0 ?_
  refine Go_iconst dX12_reach_1 ?_
  refine pf11_0 dX12_reach_2 flX12_59 (by first | assumption | rfl) ?_
  refine Go_ald0 dX12_reach_5 ?_
  refine Go_ild1 dX12_reach_6 ?_
  refine Go_cV1 (d' := 1) (bc' := 0) (bs' := 0) rfl dX12_reach_7 mvX12_isPath rfl lkX12_66 (by first | assumption | rfl) rfl trivial (by decide) (by decide) (by decide) (Nat.le_of_ble_eq_true rfl) ?_
  refine e_X12_isPath hm.1 h1 ?_
  refine Go_ifb_ne (tgt := 19) dX12_reach_10 (by decide)  (fun h10 => ?_) (fun h10 => by omega)
  refine Go_ald0 dX12_reach_19 ?_
  refine Go_cVv0 (d' := 1) (bc' := 0) (bs' := 0) rfl dX12_reach_20 mvX12_lay rfl lkX12_114 (by first | assumption | rfl) rfl trivial (by decide) (by decide) (by decide) (Nat.le_of_ble_eq_true rfl) ?_
  refine e_X12_lay hm.1 (fun w1 m1 f1 => ?_)
  have o := mq_lay (s := s) (sv := sv) (g := g) (tx := tx) f1
  obtain ⟨p, rfl⟩ := Int.eq_ofNat_of_zero_le h10.1
  have hp : p < s.1.length := by omega
  have hh : hdL (pth s.1 p) < 100 := (h.1.1.lt p).at _
  refine Go_ald0 dX12_reach_23 ?_
  refine Go_cVv0 (d' := 4) (bc' := 0) (bs' := 0) rfl dX12_reach_24 mvX12_findRegions rfl lkX12_203 (by first | assumption | rfl) rfl trivial (by decide) (by decide) (by decide) (Nat.le_of_ble_eq_true rfl) ?_
  refine e_X12_findRegions m1 h5 (fun w2 g2 f2 => ?_)
  have o2 := o.1.trans f2.mfr
  have mx := MX_q h o2 (by rw [f2.t0]; exact o.2)
  have hs := mx.1.1
  refine Go_iconst dX12_reach_27 ?_
  refine Go_ist2 dX12_reach_28 rfl ?_
  refine Go_iconst dX12_reach_29 ?_
  refine Go_ist3 dX12_reach_30 rfl ?_
  refine Go_upTo (n := rgN s.1) (L := fun i => [some (vr 68), some (vi (p : Int)), some (vi (smF (fun i => if bsd (rgR s.1) (hdL (pth s.1 p)) i = true then cntF (rgR s.1) i else 0) i)), some (vi (i : Int))]) (P := fun i v => v = w2) (by repeat' (first | exact Or.inl rfl | exact Or.inr rfl | exact Or.inr (lcg (by omega)) | exact trivial | constructor)) (rfl) (fun i v hi hP kn => ?_) (fun v hP => ?_)
  · try dsimp only at hP kn
    try dsimp only
    subst hP
    have e : smF (fun i => if bsd (rgR s.1) (hdL (pth s.1 p)) i = true then cntF (rgR s.1) i else (0 : Int)) (i + 1) = smF (fun i => if bsd (rgR s.1) (hdL (pth s.1 p)) i = true then cntF (rgR s.1) i else (0 : Int)) i + (if bsd (rgR s.1) (hdL (pth s.1 p)) i = true then cntF (rgR s.1) i else 0) := rfl
    refine Go_ild3 dX12_reach_31 ?_
    refine Go_ald0 dX12_reach_32 ?_
    refine gf11_12 dX12_reach_33 flX12_90 (by first | assumption | rfl) ?_
    rw [g2.2.1]
    refine Go_icmp_ge (tgt := 71) dX12_reach_36 (by decide) (by constructor <;> omega) (by constructor <;> omega) (fun h36 => by omega) (fun h36 => ?_)
    refine Go_ild2 dX12_reach_39 ?_
    refine Go_ald0 dX12_reach_40 ?_
    refine Go_ald0 dX12_reach_41 ?_
    refine Go_ild1 dX12_reach_42 ?_
    refine Go_cV1 (d' := 1) (bc' := 0) (bs' := 0) rfl dX12_reach_43 mvX12_headOf rfl lkX12_121 (by first | assumption | rfl) rfl trivial (by decide) (by decide) (by decide) (Nat.le_of_ble_eq_true rfl) ?_
    refine e_X12_headOf hs hp ?_
    refine Go_ild3 dX12_reach_46 ?_
    refine Go_cV2 (d' := 2) (bc' := 0) (bs' := 0) rfl dX12_reach_47 mvX12_isBeside rfl lkX12_97 (by first | assumption | rfl) rfl trivial (by decide) (by decide) (by decide) (Nat.le_of_ble_eq_true rfl) ?_
    refine e_X12_isBeside (r := rgR s.1) hh (fun t ht => ⟨g2.1 t ht, rgR_b s.1 t⟩) (by omega) ?_
    refine Go_ifb_eq (tgt := 62) dX12_reach_50 (by decide)  (fun h50 => ?_) (fun h50 => ?_)
    · refine Go_iconst dX12_reach_62 ?_
      refine Go_iadd dX12_reach_63 ?_
      refine Go_ist2 dX12_reach_64 rfl ?_
      refine Go_inc3 dX12_reach_65 rfl ?_
      refine Go_goto (tgt := 31) dX12_reach_68 (by decide) ?_
      refine Go_forget (ls' := _) ?_ (kn _ rfl)
      first | rw [if_pos h50] at e | rw [if_neg h50] at e
      rw [e]
      exact (by repeat' (first | exact Or.inl rfl | exact Or.inr rfl | exact Or.inr (lcg (by omega)) | exact trivial | constructor))
    · refine Go_ald0 dX12_reach_53 ?_
      refine gf11_11 dX12_reach_54 flX12_34 ?_
      refine Go_ild3 dX12_reach_57 ?_
      refine Go_iald dX12_reach_58 (by first | assumption | rfl) trivial (by omega) (by omega) (by decide) ?_
      rw [Int.toNat_natCast, g2.2.2 i hi]
      refine Go_goto (tgt := 63) dX12_reach_59 (by decide) ?_
      refine Go_iadd dX12_reach_63 ?_
      refine Go_ist2 dX12_reach_64 rfl ?_
      refine Go_inc3 dX12_reach_65 rfl ?_
      refine Go_goto (tgt := 31) dX12_reach_68 (by decide) ?_
      refine Go_forget (ls' := _) ?_ (kn _ rfl)
      first | rw [if_pos h50] at e | rw [if_neg h50] at e
      rw [e]
      exact (by repeat' (first | exact Or.inl rfl | exact Or.inr rfl | exact Or.inr (lcg (by omega)) | exact trivial | constructor))
  · try dsimp only at hP
    try dsimp only
    subst hP
    refine Go_ild3 dX12_reach_31 ?_
    refine Go_ald0 dX12_reach_32 ?_
    refine gf11_12 dX12_reach_33 flX12_90 (by first | assumption | rfl) ?_
    rw [g2.2.1]
    refine Go_icmp_ge (tgt := 71) dX12_reach_36 (by decide) (by constructor <;> omega) (by constructor <;> omega) (fun h36 => ?_) (fun h36 => by omega)
    refine Go_ild2 dX12_reach_71 ?_
    refine Go_ireturn dX12_reach_72 rfl (by first | rfl | decide | exact nar_b | simp [narrow]) ?_
    exact k _ p rfl hp mx
end Model9
