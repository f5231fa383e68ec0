/-- the direction to a neighbour, -1 if it is none -/
def dmI (a b : Int) : Int := if nbI a 0 = b then 0 else if nbI a 1 = b then 1 else if nbI a 2 = b then 2 else if nbI a 3 = b then 3 else -1
theorem dmI_in (a b : Int) : -1 ≤ dmI a b ∧ dmI a b < 4 := by unfold dmI; repeat' split; all_goals omega
theorem dmI_nbr (a b : Nat) : dmI a b ≠ -1 ↔ nbr a b := by
  constructor
  · intro h
    unfold dmI at h
    by_cases c0 : nbI a 0 = b
    · exact ⟨0, by omega, c0⟩
    · by_cases c1 : nbI a 1 = b
      · exact ⟨1, by omega, c1⟩
      · by_cases c2 : nbI a 2 = b
        · exact ⟨2, by omega, c2⟩
        · by_cases c3 : nbI a 3 = b
          · exact ⟨3, by omega, c3⟩
          · rw [if_neg c0, if_neg c1, if_neg c2, if_neg c3] at h
            exact absurd rfl h
  · rintro ⟨d, hd, e⟩ h
    unfold dmI at h
    have c : d = 0 ∨ d = 1 ∨ d = 2 ∨ d = 3 := by omega
    have e' : nbI (a : Int) (d : Int) = b := e
    rcases c with rfl | rfl | rfl | rfl
    · rw [if_pos (show nbI (a : Int) 0 = b from e')] at h; omega
    · split at h
      · omega
      · rw [if_pos (show nbI (a : Int) 1 = b from e')] at h; omega
    · repeat' split at h
      all_goals first | omega | (rename_i q _; exact q (show nbI (a : Int) 2 = b from e'))
    · repeat' split at h
      all_goals first | omega | (rename_i q; exact q (show nbI (a : Int) 3 = b from e'))
theorem dmI_dir {a b : Nat} (h : nbr a b) : dmI a b = dirI a b := by
  have := (dmI_nbr a b).mpr h
  unfold dmI at this ⊢
  unfold dirI
  repeat' split at this
  all_goals first | rfl | omega | skip
/-! SUMS: what each side counts -/
theorem smF_zero : ∀ (n : Nat), smF (fun _ => 0) n = 0
  | 0 => rfl
  | n + 1 => by show smF (fun _ => 0) n + 0 = 0; rw [smF_zero n]; rfl
theorem smF_add {f g : Nat → Int} : ∀ (n : Nat), smF (fun j => f j + g j) n = smF f n + smF g n
  | 0 => rfl
  | n + 1 => by show smF (fun j => f j + g j) n + (f n + g n) = smF f n + f n + (smF g n + g n); rw [smF_add n]; omega
theorem smF_swap {f : Nat → Nat → Int} : ∀ (n m : Nat), smF (fun i => smF (f i) m) n = smF (fun j => smF (fun i => f i j) n) m
  | 0, m => (smF_zero m).symm
  | n + 1, m => by
    show smF (fun i => smF (f i) m) n + smF (f n) m = smF (fun j => smF (fun i => f i j) n + f n j) m
    rw [smF_swap n m, smF_add]
/-- one place of a sum alone counts -/
theorem smF_one {f : Nat → Int} {j : Nat} : ∀ {n : Nat}, (∀ i, i < n → i ≠ j → f i = 0) → smF f n = if j < n then f j else 0
  | 0, _ => rfl
  | n + 1, h => by
    show smF f n + f n = _
    have ih := smF_one (f := f) (j := j) (n := n) (fun i hi => h i (by omega))
    rw [ih]
    by_cases c : j = n
    · subst c; rw [if_neg (by omega), if_pos (by omega)]; omega
    · rw [h n (by omega) (fun e => c e.symm)]
      by_cases c2 : j < n
      · rw [if_pos c2, if_pos (by omega)]; omega
      · rw [if_neg c2, if_neg (by omega)]; rfl
theorem smF_none {f : Nat → Int} {n : Nat} (h : ∀ i, i < n → f i = 0) : smF f n = 0 := by
  rw [smF_congr (g := fun _ => 0) h, smF_zero]
/-- where a site is in a path, counted over the path's places -/
theorem cnt_at {l : List Nat} (h : l.Nodup) (z : Int) (c : Nat → Bool) : smF (fun e => if z = (l.getD e 0 : Int) ∧ c e = true then 1 else 0) l.length = if (0 ≤ z ∧ z.toNat ∈ l) ∧ c (l.idxOf z.toNat) = true then 1 else 0 := by
  by_cases q : 0 ≤ z ∧ z.toNat ∈ l
  · have g := getD_idx q.2
    rw [smF_one (j := l.idxOf z.toNat) (fun i hi hne => ?_), if_pos g.2]
    · by_cases c1 : c (l.idxOf z.toNat) = true
      · rw [if_pos ⟨by rw [g.1]; omega, c1⟩, if_pos ⟨q, c1⟩]
      · rw [if_neg (fun x => c1 x.2), if_neg (fun x => c1 x.2)]
    · rw [if_neg]
      intro x
      refine hne (ndI h hi g.2 ?_)
      rw [g.1]
      omega
  · rw [if_neg (fun x => q x.1)]
    refine smF_none (fun i hi => ?_)
    rw [if_neg]
    intro x
    refine q ⟨by omega, ?_⟩
    rw [x.1, Int.toNat_natCast]
    exact getD_mem hi
theorem owI_iff {ps : List (List Nat)} (h : OKp ps) {p : Nat} (z : Int) (hz : z < 100) : owI ps z = p ↔ 0 ≤ z ∧ z.toNat ∈ pth ps p := by
  unfold owI
  by_cases q : 0 ≤ z
  · rw [if_pos ⟨q, hz⟩]
    constructor
    · intro e
      rcases ow_cases h.nd z.toNat with ⟨-, c, -⟩ | ⟨p', hp', c1, c2, -⟩
      · omega
      · have : p' = p := by omega
        subst this
        exact ⟨q, c1⟩
    · intro e; exact (ow_of h.nd e.2).1
  · rw [if_neg (by omega)]
    constructor
    · intro e; omega
    · intro e; exact absurd e.1 q
/-- two directions lead to two sites -/
theorem nb_inj {a : Nat} {d e : Nat} (ha : a < 100) (hd : d < 4) (he : e < 4) (h : nbI a d = nbI a e) (h0 : 0 ≤ nbI a d) : d = e := by
  have key : ∀ a : Nat, a < 100 → ∀ d : Nat, d < 4 → ∀ e : Nat, e < 4 → nbI (a : Int) (d : Int) = nbI (a : Int) (e : Int) → 0 ≤ nbI (a : Int) (d : Int) → d = e := by decide +kernel
  exact key a ha d hd e he h h0
theorem cnt_dir {a b : Nat} (ha : a < 100) : smF (fun d => if nbI a (d : Int) = (b : Int) then 1 else 0) 4 = if dmI a b ≠ -1 then 1 else 0 := by
  have dn := dmI_nbr a b
  by_cases q : nbr a b
  · rw [if_pos (dn.mpr q)]
    obtain ⟨d, hd, e⟩ := q
    rw [smF_one (j := d) (fun i hi hne => ?_), if_pos hd, if_pos e]
    rw [if_neg]
    intro x
    exact hne (nb_inj ha hi hd (by rw [x, e]) (by rw [x]; omega))
  · rw [if_neg (fun z => q (dn.mp z))]
    refine smF_none (fun i hi => ?_)
    rw [if_neg]
    intro x
    exact q ⟨i, hi, x⟩
/-- the neighbours of a site in a path, counted over the path -/
theorem nbN_cnt {ps : List (List Nat)} (h : OKp ps) {x o : Nat} (hx : x < 100) : nbN ps x o = smF (fun e => if dmI x ((pth ps o).getD e 0) ≠ -1 then 1 else 0) (pth ps o).length := by
  have hn := (h.nd o).1
  have e1 : nbN ps x o = smF (fun d => smF (fun e => if nbI x (d : Int) = ((pth ps o).getD e 0 : Int) then 1 else 0) (pth ps o).length) 4 := by
    unfold nbN
    refine smF_congr (fun d hd => ?_)
    have c := cnt_at hn (nbI x d) (fun _ => true)
    have e2 : smF (fun e => if nbI x (d : Int) = ((pth ps o).getD e 0 : Int) then 1 else 0) (pth ps o).length = smF (fun e => if nbI x (d : Int) = ((pth ps o).getD e 0 : Int) ∧ (fun _ : Nat => true) e = true then 1 else 0) (pth ps o).length := smF_congr (fun e _ => by simp)
    rw [e2, c]
    unfold nbF
    have oi := owI_iff h (p := o) (nbI x d) (nbI_in x d).2
    by_cases q : owI ps (nbI x d) = o
    · rw [if_pos q, if_pos ⟨oi.mp q, rfl⟩]
    · rw [if_neg q, if_neg (fun z => q (oi.mpr z.1))]
  rw [e1, smF_swap]
  refine smF_congr (fun e he => ?_)
  exact cnt_dir hx
/-- a step right or down -/
abbrev rd (a b : Nat) : Prop := nbI a 1 = (b : Int) ∨ nbI a 2 = (b : Int)
theorem rd_nbr {a b : Nat} (ha : a < 100) (hb : b < 100) : (nbr a b ↔ rd a b ∨ rd b a) ∧ ¬ (rd a b ∧ rd b a) := by
  have e1 : ∀ a : Nat, nbI (a : Int) 1 = numI ((a : Int) % 10 + 1) ((a : Int) / 10 + 0) := fun a => rfl
  have e2 : ∀ a : Nat, nbI (a : Int) 2 = numI ((a : Int) % 10 + 0) ((a : Int) / 10 + 1) := fun a => rfl
  have c1 : ∀ a b : Nat, a < 100 → b < 100 → (nbI (a : Int) 1 = (b : Int) ↔ a / 10 = b / 10 ∧ b % 10 = a % 10 + 1) := fun a b ha hb => by
    rw [e1]; unfold numI; split <;> constructor <;> intro _ <;> omega
  have c2 : ∀ a b : Nat, a < 100 → b < 100 → (nbI (a : Int) 2 = (b : Int) ↔ a % 10 = b % 10 ∧ b / 10 = a / 10 + 1) := fun a b ha hb => by
    rw [e2]; unfold numI; split <;> constructor <;> intro _ <;> omega
  unfold rd
  rw [nbr_iff ha hb, c1 a b ha hb, c2 a b ha hb, c1 b a hb ha, c2 b a hb ha]
  generalize a / 10 = u
  generalize a % 10 = v
  generalize b / 10 = u'
  generalize b % 10 = v'
  constructor
  · constructor
    · rintro (⟨h1, h2 | h2⟩ | ⟨h1, h2 | h2⟩)
      · exact Or.inr (Or.inr ⟨h1.symm, h2⟩)
      · exact Or.inl (Or.inr ⟨h1, h2⟩)
      · exact Or.inr (Or.inl ⟨h1.symm, h2⟩)
      · exact Or.inl (Or.inl ⟨h1, h2⟩)
    · rintro ((⟨h1, h2⟩ | ⟨h1, h2⟩) | (⟨h1, h2⟩ | ⟨h1, h2⟩))
      · exact Or.inr ⟨h1, Or.inr h2⟩
      · exact Or.inl ⟨h1, Or.inr h2⟩
      · exact Or.inr ⟨h1.symm, Or.inl h2⟩
      · exact Or.inl ⟨h1.symm, Or.inl h2⟩
  · rintro ⟨h1 | h1, h2 | h2⟩ <;> omega
/-- pairs: each place with each, or each with the later ones -/
theorem smF_pairs {f : Nat → Nat → Int} (h0 : ∀ k e : Nat, (k : Int) - e ≤ 1 → (e : Int) - k ≤ 1 → f k e = 0) : ∀ (n : Nat), smF (fun k => smF (f k) n) n = smF (fun k => smF (fun i => f k (k + 2 + i) + f (k + 2 + i) k) (n - (k + 2))) n
  | 0 => rfl
  | n + 1 => by
    have ih := smF_pairs h0 n
    show smF (fun k => smF (f k) n + f k n) n + (smF (f n) n + f n n) = smF (fun k => smF (fun i => f k (k + 2 + i) + f (k + 2 + i) k) (n + 1 - (k + 2))) n + smF (fun i => f n (n + 2 + i) + f (n + 2 + i) n) (n + 1 - (n + 2))
    rw [show n + 1 - (n + 2) = 0 by omega, smF_add, ih, h0 n n (by omega) (by omega)]
    have e : smF (fun k => smF (fun i => f k (k + 2 + i) + f (k + 2 + i) k) (n + 1 - (k + 2))) n = smF (fun k => smF (fun i => f k (k + 2 + i) + f (k + 2 + i) k) (n - (k + 2)) + (f k n + f n k)) n := by
      refine smF_congr (fun k hk => ?_)
      by_cases c : k + 2 ≤ n
      · rw [show n + 1 - (k + 2) = (n - (k + 2)) + 1 by omega]
        show smF _ (n - (k + 2)) + (f k (k + 2 + (n - (k + 2))) + f (k + 2 + (n - (k + 2))) k) = _
        rw [show k + 2 + (n - (k + 2)) = n by omega]
      · rw [show n + 1 - (k + 2) = 0 by omega, show n - (k + 2) = 0 by omega, h0 k n (by omega) (by omega), h0 n k (by omega) (by omega)]
        rfl
    rw [e, smF_add, smF_add]
    show smF _ n + smF (fun k => f k n) n + (smF (fun k => f n k) n + 0) = smF _ n + (smF (fun k => f k n) n + smF (fun k => f n k) n) + 0
    omega
/-- contacts, as the other side counts them -/
theorem cnC_cnt {ps : List (List Nat)} (h : OKp ps) (p : Nat) : cnC ps p = smF (fun k => smF (fun i => if dmI ((pth ps p).getD k 0) ((pth ps p).getD (k + 2 + i) 0) ≠ -1 then 1 else 0) ((pth ps p).length - (k + 2))) (pth ps p).length := by
  have hn := (h.nd p).1
  have hl := h.lt p
  have e1 : cnC ps p = smF (fun k => smF (fun e => if rd ((pth ps p).getD k 0) ((pth ps p).getD e 0) ∧ ((e : Int) - k > 1 ∨ (k : Int) - e > 1) then (1 : Int) else 0) (pth ps p).length) (pth ps p).length := by
    unfold cnC
    refine smF_congr (fun k hk => ?_)
    have one : ∀ d : Nat, cnG ps p k d = smF (fun e => if nbI ((pth ps p).getD k 0) ((d : Int) + 1) = ((pth ps p).getD e 0 : Int) ∧ (fun e : Nat => decide ((e : Int) - k > 1 ∨ (k : Int) - e > 1)) e = true then 1 else 0) (pth ps p).length := fun d => by
      rw [cnt_at hn]
      have b := nbI_in ((pth ps p).getD k 0) ((d : Int) + 1)
      have oi := owI_iff h (p := p) (nbI ((pth ps p).getD k 0) ((d : Int) + 1)) b.2
      unfold cnG
      by_cases q : owI ps (nbI ((pth ps p).getD k 0) ((d : Int) + 1)) = p
      · have m := oi.mp q
        have pe : plI ps (nbI ((pth ps p).getD k 0) ((d : Int) + 1)) = (((pth ps p).idxOf (nbI ((pth ps p).getD k 0) ((d : Int) + 1)).toNat : Nat) : Int) := by
          unfold plI
          rw [if_pos ⟨m.1, b.2⟩]
          exact (ow_of h.nd m.2).2
        rw [pe]
        by_cases c : ((((pth ps p).idxOf (nbI ((pth ps p).getD k 0) ((d : Int) + 1)).toNat : Nat) : Int) - k > 1 ∨ (k : Int) - (((pth ps p).idxOf (nbI ((pth ps p).getD k 0) ((d : Int) + 1)).toNat : Nat) : Int) > 1)
        · rw [if_pos ⟨q, c⟩, if_pos ⟨m, decide_eq_true c⟩]
        · rw [if_neg (fun z => c z.2), if_neg (fun z => c (of_decide_eq_true z.2))]
      · rw [if_neg (fun z => q z.1), if_neg (fun z => q (oi.mpr z.1))]
    show smF (cnG ps p k) 2 = _
    have two : smF (cnG ps p k) 2 = cnG ps p k 0 + cnG ps p k 1 := by show (0 : Int) + cnG ps p k 0 + cnG ps p k 1 = _; omega
    rw [two, one 0, one 1, ← smF_add]
    refine smF_congr (fun e he => ?_)
    have x1 : nbI ((pth ps p).getD k 0 : Int) (((0 : Nat) : Int) + 1) = nbI ((pth ps p).getD k 0 : Int) 1 := rfl
    have x2 : nbI ((pth ps p).getD k 0 : Int) (((1 : Nat) : Int) + 1) = nbI ((pth ps p).getD k 0 : Int) 2 := rfl
    rw [x1, x2]
    simp only [decide_eq_true_eq]
    have nb : ¬ (nbI ((pth ps p).getD k 0 : Int) 1 = ((pth ps p).getD e 0 : Int) ∧ nbI ((pth ps p).getD k 0 : Int) 2 = ((pth ps p).getD e 0 : Int)) := fun z => by
      have := nb_inj (a := (pth ps p).getD k 0) (d := 1) (e := 2) (hl.at k) (by omega) (by omega) (z.1.trans z.2.symm) (by show 0 ≤ nbI ((pth ps p).getD k 0 : Int) 1; rw [z.1]; omega)
      omega
    unfold rd
    by_cases c : (e : Int) - k > 1 ∨ (k : Int) - e > 1
    · by_cases a1 : nbI ((pth ps p).getD k 0 : Int) 1 = ((pth ps p).getD e 0 : Int)
      · rw [if_pos ⟨a1, c⟩, if_neg (fun z => nb ⟨a1, z.1⟩), if_pos ⟨Or.inl a1, c⟩]; rfl
      · rw [if_neg (fun z => a1 z.1)]
        by_cases a2 : nbI ((pth ps p).getD k 0 : Int) 2 = ((pth ps p).getD e 0 : Int)
        · rw [if_pos ⟨a2, c⟩, if_pos ⟨Or.inr a2, c⟩]; rfl
        · rw [if_neg (fun z => a2 z.1), if_neg (fun z => z.1.elim a1 a2)]; rfl
    · rw [if_neg (fun z => c z.2), if_neg (fun z => c z.2), if_neg (fun z => c z.2)]; rfl
  rw [e1, smF_pairs (f := fun k e => if rd ((pth ps p).getD k 0) ((pth ps p).getD e 0) ∧ ((e : Int) - k > 1 ∨ (k : Int) - e > 1) then (1 : Int) else 0) (fun k e c1 c2 => if_neg (fun z => by omega))]
  refine smF_congr (fun k hk => smF_congr (fun i hi => ?_))
  have r := rd_nbr (hl.at k) (hl.at (k + 2 + i))
  have dn := dmI_nbr ((pth ps p).getD k 0) ((pth ps p).getD (k + 2 + i) 0)
  by_cases a1 : rd ((pth ps p).getD k 0) ((pth ps p).getD (k + 2 + i) 0)
  · rw [if_pos ⟨a1, by omega⟩, if_neg (fun z => r.2 ⟨a1, z.1⟩), if_pos (dn.mpr (r.1.mpr (Or.inl a1)))]; rfl
  · rw [if_neg (fun z => a1 z.1)]
    by_cases a2 : rd ((pth ps p).getD (k + 2 + i) 0) ((pth ps p).getD k 0)
    · rw [if_pos ⟨a2, by omega⟩, if_pos (dn.mpr (r.1.mpr (Or.inr a2)))]; rfl
    · rw [if_neg (fun z => a2 z.1), if_neg (fun z => (r.1.mp (dn.mp z)).elim a1 a2)]; rfl
/-! what the law's loops count -/
theorem smF_later {g : Nat → Nat → Int} : ∀ (n : Nat), smF (fun k => smF (fun i => g k (k + 2 + i)) (n - (k + 2))) n = smF (fun k => smF (fun e => if e + 1 < k then g e k else 0) k) n
  | 0 => rfl
  | n + 1 => by
    have ih := smF_later (g := g) n
    show smF (fun k => smF (fun i => g k (k + 2 + i)) (n + 1 - (k + 2))) n + smF (fun i => g n (n + 2 + i)) (n + 1 - (n + 2)) = smF (fun k => smF (fun e => if e + 1 < k then g e k else 0) k) n + smF (fun e => if e + 1 < n then g e n else 0) n
    rw [show n + 1 - (n + 2) = 0 by omega, ← ih]
    have e : smF (fun k => smF (fun i => g k (k + 2 + i)) (n + 1 - (k + 2))) n = smF (fun k => smF (fun i => g k (k + 2 + i)) (n - (k + 2)) + (if k + 1 < n then g k n else 0)) n := by
      refine smF_congr (fun k hk => ?_)
      by_cases c : k + 1 < n
      · rw [if_pos c, show n + 1 - (k + 2) = (n - (k + 2)) + 1 by omega]
        show smF _ (n - (k + 2)) + g k (k + 2 + (n - (k + 2))) = _
        rw [show k + 2 + (n - (k + 2)) = n by omega]
      · rw [if_neg c, show n + 1 - (k + 2) = n - (k + 2) by omega, Int.add_zero]
    rw [e, smF_add]
    show _ + _ + (0 : Int) = _
    omega
/-- contacts -/
def lcT (l : List Nat) (k e : Nat) : Int := if (e : Int) < (k : Int) - 1 ∧ sqD (l.getD k 0) (l.getD e 0) = 1 then 1 else 0
def lcL (l : List Nat) (n : Nat) : Int := smF (fun k => smF (lcT l k) k) n
theorem sqD_sym (a b : Int) : sqD a b = sqD b a := by
  unfold sqD
  rw [← Int.neg_sub (a % 10) (b % 10), ← Int.neg_sub (a / 10) (b / 10), Int.neg_mul_neg, Int.neg_mul_neg]
theorem lcL_cnC {ps : List (List Nat)} (h : OKp ps) (p : Nat) : lcL (pth ps p) (pth ps p).length = cnC ps p := by
  have hx := h.lt p
  rw [cnC_cnt h, smF_later (g := fun k j => if dmI ((pth ps p).getD k 0) ((pth ps p).getD j 0) ≠ -1 then (1 : Int) else 0)]
  unfold lcL
  refine smF_congr (fun k hk => smF_congr (fun e he => ?_))
  have e1 : sqD ((pth ps p).getD k 0) ((pth ps p).getD e 0) = 1 ↔ dmI ((pth ps p).getD e 0) ((pth ps p).getD k 0) ≠ -1 := by
    rw [sqD_sym, sqD_nbr (hx.at e) (hx.at k), dmI_nbr]
  unfold lcT
  by_cases c : e + 1 < k
  · rw [if_pos c]
    by_cases c2 : sqD ((pth ps p).getD k 0) ((pth ps p).getD e 0) = 1
    · rw [if_pos ⟨by omega, c2⟩, if_pos (e1.mp c2)]
    · rw [if_neg (fun z => c2 z.2), if_neg (fun z => c2 (e1.mpr z))]
  · rw [if_neg c, if_neg (by omega)]
/-- the moment -/
def lmL (l : List Nat) (n : Nat) : Int := smF (fun k => smF (fun e => sqD (l.getD k 0) (l.getD e 0)) k) n
theorem mom_in (c r : Nat → Int) (a b : Int) : ∀ m : Nat, smF (fun e => (a - c e) * (a - c e) + (b - r e) * (b - r e)) m = (m : Int) * (a * a + b * b) - 2 * a * smF c m - 2 * b * smF r m + smF (fun j => c j * c j + r j * r j) m
  | 0 => by
    show (0 : Int) = ((0 : Nat) : Int) * (a * a + b * b) - 2 * a * 0 - 2 * b * 0 + 0
    simp
  | m + 1 => by
    have ih := mom_in c r a b m
    show smF (fun e => (a - c e) * (a - c e) + (b - r e) * (b - r e)) m + ((a - c m) * (a - c m) + (b - r m) * (b - r m)) = ((m + 1 : Nat) : Int) * (a * a + b * b) - 2 * a * (smF c m + c m) - 2 * b * (smF r m + r m) + (smF (fun j => c j * c j + r j * r j) m + (c m * c m + r m * r m))
    rw [ih, Int.natCast_succ]
    generalize smF c m = C
    generalize smF r m = R
    generalize smF (fun j => c j * c j + r j * r j) m = S
    generalize c m = x
    generalize r m = y
    generalize (m : Int) = M
    grind
theorem mom_all (c r : Nat → Int) : ∀ n : Nat, smF (fun k => smF (fun e => (c k - c e) * (c k - c e) + (r k - r e) * (r k - r e)) k) n = (n : Int) * smF (fun j => c j * c j + r j * r j) n - smF c n * smF c n - smF r n * smF r n
  | 0 => by
    show (0 : Int) = ((0 : Nat) : Int) * 0 - 0 * 0 - 0 * 0
    simp
  | n + 1 => by
    have ih := mom_all c r n
    have e := mom_in c r (c n) (r n) n
    show smF (fun k => smF (fun e => (c k - c e) * (c k - c e) + (r k - r e) * (r k - r e)) k) n + smF (fun e => (c n - c e) * (c n - c e) + (r n - r e) * (r n - r e)) n = ((n + 1 : Nat) : Int) * (smF (fun j => c j * c j + r j * r j) n + (c n * c n + r n * r n)) - (smF c n + c n) * (smF c n + c n) - (smF r n + r n) * (smF r n + r n)
    rw [ih, e, Int.natCast_succ]
    generalize smF c n = C
    generalize smF r n = R
    generalize smF (fun j => c j * c j + r j * r j) n = S
    generalize c n = x
    generalize r n = y
    generalize (n : Int) = M
    grind
theorem lmL_momL (l : List Nat) : lmL l l.length = momL l := mom_all (colJ l) (rowJ l) l.length
/-- corners -/
def lkT (l : List Nat) (k : Nat) : Int := if 1 < (k : Int) ∧ (l.getD k 0 : Int) - (l.getD (k - 1) 0 : Int) ≠ (l.getD (k - 1) 0 : Int) - (l.getD (k - 2) 0 : Int) then 1 else 0
theorem smF_shift {f : Nat → Int} : ∀ n : Nat, smF f (n + 1) = f 0 + smF (fun j => f (j + 1)) n
  | 0 => by show (0 : Int) + f 0 = f 0 + 0; omega
  | n + 1 => by
    have ih := smF_shift (f := f) n
    show smF f (n + 1) + f (n + 1) = f 0 + (smF (fun j => f (j + 1)) n + f (n + 1))
    rw [ih]; omega
theorem dir_diff {a b : Nat} (ha : a < 100) (h : nbr a b) : (b : Int) - (a : Int) = [-10, 1, 10, -1].getD (dirI a b).toNat 0 := by
  have g := fun d hd => nbI_go (s := a) (d := d) ha hd
  have g0 := g 0 (by omega)
  have g1 := g 1 (by omega)
  have g2 := g 2 (by omega)
  have g3 := g 3 (by omega)
  have z0 : nbI (a : Int) ((0 : Nat) : Int) = nbI (a : Int) 0 := rfl
  have z1 : nbI (a : Int) ((1 : Nat) : Int) = nbI (a : Int) 1 := rfl
  have z2 : nbI (a : Int) ((2 : Nat) : Int) = nbI (a : Int) 2 := rfl
  have z3 : nbI (a : Int) ((3 : Nat) : Int) = nbI (a : Int) 3 := rfl
  rw [z0, if_pos (by decide)] at g0
  rw [z1, if_neg (by decide), if_pos (by decide)] at g1
  rw [z2, if_neg (by decide), if_neg (by decide), if_pos (by decide)] at g2
  rw [z3, if_neg (by decide), if_neg (by decide), if_neg (by decide)] at g3
  have hn := (dmI_nbr a b).mpr h
  rw [← dmI_dir h]
  unfold dmI at hn ⊢
  by_cases c0 : nbI (a : Int) 0 = b
  · rw [if_pos c0]
    show _ = (-10 : Int)
    split at g0 <;> omega
  · by_cases c1 : nbI (a : Int) 1 = b
    · rw [if_neg c0, if_pos c1]
      show _ = (1 : Int)
      split at g1 <;> omega
    · by_cases c2 : nbI (a : Int) 2 = b
      · rw [if_neg c0, if_neg c1, if_pos c2]
        show _ = (10 : Int)
        split at g2 <;> omega
      · by_cases c3 : nbI (a : Int) 3 = b
        · rw [if_neg c0, if_neg c1, if_neg c2, if_pos c3]
          show _ = (-1 : Int)
          split at g3 <;> omega
        · rw [if_neg c0, if_neg c1, if_neg c2, if_neg c3] at hn
          exact absurd rfl hn
theorem dir_eq {a b c : Nat} (ha : a < 100) (hb : b < 100) (h1 : nbr a b) (h2 : nbr b c) : (dirI b c ≠ dirI a b) ↔ (c : Int) - (b : Int) ≠ (b : Int) - (a : Int) := by
  rw [dir_diff ha h1, dir_diff hb h2]
  have i1 := dirI_in a b
  have i2 := dirI_in b c
  generalize dirI a b = x at *
  generalize dirI b c = y at *
  have c1 : x = 0 ∨ x = 1 ∨ x = 2 ∨ x = 3 := by omega
  have c2 : y = 0 ∨ y = 1 ∨ y = 2 ∨ y = 3 := by omega
  rcases c1 with rfl | rfl | rfl | rfl <;> rcases c2 with rfl | rfl | rfl | rfl <;> decide
theorem lkL_corn {l : List Nat} (hl : LT l) (ha : ADJ l) (h1 : 1 ≤ l.length) : smF (lkT l) l.length = cornL l := by
  obtain ⟨n, hn⟩ : ∃ n, l.length = n + 1 := ⟨l.length - 1, by omega⟩
  unfold cornL
  rw [hn, smF_shift, show n + 1 - 1 = n by omega]
  have z : lkT l 0 = 0 := by unfold lkT; rw [if_neg (by omega)]
  rw [z, Int.zero_add]
  refine smF_congr (fun j hj => ?_)
  unfold lkT cornF stJ
  by_cases c : 1 ≤ j
  · have e := dir_eq (hl.at (j - 1)) (hl.at j) (by have := ha (j - 1) (by omega); rwa [show j - 1 + 1 = j by omega] at this) (ha j (by omega))
    rw [show j + 1 - 1 = j by omega, show j + 1 - 2 = j - 1 by omega, show j - 1 + 1 = j by omega]
    by_cases q : dirI (l.getD j 0) (l.getD (j + 1) 0) ≠ dirI (l.getD (j - 1) 0) (l.getD j 0)
    · rw [if_pos ⟨by omega, e.mp q⟩, if_pos ⟨c, q⟩]
    · rw [if_neg (fun z => q (e.mpr z.2)), if_neg (fun z => q z.2)]
  · rw [if_neg (by omega), if_neg (by omega)]
/-- the least, from 9 on -/
theorem mnF_9 {f : Nat → Int} (h : ∀ j, f j ≤ 9) : ∀ {n : Nat}, 1 ≤ n → mnF f 9 n = mnF f 10 n
  | 0, h1 => by omega
  | 1, _ => by
    have := h 0
    show (if f 0 < (9 : Int) then f 0 else 9) = if f 0 < (10 : Int) then f 0 else 10
    rw [if_pos (show f 0 < 10 by omega)]
    split <;> omega
  | n + 2, _ => by
    show (if f (n + 1) < mnF f 9 (n + 1) then f (n + 1) else mnF f 9 (n + 1)) = (if f (n + 1) < mnF f 10 (n + 1) then f (n + 1) else mnF f 10 (n + 1))
    rw [mnF_9 h (n := n + 1) (by omega)]
/-- one of some, and how many -/
theorem has_sm {f : Nat → Int} {v : Int} : ∀ {n : Nat}, 0 ≤ smF (fun j => if f j = v then 1 else 0) n ∧ (hasF f v n = 1 ↔ 0 < smF (fun j => if f j = v then 1 else 0) n)
  | 0 => ⟨Int.le_refl 0, ⟨fun h => absurd (show (0 : Int) = 1 from h) (by decide), fun h => absurd (show (0 : Int) < 0 from h) (by decide)⟩⟩
  | n + 1 => by
    have ih := has_sm (f := f) (v := v) (n := n)
    have e1 : hasF f v (n + 1) = if hasF f v n = 1 ∨ f n = v then 1 else 0 := rfl
    have e2 : smF (fun j => if f j = v then (1 : Int) else 0) (n + 1) = smF (fun j => if f j = v then 1 else 0) n + if f n = v then 1 else 0 := rfl
    rw [e1, e2]
    have i1 := hasF_in f v n
    by_cases c : f n = v
    · rw [if_pos c, if_pos (Or.inr c)]; omega
    · rw [if_neg c]
      by_cases q : hasF f v n = 1
      · rw [if_pos (Or.inl q)]; have := ih.2.mp q; omega
      · rw [if_neg (fun z => z.elim q c)]
        have : ¬ 0 < smF (fun j => if f j = v then (1 : Int) else 0) n := fun z => q (ih.2.mpr z)
        omega
theorem orF_0 {f : Nat → Nat} : ∀ {n : Nat}, orF f n = 0 ↔ ∀ i, i < n → f i = 0
  | 0 => ⟨fun _ i hi => absurd hi (by omega), fun _ => rfl⟩
  | n + 1 => by
    have ih := orF_0 (f := f) (n := n)
    show orF f n ||| f n = 0 ↔ _
    rw [Nat.or_eq_zero_iff, ih]
    refine ⟨fun h i hi => ?_, fun h => ⟨fun i hi => h i (by omega), h n (by omega)⟩⟩
    rcases Nat.lt_or_eq_of_le (Nat.le_of_lt_succ hi) with q | rfl
    · exact h.1 i q
    · exact h.2
theorem tot_sm : ∀ (ps : List (List Nat)), (tot ps : Int) = smF (fun p => ((pth ps p).length : Int)) ps.length
  | [] => rfl
  | l :: r => by
    have ih := tot_sm r
    show ((l.length + tot r : Nat) : Int) = smF (fun p => ((pth (l :: r) p).length : Int)) (r.length + 1)
    rw [smF_shift]
    show _ = (l.length : Int) + smF (fun j => ((pth r j).length : Int)) r.length
    rw [← ih]
    omega
