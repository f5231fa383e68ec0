/-! WHAT THE PATHS ARE: lists of sites; whose each site is, and where it stands -/
def pth (ps : List (List Nat)) (p : Nat) : List Nat := ps.getD p []
def owA : List (List Nat) → Nat → Nat → Int
  | [], _, _ => -1
  | l :: r, k, s => if s ∈ l then (k : Int) else owA r (k + 1) s
def ow (ps : List (List Nat)) (s : Nat) : Int := owA ps 0 s
def plc : List (List Nat) → Nat → Int
  | [], _ => -1
  | l :: r, s => if s ∈ l then (l.idxOf s : Int) else plc r s
def tot : List (List Nat) → Nat
  | [] => 0
  | l :: r => l.length + tot r
theorem pth_ge {ps : List (List Nat)} {p : Nat} (h : ps.length ≤ p) : pth ps p = [] := by
  unfold pth
  rw [List.getD_eq_getElem?_getD, List.getElem?_eq_none h]
  rfl
theorem pth_lt {ps : List (List Nat)} {p : Nat} (h : p < ps.length) : pth ps p = ps[p] := by
  unfold pth
  rw [List.getD_eq_getElem?_getD, List.getElem?_eq_getElem h]
  rfl
theorem pth_mem {ps : List (List Nat)} {p : Nat} (h : p < ps.length) : pth ps p ∈ ps := by
  rw [pth_lt h]
  exact List.getElem_mem h
theorem mem_pth {ps : List (List Nat)} {l : List Nat} (h : l ∈ ps) : ∃ p, p < ps.length ∧ pth ps p = l := by
  obtain ⟨p, hp, e⟩ := List.getElem_of_mem h
  exact ⟨p, hp, by rw [pth_lt hp]; exact e⟩
theorem lt_of_pth {ps : List (List Nat)} {p x : Nat} (h : x ∈ pth ps p) : p < ps.length := by
  rcases Nat.lt_or_ge p ps.length with q | q
  · exact q
  · rw [pth_ge q] at h; simp at h
theorem pth_set {ps : List (List Nat)} {p q : Nat} {l : List Nat} (h : p < ps.length) : pth (ps.set p l) q = if q = p then l else pth ps q := by
  unfold pth
  by_cases e : q = p
  · subst e
    rw [if_pos rfl, List.getD_eq_getElem?_getD, List.getElem?_set_self h]
    rfl
  · rw [if_neg e, List.getD_eq_getElem?_getD, List.getElem?_set_ne (Ne.symm e), List.getD_eq_getElem?_getD]
theorem pth_app {ps : List (List Nat)} {q : Nat} {l : List Nat} : pth (ps ++ [l]) q = if q = ps.length then l else pth ps q := by
  by_cases e : q = ps.length
  · subst e
    rw [if_pos rfl]
    unfold pth
    rw [List.getD_eq_getElem?_getD, List.getElem?_append_right (Nat.le_refl _)]
    simp
  · rw [if_neg e]
    unfold pth
    rw [List.getD_eq_getElem?_getD, List.getD_eq_getElem?_getD]
    rcases Nat.lt_or_ge q ps.length with h | h
    · rw [List.getElem?_append_left h]
    · rw [List.getElem?_append_right h, List.getElem?_eq_none h, List.getElem?_eq_none (by simp; omega)]
theorem pth_erase {ps : List (List Nat)} {p q : Nat} : pth (ps.eraseIdx p) q = if q < p then pth ps q else pth ps (q + 1) := by
  unfold pth
  rw [List.getD_eq_getElem?_getD, List.getElem?_eraseIdx]
  by_cases e : q < p
  · rw [if_pos e, if_pos e, List.getD_eq_getElem?_getD]
  · rw [if_neg e, if_neg e, List.getD_eq_getElem?_getD]
theorem pth_take {ps : List (List Nat)} {p q : Nat} (h : q < p) : pth (ps.take p) q = pth ps q := by
  unfold pth
  rw [List.getD_eq_getElem?_getD, List.getElem?_take, if_pos h, List.getD_eq_getElem?_getD]
theorem take_pth {ps : List (List Nat)} {p : Nat} (h : p < ps.length) : ps.take p ++ [pth ps p] = ps.take (p + 1) := by
  rw [List.take_succ, List.getElem?_eq_getElem h, pth_lt h]
  rfl
theorem tot_app (a b : List (List Nat)) : tot (a ++ b) = tot a + tot b := by
  induction a with
  | nil => simp [tot]
  | cons l r ih => show l.length + tot (r ++ b) = l.length + tot r + tot b; omega
theorem owA_none : ∀ (ps : List (List Nat)) (k s : Nat), (∀ l ∈ ps, s ∉ l) → owA ps k s = -1
  | [], _, _, _ => rfl
  | l :: r, k, s, h => by
    unfold owA
    rw [if_neg (h l (by simp))]
    exact owA_none r _ s (fun m hm => h m (by simp [hm]))
theorem plc_none : ∀ (ps : List (List Nat)) (s : Nat), (∀ l ∈ ps, s ∉ l) → plc ps s = -1
  | [], _, _ => rfl
  | l :: r, s, h => by
    unfold plc
    rw [if_neg (h l (by simp))]
    exact plc_none r s (fun m hm => h m (by simp [hm]))
theorem owA_app : ∀ (qs rs : List (List Nat)) (k s : Nat), (∀ l ∈ qs, s ∉ l) → owA (qs ++ rs) k s = owA rs (k + qs.length) s
  | [], _, _, _, _ => rfl
  | l :: r, rs, k, s, h => by
    show owA (l :: (r ++ rs)) k s = _
    rw [owA, if_neg (h l (by simp)), owA_app r rs _ s (fun m hm => h m (by simp [hm])), List.length_cons, show k + 1 + r.length = k + (r.length + 1) by omega]
theorem plc_app : ∀ (qs rs : List (List Nat)) (s : Nat), (∀ l ∈ qs, s ∉ l) → plc (qs ++ rs) s = plc rs s
  | [], _, _, _ => rfl
  | l :: r, rs, s, h => by
    show plc (l :: (r ++ rs)) s = _
    rw [plc, if_neg (h l (by simp)), plc_app r rs s (fun m hm => h m (by simp [hm]))]
theorem owA_left : ∀ (qs rs : List (List Nat)) (k s : Nat), (∃ l ∈ qs, s ∈ l) → owA (qs ++ rs) k s = owA qs k s
  | [], _, _, _, h => by obtain ⟨l, hl, -⟩ := h; simp at hl
  | l :: r, rs, k, s, h => by
    show owA (l :: (r ++ rs)) k s = _
    unfold owA
    by_cases e : s ∈ l
    · rw [if_pos e, if_pos e]
    · rw [if_neg e, if_neg e]
      refine owA_left r rs _ s ?_
      obtain ⟨m, hm, h2⟩ := h
      rcases List.mem_cons.mp hm with q | q
      · rw [q] at h2; exact absurd h2 e
      · exact ⟨m, q, h2⟩
theorem plc_left : ∀ (qs rs : List (List Nat)) (s : Nat), (∃ l ∈ qs, s ∈ l) → plc (qs ++ rs) s = plc qs s
  | [], _, _, h => by obtain ⟨l, hl, -⟩ := h; simp at hl
  | l :: r, rs, s, h => by
    show plc (l :: (r ++ rs)) s = _
    unfold plc
    by_cases e : s ∈ l
    · rw [if_pos e, if_pos e]
    · rw [if_neg e, if_neg e]
      refine plc_left r rs s ?_
      obtain ⟨m, hm, h2⟩ := h
      rcases List.mem_cons.mp hm with q | q
      · rw [q] at h2; exact absurd h2 e
      · exact ⟨m, q, h2⟩
/-- no site is twice in a path or in two -/
def ND (ps : List (List Nat)) : Prop := ∀ p, (pth ps p).Nodup ∧ ∀ q, p ≠ q → ∀ x, x ∈ pth ps p → x ∉ pth ps q
def LTp (ps : List (List Nat)) : Prop := ∀ p, LT (pth ps p)
def nbr (a b : Nat) : Prop := ∃ d : Nat, d < 4 ∧ nbI a d = b
def ADJ (l : List Nat) : Prop := ∀ j, j + 1 < l.length → nbr (l.getD j 0) (l.getD (j + 1) 0)
def OKp (ps : List (List Nat)) : Prop := ps.length ≤ 5 ∧ (∀ p, p < ps.length → 1 ≤ (pth ps p).length ∧ (pth ps p).length ≤ 60 ∧ ADJ (pth ps p)) ∧ LTp ps ∧ ND ps
theorem ND.take {ps : List (List Nat)} (h : ND ps) {p j : Nat} (hj : j < (pth ps p).length) : (∀ m ∈ ps.take p, (pth ps p).getD j 0 ∉ m) ∧ (pth ps p).getD j 0 ∉ (pth ps p).take j := by
  constructor
  · intro m hm hx
    obtain ⟨q, hq, e⟩ := mem_pth hm
    have hq2 : q < p := by have := List.length_take (l := ps) (i := p); omega
    rw [pth_take hq2] at e
    rw [← e] at hx
    exact (h q).2 p (by omega) _ hx (getD_mem hj)
  · intro hx
    obtain ⟨i, hi, e⟩ := mem_getD hx
    have hl : i < j := by rw [List.length_take] at hi; omega
    rw [List.getD_eq_getElem?_getD, List.getElem?_take, if_pos hl, List.getD_eq_getElem?_getD, List.getElem?_eq_getElem (by omega), List.getElem?_eq_getElem hj] at e
    have := (List.getElem_inj (h p).1).mp e
    omega
theorem ow_of {ps : List (List Nat)} (h : ND ps) {p s : Nat} (hs : s ∈ pth ps p) : ow ps s = (p : Int) ∧ plc ps s = ((pth ps p).idxOf s : Int) := by
  have hp := lt_of_pth hs
  have e : ps = ps.take p ++ pth ps p :: ps.drop (p + 1) := by
    rw [pth_lt hp]
    simp
  have hn : ∀ m ∈ ps.take p, s ∉ m := by
    obtain ⟨j, hj, e2⟩ := mem_getD hs
    rw [← e2]
    exact (h.take hj).1
  have hl : (ps.take p).length = p := by rw [List.length_take]; omega
  constructor
  · unfold ow
    rw [e, owA_app _ _ _ _ hn, hl]
    unfold owA
    rw [if_pos hs]
    simp
  · have e3 : plc ps s = plc (ps.take p ++ pth ps p :: ps.drop (p + 1)) s := by rw [← e]
    rw [e3, plc_app _ _ _ hn]
    unfold plc
    rw [if_pos hs]
theorem idx_getD {l : List Nat} (h : l.Nodup) {j : Nat} (hj : j < l.length) : l.idxOf (l.getD j 0) = j := by
  rw [List.getD_eq_getElem?_getD, List.getElem?_eq_getElem hj]
  exact h.idxOf_getElem j hj
theorem getD_idx {l : List Nat} {x : Nat} (h : x ∈ l) : l.getD (l.idxOf x) 0 = x ∧ l.idxOf x < l.length := by
  have hl : l.idxOf x < l.length := List.idxOf_lt_length_iff.mpr h
  exact ⟨by rw [List.getD_eq_getElem?_getD, List.getElem?_eq_getElem hl]; exact List.getElem_idxOf hl, hl⟩
theorem ow_none {ps : List (List Nat)} {s : Nat} (h : ∀ p, s ∉ pth ps p) : ow ps s = -1 ∧ plc ps s = -1 := by
  have : ∀ l ∈ ps, s ∉ l := fun l hl => by obtain ⟨p, -, e⟩ := mem_pth hl; rw [← e]; exact h p
  exact ⟨owA_none _ _ _ this, plc_none _ _ this⟩
theorem ow_cases {ps : List (List Nat)} (h : ND ps) (s : Nat) : ((∀ p, s ∉ pth ps p) ∧ ow ps s = -1 ∧ plc ps s = -1) ∨ ∃ p, p < ps.length ∧ s ∈ pth ps p ∧ ow ps s = (p : Int) ∧ plc ps s = ((pth ps p).idxOf s : Int) := by
  by_cases q : ∃ p, s ∈ pth ps p
  · obtain ⟨p, hp⟩ := q
    exact Or.inr ⟨p, lt_of_pth hp, hp, ow_of h hp⟩
  · exact Or.inl ⟨fun p hp => q ⟨p, hp⟩, ow_none (fun p hp => q ⟨p, hp⟩)⟩
theorem owA_in : ∀ (ps : List (List Nat)) (k s : Nat), -1 ≤ owA ps k s ∧ owA ps k s < k + ps.length
  | [], k, s => by unfold owA; simp; omega
  | l :: r, k, s => by
    unfold owA
    have := owA_in r (k + 1) s
    rw [List.length_cons]
    split <;> omega
theorem ow_in (ps : List (List Nat)) (s : Nat) : -1 ≤ ow ps s ∧ ow ps s < ps.length := by have := owA_in ps 0 s; unfold ow; omega
theorem plc_in : ∀ (ps : List (List Nat)) (s : Nat), (∀ l ∈ ps, l.length ≤ 60) → -1 ≤ plc ps s ∧ plc ps s < 60
  | [], s, _ => by unfold plc; omega
  | l :: r, s, h => by
    unfold plc
    have := plc_in r s (fun m hm => h m (by simp [hm]))
    have hl := h l (by simp)
    by_cases e : s ∈ l
    · rw [if_pos e]; have := List.idxOf_lt_length_iff.mpr e; omega
    · rw [if_neg e]; exact this
/-- marks of the sites -/
def MK (f g : Nat → Int) (ps : List (List Nat)) : Prop := ∀ s, s < 100 → f s = ow ps s ∧ g s = plc ps s
theorem MK.fresh {f g : Nat → Int} (h : ∀ s, s < 100 → f s = -1 ∧ g s = -1) : MK f g [] := h
theorem MK.next {f g : Nat → Int} {ps : List (List Nat)} (h : MK f g ps) : MK f g (ps ++ [[]]) := by
  intro s hs
  have := h s hs
  by_cases q : ∃ l ∈ ps, s ∈ l
  · unfold ow at this ⊢
    rw [owA_left _ _ _ _ q, plc_left _ _ _ q]
    exact this
  · have q2 : ∀ l ∈ ps, s ∉ l := fun l hl hx => q ⟨l, hl, hx⟩
    unfold ow at this ⊢
    rw [owA_none _ _ _ q2, plc_none _ _ q2] at this
    rw [owA_app _ _ _ _ q2, plc_app _ _ _ q2, this.1, this.2]
    simp [owA, plc]
theorem MK.push {f g f' g' : Nat → Int} {qs : List (List Nat)} {l : List Nat} {x : Nat} (h : MK f g (qs ++ [l])) (h1 : ∀ m ∈ qs, x ∉ m) (h2 : x ∉ l) (hf : f' x = (qs.length : Int)) (hg : g' x = (l.length : Int)) (ho : ∀ s, s ≠ x → f' s = f s ∧ g' s = g s) : MK f' g' (qs ++ [l ++ [x]]) := by
  intro s hs
  have a := h s hs
  unfold ow at a ⊢
  by_cases e : s = x
  · subst e
    rw [owA_app _ _ _ _ h1, plc_app _ _ _ h1, hf, hg]
    unfold owA plc
    rw [if_pos (by simp), if_pos (by simp), List.idxOf_append, if_neg h2]
    simp
  · rw [(ho s e).1, (ho s e).2, a.1, a.2]
    by_cases q : ∃ m ∈ qs, s ∈ m
    · rw [owA_left _ _ _ _ q, plc_left _ _ _ q, owA_left _ _ _ _ q, plc_left _ _ _ q]
      exact ⟨rfl, rfl⟩
    · have q2 : ∀ m ∈ qs, s ∉ m := fun m hm hx => q ⟨m, hm, hx⟩
      rw [owA_app _ _ _ _ q2, plc_app _ _ _ q2, owA_app _ _ _ _ q2, plc_app _ _ _ q2]
      by_cases r : s ∈ l
      · unfold owA plc
        rw [if_pos r, if_pos r, if_pos (by simp [r]), if_pos (by simp [r]), List.idxOf_append, if_pos r]
        exact ⟨rfl, rfl⟩
      · unfold owA plc
        rw [if_neg r, if_neg r, if_neg (by simp [r, e]), if_neg (by simp [r, e])]
        exact ⟨rfl, rfl⟩
theorem MK.at {f g : Nat → Int} {ps : List (List Nat)} (h : MK f g ps) {s : Nat} (hs : s < 100) : f s = ow ps s ∧ g s = plc ps s := h s hs
theorem OKp.len {ps : List (List Nat)} (h : OKp ps) {p : Nat} (hp : p < ps.length) : 1 ≤ (pth ps p).length ∧ (pth ps p).length ≤ 60 := ⟨(h.2.1 p hp).1, (h.2.1 p hp).2.1⟩
theorem OKp.lt {ps : List (List Nat)} (h : OKp ps) (p : Nat) : LT (pth ps p) := h.2.2.1 p
theorem OKp.nd {ps : List (List Nat)} (h : OKp ps) : ND ps := h.2.2.2
theorem OKp.adj {ps : List (List Nat)} (h : OKp ps) {p : Nat} (hp : p < ps.length) : ADJ (pth ps p) := (h.2.1 p hp).2.2
theorem OKp.plc {ps : List (List Nat)} (h : OKp ps) (s : Nat) : -1 ≤ plc ps s ∧ plc ps s < 60 := plc_in ps s (fun l hl => by obtain ⟨p, hp, e⟩ := mem_pth hl; rw [← e]; exact (h.len hp).2)
