theorem rgD {f : Nat → Nat} {n j : Nat} (hj : j < n) : ((List.range n).map f).getD j 0 = f j := by
  rw [List.getD_eq_getElem?_getD, List.getElem?_map, List.getElem?_range hj]
  rfl
theorem eqD {a b : List Nat} (hl : a.length = b.length) (h : ∀ j, j < a.length → a.getD j 0 = b.getD j 0) : a = b := by
  apply List.ext_getElem hl
  intro j h1 h2
  have := h j h1
  rw [List.getD_eq_getElem?_getD, List.getD_eq_getElem?_getD, List.getElem?_eq_getElem h1, List.getElem?_eq_getElem h2] at this
  exact this
theorem ndD {l : List Nat} (h : ∀ i j, i < j → j < l.length → l.getD i 0 ≠ l.getD j 0) : l.Nodup := by
  rw [List.nodup_iff_pairwise_ne, List.pairwise_iff_getElem]
  intro i j h1 h2 h3
  have := h i j h3 h2
  rw [List.getD_eq_getElem?_getD, List.getD_eq_getElem?_getD, List.getElem?_eq_getElem h1, List.getElem?_eq_getElem h2] at this
  exact this
theorem ndI {l : List Nat} (h : l.Nodup) {i j : Nat} (h1 : i < l.length) (h2 : j < l.length) (e : l.getD i 0 = l.getD j 0) : i = j := by
  rw [List.getD_eq_getElem?_getD, List.getD_eq_getElem?_getD, List.getElem?_eq_getElem h1, List.getElem?_eq_getElem h2] at e
  exact (List.getElem_inj h).mp e
def mvL (l : List Nat) (pl q n : Nat) : List Nat := (List.range l.length).map fun m => if m ≤ pl ∨ n ≤ m then l.getD m 0 else (swI (l.getD m 0) (l.getD pl 0) q).toNat
def turL (l : List Nat) (pl q : Nat) : List Nat := mvL l pl q l.length
theorem mvL_len (l : List Nat) (pl q n : Nat) : (mvL l pl q n).length = l.length := by simp [mvL]
theorem mvL_at {l : List Nat} {pl q n m : Nat} (h : m < l.length) : (mvL l pl q n).getD m 0 = if m ≤ pl ∨ n ≤ m then l.getD m 0 else (swI (l.getD m 0) (l.getD pl 0) q).toNat := rgD h
theorem mvL_0 (l : List Nat) (pl q : Nat) : mvL l pl q (pl + 1) = l := by
  refine eqD (mvL_len _ _ _ _) (fun j hj => ?_)
  rw [mvL_len] at hj
  rw [mvL_at hj, if_pos (by omega)]
theorem mvL_succ {l : List Nat} {pl q n : Nat} (h1 : pl < n) (h2 : n < l.length) : (mvL l pl q n).set n (swI (l.getD n 0) (l.getD pl 0) q).toNat = mvL l pl q (n + 1) := by
  refine eqD (by rw [List.length_set, mvL_len, mvL_len]) (fun j hj => ?_)
  rw [List.length_set, mvL_len] at hj
  rw [mvL_at hj, List.getD_eq_getElem?_getD]
  by_cases e : j = n
  · subst e
    rw [List.getElem?_set_self (by rw [mvL_len]; exact hj), if_neg (by omega)]
    rfl
  · rw [List.getElem?_set_ne (Ne.symm e), ← List.getD_eq_getElem?_getD, mvL_at hj]
    by_cases c : j ≤ pl ∨ n ≤ j
    · rw [if_pos c, if_pos (by omega)]
    · rw [if_neg c, if_neg (by omega)]
