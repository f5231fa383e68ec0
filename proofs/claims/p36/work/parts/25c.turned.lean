theorem whyT_in (ps : List (List Nat)) (p pl q : Nat) : 0 ≤ whyT ps p pl q ∧ whyT ps p pl q ≤ 9 := by
  have := mnF_in (f := fun j => tcl ps p pl q (pl + 1 + j)) (a := 9) (lo := 1) (hi := 9) (n := (pth ps p).length - (pl + 1)) (by omega) (fun j _ => tcl_in ps p pl q (pl + 1 + j))
  unfold whyT tmn
  split <;> omega
theorem whyT_0 {ps : List (List Nat)} {p pl q : Nat} (h : whyT ps p pl q = 0) {m : Nat} (h1 : pl < m) (h2 : m < (pth ps p).length) : tcl ps p pl q m = 9 := by
  have b := mnF_in (f := fun j => tcl ps p pl q (pl + 1 + j)) (a := 9) (lo := 1) (hi := 9) (n := (pth ps p).length - (pl + 1)) (by omega) (fun j _ => tcl_in ps p pl q (pl + 1 + j))
  have e : tmn ps p pl q ((pth ps p).length - (pl + 1)) = 9 := by
    unfold whyT at h
    split at h
    · assumption
    · unfold tmn at h; omega
  have c := mnF_le (f := fun j => tcl ps p pl q (pl + 1 + j)) (a := 9) (n := (pth ps p).length - (pl + 1)) (j := m - (pl + 1)) (by omega)
  unfold tmn at e
  rw [e] at c
  have d := (tcl_in ps p pl q m).2
  try dsimp only at c
  rw [show pl + 1 + (m - (pl + 1)) = m by omega] at c
  omega
theorem whyT_s {ps : List (List Nat)} {p pl q : Nat} (h : whyT ps p pl q = 0) {m : Nat} (h1 : pl < m) (h2 : m < (pth ps p).length) : swI ((pth ps p).getD m 0) ((pth ps p).getD pl 0) q ≠ -1 ∧ (ow ps (swI ((pth ps p).getD m 0) ((pth ps p).getD pl 0) q).toNat = -1 ∨ (ow ps (swI ((pth ps p).getD m 0) ((pth ps p).getD pl 0) q).toNat = p ∧ pl < plc ps (swI ((pth ps p).getD m 0) ((pth ps p).getD pl 0) q).toNat)) := by
  have := whyT_0 h h1 h2
  unfold tcl at this
  repeat' split at this
  all_goals first | omega | skip
theorem OKp_turn {ps : List (List Nat)} {p pl q : Nat} (h : OKp ps) (hp : p < ps.length) (hpl : pl < (pth ps p).length) (hq : q ≤ 3) (hw : whyT ps p pl q = 0) : OKp (ps.set p (turL (pth ps p) pl q)) := by
  have hl := h.lt p
  have hlen := h.len hp
  have hnd := (h.nd p).1
  have bpl := hl.at pl
  -- every site from the pivot on is where its landing is
  have at1 : ∀ m, m < (pth ps p).length → pl ≤ m → (turL (pth ps p) pl q).getD m 0 = (swI ((pth ps p).getD m 0) ((pth ps p).getD pl 0) q).toNat ∧ swI ((pth ps p).getD m 0) ((pth ps p).getD pl 0) q ≠ -1 := fun m hm hle => by
    unfold turL
    rw [mvL_at hm]
    by_cases e : m = pl
    · subst e
      rw [if_pos (by omega), sw_self bpl hq]
      exact ⟨rfl, by omega⟩
    · rw [if_neg (by omega)]
      exact ⟨rfl, (whyT_s hw (by omega) hm).1⟩
  have at0 : ∀ m, m < (pth ps p).length → m ≤ pl → (turL (pth ps p) pl q).getD m 0 = (pth ps p).getD m 0 := fun m hm hle => by
    unfold turL
    rw [mvL_at hm, if_pos (by omega)]
  have tl : (turL (pth ps p) pl q).length = (pth ps p).length := mvL_len _ _ _ _
  have old : ∀ m, m < (pth ps p).length → ow ps ((pth ps p).getD m 0) = p ∧ plc ps ((pth ps p).getD m 0) = m := fun m hm => by
    have := ow_of h.nd (getD_mem hm)
    rw [idx_getD hnd hm] at this
    exact this
  refine OKp.set h hp (by omega) (by omega) (fun j hj => ?_) (fun x hx => ?_) (ndD (fun i j hij hj => ?_)) (fun x hx r hr hxr => ?_)
  · rw [tl] at hj
    have hn := (h.adj hp) j hj
    by_cases c : j + 1 ≤ pl
    · rw [at0 j (by omega) (by omega), at0 (j + 1) hj c]; exact hn
    · have a := at1 j (by omega) (by omega)
      have b := at1 (j + 1) hj (by omega)
      rw [a.1, b.1]
      exact sw_nbr (hl.at j) (hl.at (j + 1)) hq a.2 b.2 hn
  · obtain ⟨j, hj, e⟩ := mem_getD hx
    rw [tl] at hj
    rw [← e]
    by_cases c : j ≤ pl
    · rw [at0 j hj c]; exact hl.at j
    · rw [(at1 j hj (by omega)).1]; exact (sw_spec (at1 j hj (by omega)).2).2.2
  · rw [tl] at hj
    intro e
    by_cases c : j ≤ pl
    · rw [at0 i (by omega) (by omega), at0 j hj c] at e
      have := ndI hnd (by omega) hj e
      omega
    · by_cases c2 : i ≤ pl
      · rw [at0 i (by omega) c2, (at1 j hj (by omega)).1] at e
        have o := old i (by omega)
        have s := (whyT_s hw (by omega : pl < j) hj).2
        rw [← e] at s
        omega
      · have a := at1 i (by omega) (by omega)
        have b := at1 j hj (by omega)
        rw [a.1, b.1] at e
        have := ndI hnd (by omega) hj (sw_inj (hl.at i) (hl.at j) hq a.2 b.2 e)
        omega
  · obtain ⟨j, hj, e⟩ := mem_getD hx
    rw [tl] at hj
    have o := (ow_of h.nd hxr).1
    by_cases c : j ≤ pl
    · rw [at0 j hj c] at e
      have := (old j hj).1
      rw [e] at this
      omega
    · rw [(at1 j hj (by omega)).1] at e
      have s := (whyT_s hw (by omega : pl < j) hj).2
      rw [e] at s
      omega
