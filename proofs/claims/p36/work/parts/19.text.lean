/-- the text in the buffer -/
def LTc (l : List Nat) : Prop := ∀ x ∈ l, x < 128
theorem LTc.at {l : List Nat} (h : LTc l) (j : Nat) : l.getD j 0 < 128 := by
  rw [List.getD_eq_getElem?_getD]
  cases e : l[j]? with
  | none => show 0 < 128; omega
  | some x => exact h x (List.mem_of_getElem? e)
def TX (w : Wd) (tx : List Nat) : Prop := w 45 1 = (tx.length : Int) ∧ tx.length ≤ 70 ∧ (∀ j, j < tx.length → w 46 j = (tx.getD j 0 : Int)) ∧ LTc tx
theorem TX.frm {w w' : Wd} {tx : List Nat} {A : List Nat} (h : TX w tx) (f : frm w w' A) (h1 : 45 ∉ A) (h2 : 46 ∉ A) : TX w' tx := ⟨by rw [f.at h1]; exact h.1, h.2.1, fun j hj => by rw [f.at h2]; exact h.2.2.1 j hj, h.2.2.2⟩
section Text
variable {G : Gm} {w : Wd} {K : Kt} {X : Xt} {tx : List Nat}
theorem e_X3_length (h : TX w tx) (k : K (vi tx.length) none w) : Ev G yX3_length cX3_length 1 mX3_length none 0 0 0 [vr 45] w K X := by
  have h1 := h.1
  refine Ev_intro mvX3_length.1 rfl (fun h => by cases h) (allc1 rfl) (Nat.le_of_ble_eq_true rfl) (Or.inl rfl) ?_
  show Go G cX3_length mX3_length none 0 0 0 0 [some (vr 45)] [] w K X
  refine Go_ald0 dX3_length_0 ?_
  refine gf2_1 dX3_length_1 flX3_15 (by first | assumption | rfl) ?_
  refine Go_ireturn dX3_length_4 rfl (by first | rfl | decide | exact nar_b | simp [narrow]) ?_
  exact kI h1 k
end Text
