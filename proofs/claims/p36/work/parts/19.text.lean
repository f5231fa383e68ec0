/-- the text in the buffer -/
def LTc (l : List Nat) : Prop := ∀ x ∈ l, x < 128
theorem LTc.at {l : List Nat} (h : LTc l) (j : Nat) : l.getD j 0 < 128 := by
  rw [List.getD_eq_getElem?_getD]
  cases e : l[j]? with
  | none => show 0 < 128; omega
  | some x => exact h x (List.mem_of_getElem? e)
def TX (w : Wd) (tx : List Nat) : Prop := w 45 1 = (tx.length : Int) ∧ tx.length ≤ 70 ∧ (∀ j, j < tx.length → w 46 j = (tx.getD j 0 : Int)) ∧ LTc tx
theorem TX.frm {w w' : Wd} {tx : List Nat} {A : List Nat} (h : TX w tx) (f : frm w w' A) (h1 : 45 ∉ A) (h2 : 46 ∉ A) : TX w' tx := ⟨by rw [f.at h1]; exact h.1, h.2.1, fun j hj => by rw [f.at h2]; exact h.2.2.1 j hj, h.2.2.2⟩
section Text
variable {G : Gm} {w : Wd} {K : Kt} {X : Xt} {tx : List Nat}
end Text
