theorem TR.clear {w : Wd} {t : Nat} (h : SH t = (1, 8)) : TR (up w t 1 0) t [] := ⟨h, by rw [up_s]; rfl, by simp, fun j hj => by simp at hj⟩
theorem TR.push {w : Wd} {t : Nat} {l : List Nat} {x : Nat} (h : TR w t l) (hl : l.length < 60) : TR (up (up w (t + 1) (w t 1).toNat (x : Int)) t 1 ((up w (t + 1) (w t 1).toNat (x : Int)) t 1 + 1)) t (l ++ [x]) := by
  obtain ⟨h1, h2, h3, h4⟩ := h
  refine ⟨h1, ?_, by simp; omega, fun j hj => ?_⟩
  · rw [up_s, up_a (by omega), h2]; simp
  · rw [up_a (by omega)]
    simp only [List.length_append, List.length_cons, List.length_nil] at hj
    by_cases hx : j = l.length
    · subst hx
      rw [h2, Int.toNat_natCast, up_s]
      simp
    · rw [up_k (by omega), h4 j (by omega)]
      simp [List.getD_eq_getElem?_getD, List.getElem?_append_left (show j < l.length by omega)]
theorem TR.put {w : Wd} {t : Nat} {l : List Nat} {i x : Nat} (h : TR w t l) (hi : i < l.length) : TR (up w (t + 1) i (x : Int)) t (l.set i x) := by
  obtain ⟨h1, h2, h3, h4⟩ := h
  refine ⟨h1, ?_, by simp; omega, fun j hj => ?_⟩
  · rw [up_a (by omega), h2]; simp
  · simp only [List.length_set] at hj
    by_cases hx : j = i
    · subst hx
      rw [up_s]
      simp [List.getD_eq_getElem?_getD, hi]
    · rw [up_k hx, h4 j hj]
      simp [List.getD_eq_getElem?_getD, List.getElem?_set_ne (Ne.symm hx)]
theorem TR.take {w : Wd} {t : Nat} {l : List Nat} {i : Nat} (h : TR w t l) (hi : i < l.length) : TR (up w t 1 ((i : Int) + 1)) t (l.take (i + 1)) := by
  obtain ⟨h1, h2, h3, h4⟩ := h
  refine ⟨h1, ?_, by simp; omega, fun j hj => ?_⟩
  · rw [up_s]; simp; omega
  · simp only [List.length_take] at hj
    rw [up_a (by omega), h4 j (by omega)]
    simp [List.getD_eq_getElem?_getD, List.getElem?_take, show j < i + 1 by omega]
section Traw
variable {G : Gm} {w : Wd} {K : Kt} {X : Xt} {t : Nat} {l : List Nat}
theorem e_X9_clear (ht : SH t = (1, 8)) (k : ∀ w', TR w' t [] → frm w w' [t, t + 1] → K (vi 0) none w') : Ev G yX9_clear cX9_clear 1 mX9_clear none 0 0 0 [vr t] w K X := by
  refine Ev_intro mvX9_clear.1 rfl (fun h => by cases h) (allc1 rfl) (Nat.le_of_ble_eq_true rfl) (Or.inl rfl) ?_
  show Go G cX9_clear mX9_clear none 0 0 0 0 [some (vr t)] [] w K X
  refine Go_ald0 dX9_clear_0 ?_
  refine Go_iconst dX9_clear_1 ?_
  refine pf8_1 dX9_clear_2 flX9_15 (by first | assumption | rfl) ?_
  refine Go_return dX9_clear_5 rfl ?_
  exact k _ (TR.clear ht) (frm.rfl.up (by simp))
theorem e_X9_push {x : Nat} (h : TR w t l) (hl : l.length < 60) (k : ∀ w', TR w' t (l ++ [x]) → frm w w' [t, t + 1] → K (vi 0) none w') : Ev G yX9_push cX9_push 2 mX9_push none 1 0 0 [vr t, vi (x : Int)] w K X := by
  have h9 := h
  obtain ⟨ht, hn, hl0, hj⟩ := h
  have ht1 := sh_t1 ht
  refine Ev_intro mvX9_push.1 rfl (fun h => by cases h) (allc1 rfl) (Nat.le_of_ble_eq_true rfl) (Or.inl rfl) ?_
  show Go G cX9_push mX9_push none 1 0 0 0 [some (vr t), some (vi (x : Int))] [] w K X
  refine Go_ald0 dX9_push_0 ?_
  refine Go_cV0 (d' := 0) (bc' := 0) (bs' := 0) rfl dX9_push_1 mvX9_isFull rfl lkX9_34 (by first | assumption | rfl) rfl trivial (by decide) (by decide) (by decide) (Nat.le_of_ble_eq_true rfl) ?_
  refine e_X9_isFull h9 ?_
  refine Go_ifb_ne (tgt := 27) dX9_push_4 (by decide)  (fun h4 => by omega) (fun h4 => ?_)
  refine Go_ald0 dX9_push_7 ?_
  refine gf8_0 dX9_push_8 flX9_9 (by first | assumption | rfl) ?_
  refine Go_ald0 dX9_push_11 ?_
  refine gf8_1 dX9_push_12 flX9_15 (by first | assumption | rfl) ?_
  refine Go_ild1 dX9_push_15 ?_
  refine Go_iast dX9_push_16 ht1 trivial (by omega) (by omega) (by decide) ?_
  refine Go_ald0 dX9_push_17 ?_
  refine Go_dup dX9_push_18 ?_
  refine gf8_1 dX9_push_19 flX9_15 (by first | assumption | rfl) ?_
  refine Go_iconst dX9_push_22 ?_
  refine Go_iadd dX9_push_23 ?_
  refine pf8_1 dX9_push_24 flX9_15 (by first | assumption | rfl) ?_
  refine Go_return dX9_push_27 rfl ?_
  exact k _ (h9.push hl) ((frm.rfl.up (by simp)).up (by simp))
theorem e_X9_begin {x : Nat} (ht : SH t = (1, 8)) (k : ∀ w', TR w' t [x] → frm w w' [t, t + 1] → K (vi 0) none w') : Ev G yX9_begin cX9_begin 2 mX9_begin none 2 0 0 [vr t, vi (x : Int)] w K X := by
  refine Ev_intro mvX9_begin.1 rfl (fun h => by cases h) (allc1 rfl) (Nat.le_of_ble_eq_true rfl) (Or.inl rfl) ?_
  show Go G cX9_begin mX9_begin none 2 0 0 0 [some (vr t), some (vi (x : Int))] [] w K X
  refine Go_ald0 dX9_begin_0 ?_
  refine Go_cVv0 (d' := 0) (bc' := 0) (bs' := 0) rfl dX9_begin_1 mvX9_clear rfl lkX9_27 (by first | assumption | rfl) rfl trivial (by decide) (by decide) (by decide) (Nat.le_of_ble_eq_true rfl) ?_
  refine e_X9_clear ht (fun w1 h1 f1 => ?_)
  refine Go_ald0 dX9_begin_4 ?_
  refine Go_ild1 dX9_begin_5 ?_
  refine Go_cVv1 (d' := 1) (bc' := 0) (bs' := 0) rfl dX9_begin_6 mvX9_push rfl lkX9_30 (by first | assumption | rfl) rfl trivial (by decide) (by decide) (by decide) (Nat.le_of_ble_eq_true rfl) ?_
  refine e_X9_push h1 (by simp) (fun w2 h2 f2 => ?_)
  refine Go_return dX9_begin_9 rfl ?_
  exact k _ h2 (f1.trans f2 (fun _ h => h))
theorem e_X9_put {i x : Nat} (h : TR w t l) (hi : i < l.length) (k : ∀ w', TR w' t (l.set i x) → frm w w' [t, t + 1] → K (vi 0) none w') : Ev G yX9_put cX9_put 3 mX9_put none 1 0 0 [vr t, vi (i : Int), vi (x : Int)] w K X := by
  have h9 := h
  obtain ⟨ht, hn, hl0, hj⟩ := h
  have ht1 := sh_t1 ht
  refine Ev_intro mvX9_put.1 rfl (fun h => by cases h) (allc1 rfl) (Nat.le_of_ble_eq_true rfl) (Or.inl rfl) ?_
  show Go G cX9_put mX9_put none 1 0 0 0 [some (vr t), some (vi (i : Int)), some (vi (x : Int))] [] w K X
  refine Go_ald0 dX9_put_0 ?_
  refine Go_ild1 dX9_put_1 ?_
  refine Go_cV1 (d' := 0) (bc' := 0) (bs' := 0) rfl dX9_put_2 mvX9_has rfl lkX9_19 (by first | assumption | rfl) rfl trivial (by decide) (by decide) (by decide) (Nat.le_of_ble_eq_true rfl) ?_
  refine e_X9_has h9 (by constructor <;> omega) ?_
  refine Go_ifb_eq (tgt := 15) dX9_put_5 (by decide)  (fun h5 => by omega) (fun h5 => ?_)
  refine Go_ald0 dX9_put_8 ?_
  refine gf8_0 dX9_put_9 flX9_9 (by first | assumption | rfl) ?_
  refine Go_ild1 dX9_put_12 ?_
  refine Go_ild2 dX9_put_13 ?_
  refine Go_iast dX9_put_14 ht1 trivial (by omega) (by omega) (by decide) ?_
  refine Go_return dX9_put_15 rfl ?_
  rw [Int.toNat_natCast]
  exact k _ (h9.put hi) (frm.rfl.up (by simp))
theorem e_X9_endAt {i : Nat} (h : TR w t l) (hi : i < l.length) (k : ∀ w', TR w' t (l.take (i + 1)) → frm w w' [t, t + 1] → K (vi 0) none w') : Ev G yX9_endAt cX9_endAt 2 mX9_endAt none 1 0 0 [vr t, vi (i : Int)] w K X := by
  have h9 := h
  obtain ⟨ht, hn, hl0, hj⟩ := h
  refine Ev_intro mvX9_endAt.1 rfl (fun h => by cases h) (allc1 rfl) (Nat.le_of_ble_eq_true rfl) (Or.inl rfl) ?_
  show Go G cX9_endAt mX9_endAt none 1 0 0 0 [some (vr t), some (vi (i : Int))] [] w K X
  refine Go_ald0 dX9_endAt_0 ?_
  refine Go_ild1 dX9_endAt_1 ?_
  refine Go_cV1 (d' := 0) (bc' := 0) (bs' := 0) rfl dX9_endAt_2 mvX9_has rfl lkX9_19 (by first | assumption | rfl) rfl trivial (by decide) (by decide) (by decide) (Nat.le_of_ble_eq_true rfl) ?_
  refine e_X9_has h9 (by constructor <;> omega) ?_
  refine Go_ifb_eq (tgt := 15) dX9_endAt_5 (by decide)  (fun h5 => by omega) (fun h5 => ?_)
  refine Go_ald0 dX9_endAt_8 ?_
  refine Go_ild1 dX9_endAt_9 ?_
  refine Go_iconst dX9_endAt_10 ?_
  refine Go_iadd dX9_endAt_11 ?_
  refine pf8_1 dX9_endAt_12 flX9_15 (by first | assumption | rfl) ?_
  refine Go_return dX9_endAt_15 rfl ?_
  exact k _ (h9.take hi) (frm.rfl.up (by simp))
/-- the sites move one place forward -/
theorem l_X9_advanceTo (h : TR w t l) {x : Int} (kx : ∀ w', frm w w' [t + 1] → (∀ j, j < l.length → w' (t + 1) j = if j + 1 < l.length then (l.getD (j + 1) 0 : Int) else (l.getD j 0 : Int)) → Go G cX9_advanceTo mX9_advanceTo none 2 0 0 30 [some (vr t), some (vi x), some (vi (l.length : Int))] [] w' K X) :
    ∀ (n i : Nat) (w1 : Wd), i + n = l.length → 1 ≤ i → frm w w1 [t + 1] → (∀ j, j < l.length → w1 (t + 1) j = if j + 1 < i then (l.getD (j + 1) 0 : Int) else (l.getD j 0 : Int)) → Go G cX9_advanceTo mX9_advanceTo none 2 0 0 2 [some (vr t), some (vi x), some (vi (i : Int))] [] w1 K X := by
  obtain ⟨ht, hn, hl0, hj⟩ := h
  have ht1 := sh_t1 ht
  intro n
  induction n with
  | zero =>
    intro i w1 hin h1 f1 hw
    have e : w1 t 1 = (l.length : Int) := by rw [f1.at (by simp), hn]
    have hi : i = l.length := by omega
    subst hi
    refine Go_ild2 dX9_advanceTo_2 ?_
    refine Go_ald0 dX9_advanceTo_3 ?_
    refine gf8_1 dX9_advanceTo_4 flX9_15 (by first | assumption | rfl) ?_
    refine Go_icmp_ge (tgt := 30) dX9_advanceTo_7 (by decide) (by constructor <;> omega) (by constructor <;> omega) (fun h7 => ?_) (fun h7 => by omega)
    exact kx w1 f1 hw
  | succ n ih =>
    intro i w1 hin h1 f1 hw
    have e : w1 t 1 = (l.length : Int) := by rw [f1.at (by simp), hn]
    have h9 := hw i (by omega)
    rw [if_neg (by omega)] at h9
    refine Go_ild2 dX9_advanceTo_2 ?_
    refine Go_ald0 dX9_advanceTo_3 ?_
    refine gf8_1 dX9_advanceTo_4 flX9_15 (by first | assumption | rfl) ?_
    refine Go_icmp_ge (tgt := 30) dX9_advanceTo_7 (by decide) (by constructor <;> omega) (by constructor <;> omega) (fun h7 => by omega) (fun h7 => ?_)
    refine Go_ald0 dX9_advanceTo_10 ?_
    refine gf8_0 dX9_advanceTo_11 flX9_9 (by first | assumption | rfl) ?_
    refine Go_ild2 dX9_advanceTo_14 ?_
    refine Go_iconst dX9_advanceTo_15 ?_
    refine Go_isub dX9_advanceTo_16 ?_
    refine Go_ald0 dX9_advanceTo_17 ?_
    refine gf8_0 dX9_advanceTo_18 flX9_9 (by first | assumption | rfl) ?_
    refine Go_ild2 dX9_advanceTo_21 ?_
    refine Go_iald dX9_advanceTo_22 ht1 trivial (by omega) (by omega) (by decide) ?_
    refine Go_iast dX9_advanceTo_23 ht1 trivial (by omega) (by omega) (by decide) ?_
    refine Go_inc2 dX9_advanceTo_24 rfl ?_
    refine Go_goto (tgt := 2) dX9_advanceTo_27 (by decide) ?_
    rw [show (i : Int) + 1 = ((i + 1 : Nat) : Int) by omega]
    refine ih (i + 1) _ (by omega) (by omega) (f1.up (by simp)) (fun j hj => ?_)
    rw [Int.toNat_natCast, show ((i : Int) - 1).toNat = i - 1 by omega, h9]
    by_cases q : j = i - 1
    · subst q; rw [up_s, if_pos (by omega), show i - 1 + 1 = i by omega]
    · rw [up_k q, hw j hj]; by_cases q2 : j + 1 < i
      · rw [if_pos q2, if_pos (by omega)]
      · rw [if_neg q2, if_neg (by omega)]
theorem e_X9_advanceTo {x : Nat} (h : TR w t l) (hp : 1 ≤ l.length) (k : ∀ w', TR w' t (l.drop 1 ++ [x]) → frm w w' [t, t + 1] → K (vi 0) none w') : Ev G yX9_advanceTo cX9_advanceTo 3 mX9_advanceTo none 2 0 0 [vr t, vi (x : Int)] w K X := by
  have h9 := h
  obtain ⟨ht, hn, hl0, hj⟩ := h
  have fin : ∀ w', frm w w' [t + 1] → (∀ j, j < l.length → w' (t + 1) j = if j + 1 < l.length then (l.getD (j + 1) 0 : Int) else (l.getD j 0 : Int)) → Go G cX9_advanceTo mX9_advanceTo none 2 0 0 30 [some (vr t), some (vi (x : Int)), some (vi (l.length : Int))] [] w' K X := by
    intro w' f1 hw
    have e : w' t 1 = (l.length : Int) := by rw [f1.at (by simp), hn]
    have hT : TR w' t (l.drop 1 ++ [l.getD (l.length - 1) 0]) := by
      refine ⟨ht, by rw [e]; simp; omega, by simp; omega, fun j hj => ?_⟩
      simp only [List.length_append, List.length_drop, List.length_cons, List.length_nil] at hj
      rw [hw j (by omega)]
      by_cases q : j + 1 < l.length
      · rw [if_pos q]
        rw [List.getD_eq_getElem?_getD, List.getD_eq_getElem?_getD, List.getElem?_append_left (by simp; omega), List.getElem?_drop, Nat.add_comm 1 j]
      · rw [if_neg q]
        have ej : j = l.length - 1 := by omega
        subst ej
        simp [List.getD_eq_getElem?_getD, List.getElem?_append_right (show (l.drop 1).length ≤ l.length - 1 by simp)]
    refine Go_ald0 dX9_advanceTo_30 ?_
    refine Go_ald0 dX9_advanceTo_31 ?_
    refine gf8_1 dX9_advanceTo_32 flX9_15 (by first | assumption | rfl) ?_
    refine Go_iconst dX9_advanceTo_35 ?_
    refine Go_isub dX9_advanceTo_36 ?_
    refine Go_ild1 dX9_advanceTo_37 ?_
    refine Go_cVv2 (d' := 1) (bc' := 0) (bs' := 0) rfl dX9_advanceTo_38 mvX9_put rfl lkX9_38 (by first | assumption | rfl) rfl trivial (by decide) (by decide) (by decide) (Nat.le_of_ble_eq_true rfl) ?_
    rw [e, show (l.length : Int) - 1 = ((l.length - 1 : Nat) : Int) by omega]
    refine e_X9_put hT (by simp) (fun w2 h2 f2 => ?_)
    refine Go_return dX9_advanceTo_41 rfl ?_
    refine k _ ?_ ((f1.mono (by simp)).trans f2 (fun _ h => h))
    have e9 : (l.drop 1 ++ [l.getD (l.length - 1) 0]).set (l.length - 1) x = l.drop 1 ++ [x] := by rw [List.set_append_right _ _ (by simp)]; simp
    rw [e9] at h2
    exact h2
  refine Ev_intro mvX9_advanceTo.1 rfl (fun h => by cases h) (allc1 rfl) (Nat.le_of_ble_eq_true rfl) (Or.inl rfl) ?_
  show Go G cX9_advanceTo mX9_advanceTo none 2 0 0 0 [some (vr t), some (vi (x : Int)), none] [] w K X
  refine Go_iconst dX9_advanceTo_0 ?_
  refine Go_ist2 dX9_advanceTo_1 rfl ?_
  exact l_X9_advanceTo h9 fin (l.length - 1) 1 w (by omega) (by omega) frm.rfl (fun j hj => by rw [if_neg (by omega)]; exact h9.2.2.2 j hj)
end Traw
