section Jd
variable {G : Gm} {w : Wd} {K : Kt} {X : Xt}
theorem l_J7_fill {a n : Nat} {x : Int} (hs : SH a = (2, n)) (hn : n < 2147483648) (k : ∀ w', frm w w' [a] → (∀ j, j < n → w' a j = x) → K (vi 0) none w') :
    ∀ (m i : Nat) (w1 : Wd), i + m = n → frm w w1 [a] → (∀ j, j < i → w1 a j = x) → Go G cJ7_fill_53178 mJ7_fill_53178 none 0 0 0 5 [some (vr a), some (vi x), some (vi (i : Int)), some (vi (n : Int))] [] w1 K X := by
  intro m
  induction m with
  | zero =>
    intro i w1 him f1 h1
    refine Go_ild2 dJ7_fill_53178_5 ?_
    refine Go_ild3 dJ7_fill_53178_6 ?_
    refine Go_icmp_ge (tgt := 20) dJ7_fill_53178_7 (by decide) (by constructor <;> omega) (by constructor <;> omega) (fun h7 => ?_) (fun h7 => by omega)
    refine Go_return dJ7_fill_53178_20 rfl ?_
    exact k w1 f1 (fun j hj => h1 j (by omega))
  | succ m ih =>
    intro i w1 him f1 h1
    refine Go_ild2 dJ7_fill_53178_5 ?_
    refine Go_ild3 dJ7_fill_53178_6 ?_
    refine Go_icmp_ge (tgt := 20) dJ7_fill_53178_7 (by decide) (by constructor <;> omega) (by constructor <;> omega) (fun h7 => by omega) (fun h7 => ?_)
    refine Go_ald0 dJ7_fill_53178_10 ?_
    refine Go_ild2 dJ7_fill_53178_11 ?_
    refine Go_ild1 dJ7_fill_53178_12 ?_
    refine Go_iast dJ7_fill_53178_13 hs trivial (by omega) (by omega) hn ?_
    refine Go_inc2 dJ7_fill_53178_14 rfl ?_
    refine Go_goto (tgt := 5) dJ7_fill_53178_17 (by decide) ?_
    rw [show (i : Int) + 1 = ((i + 1 : Nat) : Int) by omega]
    refine ih (i + 1) _ (by omega) (f1.up (by simp)) (fun j hj => ?_)
    rw [Int.toNat_natCast]
    by_cases q : j = i
    · subst q; rw [up_s]
    · rw [up_k q]; exact h1 j (by omega)
theorem e_J7_fill_53178 {a n : Nat} {x : Int} (hs : SH a = (2, n)) (hn : n < 2147483648) (k : ∀ w', frm w w' [a] → (∀ j, j < n → w' a j = x) → K (vi 0) none w') : Ev G yJ7_fill_53178 cJ7_fill_53178 4 mJ7_fill_53178 none 0 0 0 [vr a, vi x] w K X := by
  refine Ev_intro msJ7_fill_53178.1 rfl (fun h => by cases h) (allc1 rfl) (Nat.le_of_ble_eq_true rfl) (Or.inl rfl) ?_
  show Go G cJ7_fill_53178 mJ7_fill_53178 none 0 0 0 0 [some (vr a), some (vi x), none, none] [] w K X
  refine Go_iconst dJ7_fill_53178_0 ?_
  refine Go_ist2 dJ7_fill_53178_1 rfl ?_
  refine Go_ald0 dJ7_fill_53178_2 ?_
  refine Go_alen2 dJ7_fill_53178_3 hs trivial ?_
  refine Go_ist3 dJ7_fill_53178_4 rfl ?_
  exact l_J7_fill hs hn k n 0 w (by omega) frm.rfl (fun j hj => absurd hj (by omega))
end Jd
