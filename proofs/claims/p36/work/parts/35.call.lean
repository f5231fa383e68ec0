/-! what a call answers, and the state behind it -/
def cA (s : Sta) (kd a b c : Nat) : Int × Sta :=
  if kd = 0 then (if ow s.1 (10 * b + a) = -1 ∧ s.1.length < 5 then ((s.1.length : Int), (s.1 ++ [[10 * b + a]], s.2.1, s.2.2.1, s.2.2.2)) else (-103, s))
  else if ¬ a < s.1.length then (-101, s)
  else if kd = 1 then (stepR s.1 a b, stepS s a b)
  else if kd = 2 then (if (pth s.1 a).length = 1 then (-103, s) else (((pth s.1 a).length : Int) - 1, (s.1.set a ((pth s.1 a).take ((pth s.1 a).length - 1)), s.2.1, s.2.2.1, s.2.2.2)))
  else if kd = 3 then (slithR s.1 a b, slithS s a b)
  else if kd = 4 then (if ¬ b < (pth s.1 a).length then (-101, s) else if whyT s.1 a b c = 0 then (0, turS s a b c) else (whyT s.1 a b c, (s.1, s.2.1, s.2.2.1 + 1, s.2.2.2)))
  else if kd = 5 then ((hdL (pth s.1 a).reverse : Int), (s.1.set a (pth s.1 a).reverse, s.2.1, s.2.2.1, s.2.2.2))
  else if kd = 6 then (if ¬ b < s.1.length then (-101, s) else if a = b then (-102, s) else if sqD (hdL (pth s.1 a)) (hdL (pth s.1 b)) = 1 ∧ (pth s.1 a).length + (pth s.1 b).length ≤ 60 then (((pth s.1 a).length : Int) + (pth s.1 b).length, (weldP s.1 a b, s.2.1, s.2.2.1, s.2.2.2)) else (-103, s))
  else if kd = 7 then (if ¬ b + 1 < (pth s.1 a).length then (-101, s) else if s.1.length = 5 then (-103, s) else ((s.1.length : Int), (s.1.set a ((pth s.1 a).take (b + 1)) ++ [(pth s.1 a).drop (b + 1)], s.2.1, s.2.2.1, s.2.2.2)))
  else (((s.1.eraseIdx a).length : Int), (s.1.eraseIdx a, s.2.1, s.2.2.1, s.2.2.2))
theorem stepR_in (ps : List (List Nat)) (p d : Nat) : 0 ≤ stepR ps p d ∧ stepR ps p d ≤ 4 := by
  have := rsn_in ps p (stepT ps p d)
  unfold stepR
  split <;> omega
theorem slithR_in (ps : List (List Nat)) (p d : Nat) : 0 ≤ slithR ps p d ∧ slithR ps p d ≤ 3 := by
  have := rsn_in ps p (stepT ps p d)
  unfold slithR
  split <;> omega
section Call
variable {G : Gm} {w w' : Wd} {K : Kt} {X : Xt} {s s' : Sta} {sv : List Sta} {g : Nat → Option Sta} {tx : List Nat} {kd a b c : Nat} {ans : Int}
theorem callK (k : ∀ w', CI w' (cA s kd a b c).2 (if (cA s kd a b c).1 < -100 then sv else pushS sv s) g tx → frm w w' ccs → K (vi (cA s kd a b c).1) none w') (hA : cA s kd a b c = (ans, s')) (h0 : -100 ≤ ans) (hc : CI w' s' (pushS sv s) g tx) (f : frm w w' ccs) : K (vi ans) none w' := by
  have := k w'
  rw [hA] at this
  exact this (by rw [if_neg (by show ¬ ans < -100; omega)]; exact hc) f
theorem callX (k : ∀ w', CI w' (cA s kd a b c).2 (if (cA s kd a b c).1 < -100 then sv else pushS sv s) g tx → frm w w' ccs → K (vi (cA s kd a b c).1) none w') (hA : cA s kd a b c = (ans, s)) (h0 : ans < -100) (hc : CI w s sv g tx) : K (vi ans) none w := by
  have := k w
  rw [hA] at this
  exact this (by rw [if_pos (show ans < -100 by omega)]; exact hc) frm.rfl
/-- which numbers a call takes -/
def argOK (s : Sta) (kd a b c : Nat) : Prop := kd ≤ 8 ∧ a < 10 ∧ b < 60 ∧ (kd = 0 → b < 10) ∧ (kd = 1 ∨ kd = 3 → b < 4) ∧ 1 ≤ c ∧ c ≤ 3
theorem e_L_call (h : CI w s sv g tx) (hk : argOK s kd a b c)
    (k : ∀ w', CI w' (cA s kd a b c).2 (if (cA s kd a b c).1 < -100 then sv else pushS sv s) g tx → frm w w' ccs → K (vi (cA s kd a b c).1) none w') :
    Ev G yL_call cL_call 5 mL_call none 10 20 120 [vr 1, vi (kd : Int), vi (a : Int), vi (b : Int), vi (c : Int)] w K X := by
  obtain ⟨k8, ha, hb, hb0, hb1, hc1, hc3⟩ := hk
  have h5 : s.1.length ≤ 5 := h.2.1.1
  have ra : inR (a : Int) := by constructor <;> omega
  have rb : inR (b : Int) := by constructor <;> omega
  have rc : inR (c : Int) := by constructor <;> omega
  have kc : kd = 0 ∨ kd = 1 ∨ kd = 2 ∨ kd = 3 ∨ kd = 4 ∨ kd = 5 ∨ kd = 6 ∨ kd = 7 ∨ kd = 8 := by omega
  refine Ev_intro msL_call.1 rfl (fun h => by cases h) (allc1 rfl) (Nat.le_of_ble_eq_true rfl) (Or.inl rfl) ?_
  show Go G cL_call mL_call none 10 20 120 0 [some (vr 1), some (vi (kd : Int)), some (vi (a : Int)), some (vi (b : Int)), some (vi (c : Int))] [] w K X
  rcases kc with rfl | rfl | rfl | rfl | rfl | rfl | rfl | rfl | rfl
  · have en : numI (a : Int) (b : Int) = ((10 * b + a : Nat) : Int) := by unfold numI; rw [if_pos (by omega)]; omega
    refine Go_ild1 dL_call_0 ?_
    refine Go_tsIn (i := 0) (off := 47) (tgt := 48) dL_call_1 (by omega) ⟨⟨by decide, by decide⟩, by decide⟩ (by decide) (by decide) ?_
    refine Go_ald0 dL_call_48 ?_
    refine Go_ild2 dL_call_49 ?_
    refine Go_ild3 dL_call_50 ?_
    refine Go_cSW3 (d' := 8) (bc' := 2) (bs' := 12) rfl dL_call_51 msL_start rfl lkL_95 (by decide) (by omega) (by omega) (Nat.le_of_ble_eq_true rfl) ?_
    refine e_L_start h ra rb (fun w1 x e1 e2 e3 e4 e5 => ?_) (fun e1 => by omega) (fun x e1 e2 => ?_)
    · obtain rfl : x = 10 * b + a := by omega
      refine Go_ireturn dL_call_54 rfl (by first | rfl | decide | exact nar_b | simp [narrow]) ?_
      exact callK k (by unfold cA; rw [if_pos rfl, if_pos ⟨e2, e3⟩]) (by omega) e4 e5
    · obtain rfl : x = 10 * b + a := by omega
      refine Go_ireturn dL_call_54 rfl (by first | rfl | decide | exact nar_b | simp [narrow]) ?_
      exact callX k (by unfold cA; rw [if_pos rfl, if_neg e2]) (by omega) h
  · have z : 0 ≤ stepR s.1 a b := (stepR_in s.1 a b).1
    refine Go_ild1 dL_call_0 ?_
    refine Go_tsIn (i := 1) (off := 54) (tgt := 55) dL_call_1 (by omega) ⟨⟨by decide, by decide⟩, by decide⟩ (by decide) (by decide) ?_
    refine Go_ald0 dL_call_55 ?_
    refine Go_ild2 dL_call_56 ?_
    refine Go_ild3 dL_call_57 ?_
    refine Go_cSW3 (d' := 9) (bc' := 2) (bs' := 12) rfl dL_call_58 msL_step rfl lkL_98 (by decide) (by omega) (by omega) (Nat.le_of_ble_eq_true rfl) ?_
    refine e_L_step h ra rb (fun w1 p d e1 e2 e3 e4 e5 e6 => ?_) (fun e1 => ?_) (fun e1 e2 e3 => by omega)
    · obtain rfl : p = a := by omega
      obtain rfl : d = b := by omega
      refine Go_ireturn dL_call_61 rfl (by first | rfl | decide | exact nar_b | simp [narrow]) ?_
      exact callK k (by unfold cA; rw [if_neg (by decide), if_neg (by omega), if_pos rfl]) (by omega) e5 e6
    · skip
      refine Go_ireturn dL_call_61 rfl (by first | rfl | decide | exact nar_b | simp [narrow]) ?_
      exact callX k (by unfold cA; rw [if_neg (by decide), if_pos (by omega)]) (by omega) h
  · skip
    refine Go_ild1 dL_call_0 ?_
    refine Go_tsIn (i := 2) (off := 61) (tgt := 62) dL_call_1 (by omega) ⟨⟨by decide, by decide⟩, by decide⟩ (by decide) (by decide) ?_
    refine Go_ald0 dL_call_62 ?_
    refine Go_ild2 dL_call_63 ?_
    refine Go_cSW2 (d' := 8) (bc' := 2) (bs' := 12) rfl dL_call_64 msL_back rfl lkL_100 (by decide) (by omega) (by omega) (Nat.le_of_ble_eq_true rfl) ?_
    refine e_L_back h ra (fun w1 p e1 e2 e3 e5 e6 => ?_) (fun e1 => ?_) (fun p e1 e2 e3 => ?_)
    · obtain rfl : p = a := by omega
      refine Go_ireturn dL_call_67 rfl (by first | rfl | decide | exact nar_b | simp [narrow]) ?_
      exact callK k (by unfold cA; rw [if_neg (by decide), if_neg (by omega), if_neg (by decide), if_pos rfl, if_neg (by omega)]) (by omega) e5 e6
    · skip
      refine Go_ireturn dL_call_67 rfl (by first | rfl | decide | exact nar_b | simp [narrow]) ?_
      exact callX k (by unfold cA; rw [if_neg (by decide), if_pos (by omega)]) (by omega) h
    · obtain rfl : p = a := by omega
      refine Go_ireturn dL_call_67 rfl (by first | rfl | decide | exact nar_b | simp [narrow]) ?_
      exact callX k (by unfold cA; rw [if_neg (by decide), if_neg (by omega), if_neg (by decide), if_pos rfl, if_pos e3]) (by omega) h
  · have z : 0 ≤ slithR s.1 a b := (slithR_in s.1 a b).1
    refine Go_ild1 dL_call_0 ?_
    refine Go_tsIn (i := 3) (off := 67) (tgt := 68) dL_call_1 (by omega) ⟨⟨by decide, by decide⟩, by decide⟩ (by decide) (by decide) ?_
    refine Go_ald0 dL_call_68 ?_
    refine Go_ild2 dL_call_69 ?_
    refine Go_ild3 dL_call_70 ?_
    refine Go_cSW3 (d' := 9) (bc' := 2) (bs' := 12) rfl dL_call_71 msL_slither rfl lkL_102 (by decide) (by omega) (by omega) (Nat.le_of_ble_eq_true rfl) ?_
    refine e_L_slither h ra rb (fun w1 p d e1 e2 e3 e4 e5 e6 => ?_) (fun e1 => ?_) (fun e1 e2 e3 => by omega)
    · obtain rfl : p = a := by omega
      obtain rfl : d = b := by omega
      refine Go_ireturn dL_call_74 rfl (by first | rfl | decide | exact nar_b | simp [narrow]) ?_
      exact callK k (by unfold cA; rw [if_neg (by decide), if_neg (by omega), if_neg (by decide), if_neg (by decide), if_pos rfl]) (by omega) e5 e6
    · skip
      refine Go_ireturn dL_call_74 rfl (by first | rfl | decide | exact nar_b | simp [narrow]) ?_
      exact callX k (by unfold cA; rw [if_neg (by decide), if_pos (by omega)]) (by omega) h
  · have z : 0 ≤ whyT s.1 a b c := (whyT_in s.1 a b c).1
    refine Go_ild1 dL_call_0 ?_
    refine Go_tsIn (i := 4) (off := 74) (tgt := 75) dL_call_1 (by omega) ⟨⟨by decide, by decide⟩, by decide⟩ (by decide) (by decide) ?_
    refine Go_ald0 dL_call_75 ?_
    refine Go_ild2 dL_call_76 ?_
    refine Go_ild3 dL_call_77 ?_
    refine Go_ild4 dL_call_78 ?_
    refine Go_cSW4 (d' := 9) (bc' := 3) (bs' := 18) rfl dL_call_80 msL_turn rfl lkL_104 (by decide) (by omega) (by omega) (Nat.le_of_ble_eq_true rfl) ?_
    refine e_L_turn h ra rb rc (fun w1 p j q e1 e2 e3 e4 e5 e6 e7 e8 e9 f1 => ?_) (fun w1 p j q e1 e2 e3 e4 e5 e6 e7 e8 e9 f1 => ?_) (fun e1 => ?_) (fun p j e1 e2 e3 e4 e5 => by omega)
    · obtain rfl : p = a := by omega
      obtain rfl : j = b := by omega
      obtain rfl : q = c := by omega
      refine Go_ireturn dL_call_83 rfl (by first | rfl | decide | exact nar_b | simp [narrow]) ?_
      exact callK k (by unfold cA; rw [if_neg (by decide), if_neg (by omega), if_neg (by decide), if_neg (by decide), if_neg (by decide), if_pos rfl, if_neg (by omega), if_pos e8]) (by omega) e9 f1
    · obtain rfl : p = a := by omega
      obtain rfl : j = b := by omega
      obtain rfl : q = c := by omega
      refine Go_ireturn dL_call_83 rfl (by first | rfl | decide | exact nar_b | simp [narrow]) ?_
      exact callK k (by unfold cA; rw [if_neg (by decide), if_neg (by omega), if_neg (by decide), if_neg (by decide), if_neg (by decide), if_pos rfl, if_neg (by omega), if_neg e8]) (by omega) e9 f1
    · have e2 := e1 a b rfl
      refine Go_ireturn dL_call_83 rfl (by first | rfl | decide | exact nar_b | simp [narrow]) ?_
      by_cases q : a < s.1.length
      · exact callX k (by unfold cA; rw [if_neg (by decide), if_neg (by omega), if_neg (by decide), if_neg (by decide), if_neg (by decide), if_pos rfl, if_pos (e2 q rfl)]) (by omega) h
      · exact callX k (by unfold cA; rw [if_neg (by decide), if_pos q]) (by omega) h
  · skip
    refine Go_ild1 dL_call_0 ?_
    refine Go_tsIn (i := 5) (off := 83) (tgt := 84) dL_call_1 (by omega) ⟨⟨by decide, by decide⟩, by decide⟩ (by decide) (by decide) ?_
    refine Go_ald0 dL_call_84 ?_
    refine Go_ild2 dL_call_85 ?_
    refine Go_cSW2 (d' := 8) (bc' := 1) (bs' := 6) rfl dL_call_86 msL_reverse rfl lkL_106 (by decide) (by omega) (by omega) (Nat.le_of_ble_eq_true rfl) ?_
    refine e_L_reverse h ra (fun w1 p e1 e2 e5 e6 => ?_) (fun e1 => ?_)
    · obtain rfl : p = a := by omega
      refine Go_ireturn dL_call_89 rfl (by first | rfl | decide | exact nar_b | simp [narrow]) ?_
      exact callK k (by unfold cA; rw [if_neg (by decide), if_neg (by omega), if_neg (by decide), if_neg (by decide), if_neg (by decide), if_neg (by decide), if_pos rfl]) (by omega) e5 e6
    · skip
      refine Go_ireturn dL_call_89 rfl (by first | rfl | decide | exact nar_b | simp [narrow]) ?_
      exact callX k (by unfold cA; rw [if_neg (by decide), if_pos (by omega)]) (by omega) h
  · have lt := fun p => h.2.1.lt p
    have hq : ∀ p o, nbr (hdL (pth s.1 p)) (hdL (pth s.1 o)) ↔ sqD (hdL (pth s.1 p)) (hdL (pth s.1 o)) = 1 := fun p o => (sqD_nbr ((lt p).at _) ((lt o).at _)).symm
    refine Go_ild1 dL_call_0 ?_
    refine Go_tsIn (i := 6) (off := 89) (tgt := 90) dL_call_1 (by omega) ⟨⟨by decide, by decide⟩, by decide⟩ (by decide) (by decide) ?_
    refine Go_ald0 dL_call_90 ?_
    refine Go_ild2 dL_call_91 ?_
    refine Go_ild3 dL_call_92 ?_
    refine Go_cSW3 (d' := 9) (bc' := 4) (bs' := 24) rfl dL_call_93 msL_join rfl lkL_108 (by decide) (by omega) (by omega) (Nat.le_of_ble_eq_true rfl) ?_
    refine e_L_join h ra rb (fun w1 p o e1 e2 e3 e4 e5 e6 e7 e8 e9 => ?_) (fun e1 => ?_) (fun e1 e2 e3 => ?_) (fun p o e1 e2 e3 e4 e5 e6 => ?_)
    · obtain rfl : p = a := by omega
      obtain rfl : o = b := by omega
      rw [hq] at e6
      refine Go_ireturn dL_call_96 rfl (by first | rfl | decide | exact nar_b | simp [narrow]) ?_
      exact callK k (by unfold cA; rw [if_neg (by decide), if_neg (by omega), if_neg (by decide), if_neg (by decide), if_neg (by decide), if_neg (by decide), if_neg (by decide), if_pos rfl, if_neg (by omega), if_neg e5, if_pos ⟨e6, e7⟩]) (by omega) e8 e9
    · skip
      refine Go_ireturn dL_call_96 rfl (by first | rfl | decide | exact nar_b | simp [narrow]) ?_
      by_cases q : a < s.1.length
      · exact callX k (by unfold cA; rw [if_neg (by decide), if_neg (by omega), if_neg (by decide), if_neg (by decide), if_neg (by decide), if_neg (by decide), if_neg (by decide), if_pos rfl, if_pos (by omega)]) (by omega) h
      · exact callX k (by unfold cA; rw [if_neg (by decide), if_pos q]) (by omega) h
    · skip
      refine Go_ireturn dL_call_96 rfl (by first | rfl | decide | exact nar_b | simp [narrow]) ?_
      exact callX k (by unfold cA; rw [if_neg (by decide), if_neg (by omega), if_neg (by decide), if_neg (by decide), if_neg (by decide), if_neg (by decide), if_neg (by decide), if_pos rfl, if_neg (by omega), if_pos (by omega)]) (by omega) h
    · obtain rfl : p = a := by omega
      obtain rfl : o = b := by omega
      rw [hq] at e6
      refine Go_ireturn dL_call_96 rfl (by first | rfl | decide | exact nar_b | simp [narrow]) ?_
      exact callX k (by unfold cA; rw [if_neg (by decide), if_neg (by omega), if_neg (by decide), if_neg (by decide), if_neg (by decide), if_neg (by decide), if_neg (by decide), if_pos rfl, if_neg (by omega), if_neg e5, if_neg e6]) (by omega) h
  · skip
    refine Go_ild1 dL_call_0 ?_
    refine Go_tsIn (i := 7) (off := 96) (tgt := 97) dL_call_1 (by omega) ⟨⟨by decide, by decide⟩, by decide⟩ (by decide) (by decide) ?_
    refine Go_ald0 dL_call_97 ?_
    refine Go_ild2 dL_call_98 ?_
    refine Go_ild3 dL_call_99 ?_
    refine Go_cSW3 (d' := 9) (bc' := 3) (bs' := 18) rfl dL_call_100 msL_split rfl lkL_110 (by decide) (by omega) (by omega) (Nat.le_of_ble_eq_true rfl) ?_
    refine e_L_split h ra rb (fun w1 p j e1 e2 e3 e4 e5 e6 e7 => ?_) (fun e1 => ?_) (fun p j e1 e2 e3 e4 e5 => ?_)
    · obtain rfl : p = a := by omega
      obtain rfl : j = b := by omega
      refine Go_ireturn dL_call_103 rfl (by first | rfl | decide | exact nar_b | simp [narrow]) ?_
      exact callK k (by unfold cA; rw [if_neg (by decide), if_neg (by omega), if_neg (by decide), if_neg (by decide), if_neg (by decide), if_neg (by decide), if_neg (by decide), if_neg (by decide), if_pos rfl, if_neg (by omega), if_neg (by omega)]) (by omega) e6 e7
    · have e2 := e1 a b rfl
      refine Go_ireturn dL_call_103 rfl (by first | rfl | decide | exact nar_b | simp [narrow]) ?_
      by_cases q : a < s.1.length
      · exact callX k (by unfold cA; rw [if_neg (by decide), if_neg (by omega), if_neg (by decide), if_neg (by decide), if_neg (by decide), if_neg (by decide), if_neg (by decide), if_neg (by decide), if_pos rfl, if_pos (e2 q rfl)]) (by omega) h
      · exact callX k (by unfold cA; rw [if_neg (by decide), if_pos q]) (by omega) h
    · obtain rfl : p = a := by omega
      obtain rfl : j = b := by omega
      refine Go_ireturn dL_call_103 rfl (by first | rfl | decide | exact nar_b | simp [narrow]) ?_
      exact callX k (by unfold cA; rw [if_neg (by decide), if_neg (by omega), if_neg (by decide), if_neg (by decide), if_neg (by decide), if_neg (by decide), if_neg (by decide), if_neg (by decide), if_pos rfl, if_neg (by omega), if_pos e5]) (by omega) h
  · skip
    refine Go_ild1 dL_call_0 ?_
    refine Go_tsOut (tgt := 104) dL_call_1 (by constructor <;> omega) (by omega) (by decide) ?_
    refine Go_ald0 dL_call_104 ?_
    refine Go_ild2 dL_call_105 ?_
    refine Go_cSW2 (d' := 8) (bc' := 1) (bs' := 6) rfl dL_call_106 msL_remove rfl lkL_112 (by decide) (by omega) (by omega) (Nat.le_of_ble_eq_true rfl) ?_
    refine e_L_remove h ra (fun w1 p e1 e2 e5 e6 => ?_) (fun e1 => ?_)
    · obtain rfl : p = a := by omega
      refine Go_ireturn dL_call_109 rfl (by first | rfl | decide | exact nar_b | simp [narrow]) ?_
      exact callK k (by unfold cA; rw [if_neg (by decide), if_neg (by omega), if_neg (by decide), if_neg (by decide), if_neg (by decide), if_neg (by decide), if_neg (by decide), if_neg (by decide), if_neg (by decide)]) (by omega) e5 e6
    · skip
      refine Go_ireturn dL_call_109 rfl (by first | rfl | decide | exact nar_b | simp [narrow]) ?_
      exact callX k (by unfold cA; rw [if_neg (by decide), if_pos (by omega)]) (by omega) h
theorem iteP {α : Type} {P : α → Prop} {c : Prop} [Decidable c] {x y : α} (h1 : c → P x) (h2 : ¬ c → P y) : P (if c then x else y) := by
  by_cases q : c
  · rw [if_pos q]; exact h1 q
  · rw [if_neg q]; exact h2 q
def refP (s : Sta) (r : Int × Sta) : Prop := r.1 < -100 → r.2 = s
theorem cA_refused (h : (cA s kd a b c).1 < -100) : (cA s kd a b c).2 = s := by
  have z1 := (stepR_in s.1 a b).1
  have z2 := (slithR_in s.1 a b).1
  have z3 := (whyT_in s.1 a b c).1
  have key : refP s (cA s kd a b c) := by
    clear h
    unfold cA
    repeat' (refine iteP (P := refP s) (fun _ => ?_) (fun _ => ?_))
    all_goals unfold refP
    all_goals first | exact fun _ => rfl | (intro h; exfalso; dsimp only at h; omega) | (intro h; exfalso; omega)
  exact key h
end Call
