theorem allc1 {as : List Vl} (h : as.all (fun v => c1 (some v)) = true) : ∀ v ∈ as, c1 (some v) = true := List.all_eq_true.mp h
theorem kI {K : Kt} {x y : Int} {nx : Option Nat} {w : Wd} (h : x = y) (k : K (vi y) nx w) : K (vi x) nx w := by rw [h]; exact k
theorem inR_b {c : Prop} [Decidable c] : inR (if c then 1 else 0) := by
  by_cases h : c
  · rw [if_pos h]; exact ⟨by decide, by decide⟩
  · rw [if_neg h]; exact ⟨by decide, by decide⟩
theorem nar_b {c : Prop} [Decidable c] : narrow .boolean (.int (Int32.ofInt (if c then 1 else 0))) = .int (Int32.ofInt (if c then 1 else 0)) := by
  by_cases h : c
  · rw [if_pos h]; rfl
  · rw [if_neg h]; rfl
section GoB
variable {G : Gm} {cc : ByteArray} {mt : Mt} {nx : Option Nat} {d bc bs pc : Nat} {ls : List (Option Vl)} {st : List Vl} {w : Wd} {K : Kt} {X : Xt}
theorem Go_ifb_ne {c : Prop} [Decidable c] {off : Int} {tgt : Nat} (dec : decode cc pc = .ok (.ifCond .ne off, 3)) (ht : (pc : Int) + off = (tgt : Int)) (kt : c → Go G cc mt nx d bc bs tgt ls st w K X) (kf : ¬ c → Go G cc mt nx d bc bs (pc + 3) ls st w K X) : Go G cc mt nx d bc bs pc ls (vi (if c then 1 else 0) :: st) w K X :=
  Go_if_ne dec ht inR_b (fun h => kt (by by_cases q : c; exact q; rw [if_neg q] at h; exact absurd rfl h)) (fun h => kf (fun q => by rw [if_pos q] at h; cases h))
theorem Go_ifb_eq {c : Prop} [Decidable c] {off : Int} {tgt : Nat} (dec : decode cc pc = .ok (.ifCond .eq off, 3)) (ht : (pc : Int) + off = (tgt : Int)) (kt : ¬ c → Go G cc mt nx d bc bs tgt ls st w K X) (kf : c → Go G cc mt nx d bc bs (pc + 3) ls st w K X) : Go G cc mt nx d bc bs pc ls (vi (if c then 1 else 0) :: st) w K X :=
  Go_if_eq dec ht inR_b (fun h => kt (fun q => by rw [if_pos q] at h; cases h)) (fun h => kf (by by_cases q : c; exact q; rw [if_neg q] at h; exact absurd rfl h))
end GoB
/-- a site's number, or -1 -/
def numI (c r : Int) : Int := if 0 ≤ c ∧ c < 10 ∧ 0 ≤ r ∧ r < 10 then 10 * r + c else -1
/-- the site in a direction, or -1 -/
def nbI (s d : Int) : Int := if 0 ≤ d ∧ d < 4 then numI (s % 10 + tabA d.toNat) (s / 10 + tabB d.toNat) else -1
def dirI (a b : Int) : Int := if nbI a 0 = b then 0 else if nbI a 1 = b then 1 else if nbI a 2 = b then 2 else 3
theorem tabA_in (n : Nat) : -1 ≤ tabA n ∧ tabA n ≤ 1 := by
  match n with
  | 0 | 1 | 2 | 3 => exact ⟨by decide, by decide⟩
  | n + 4 => exact ⟨by show (-1 : Int) ≤ 0; decide, by show (0 : Int) ≤ 1; decide⟩
theorem tabB_in (n : Nat) : -1 ≤ tabB n ∧ tabB n ≤ 1 := by
  match n with
  | 0 | 1 | 2 | 3 => exact ⟨by decide, by decide⟩
  | n + 4 => exact ⟨by show (-1 : Int) ≤ 0; decide, by show (0 : Int) ≤ 1; decide⟩
theorem numI_in (c r : Int) : -1 ≤ numI c r ∧ numI c r < 100 := by unfold numI; split <;> omega
theorem nbI_in (s d : Int) : -1 ≤ nbI s d ∧ nbI s d < 100 := by unfold nbI; split; exact numI_in _ _; omega
theorem dirI_in (a b : Int) : 0 ≤ dirI a b ∧ dirI a b < 4 := by unfold dirI; split; omega; split; omega; split <;> omega
theorem sh_t1 {t : Nat} (h : SH t = (1, 8)) : SH (t + 1) = (2, 60) := by
  have hl := SH_lt h (by decide)
  have key : ∀ t, t < 70 → SH t = (1, 8) → SH (t + 1) = (2, 60) := by decide +kernel
  exact key t (by have := hl.2; unfold NA at this; omega) h
/-- what cells stay -/
def frm (w w' : Wd) (A : List Nat) : Prop := ∀ a, a ∉ A → w' a = w a
theorem frm.rfl {w : Wd} {A : List Nat} : frm w w A := fun _ _ => Eq.refl _
theorem frm.up {w w' : Wd} {A : List Nat} {a k : Nat} {z : Int} (h : frm w w' A) (ha : a ∈ A) : frm w (up w' a k z) A := fun b hb => by
  rw [← h b hb]
  funext j
  exact up_a (fun e => hb (by rw [e]; exact ha))
theorem frm.trans {w w' w'' : Wd} {A B : List Nat} (h : frm w w' A) (h2 : frm w' w'' B) (hs : ∀ a ∈ B, a ∈ A) : frm w w'' A := fun a ha => by rw [h2 a (fun q => ha (hs a q)), h a ha]
theorem frm.mono {w w' : Wd} {A B : List Nat} (h : frm w w' A) (hs : ∀ a ∈ A, a ∈ B) : frm w w' B := fun a ha => h a (fun q => ha (hs a q))
theorem frm.at {w w' : Wd} {A : List Nat} (h : frm w w' A) {a : Nat} (ha : a ∉ A) (k : Nat) : w' a k = w a k := by rw [h a ha]
/-- a trail t holds the sites l -/
def TR (w : Wd) (t : Nat) (l : List Nat) : Prop := SH t = (1, 8) ∧ w t 1 = (l.length : Int) ∧ l.length ≤ 60 ∧ ∀ j, j < l.length → w (t + 1) j = (l.getD j 0 : Int)
theorem TR.frm {w w' : Wd} {t : Nat} {l : List Nat} {A : List Nat} (h : TR w t l) (f : frm w w' A) (h1 : t ∉ A) (h2 : t + 1 ∉ A) : TR w' t l := ⟨h.1, by rw [f.at h1]; exact h.2.1, h.2.2.1, fun j hj => by rw [f.at h2]; exact h.2.2.2 j hj⟩
def atI (l : List Nat) (z : Int) : Int := if 0 ≤ z ∧ z < l.length then (l.getD z.toNat 0 : Int) else -1
