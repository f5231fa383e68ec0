theorem nbr_iff {a b : Nat} (ha : a < 100) (hb : b < 100) : nbr a b ↔ (a % 10 = b % 10 ∧ (a / 10 = b / 10 + 1 ∨ b / 10 = a / 10 + 1)) ∨ (a / 10 = b / 10 ∧ (a % 10 = b % 10 + 1 ∨ b % 10 = a % 10 + 1)) := by
  have e0 : nbI (a : Int) ((0 : Nat) : Int) = numI ((a : Int) % 10 + 0) ((a : Int) / 10 + -1) := rfl
  have e1 : nbI (a : Int) ((1 : Nat) : Int) = numI ((a : Int) % 10 + 1) ((a : Int) / 10 + 0) := rfl
  have e2 : nbI (a : Int) ((2 : Nat) : Int) = numI ((a : Int) % 10 + 0) ((a : Int) / 10 + 1) := rfl
  have e3 : nbI (a : Int) ((3 : Nat) : Int) = numI ((a : Int) % 10 + -1) ((a : Int) / 10 + 0) := rfl
  constructor
  · rintro ⟨d, hd, e⟩
    have c : d = 0 ∨ d = 1 ∨ d = 2 ∨ d = 3 := by omega
    rcases c with rfl | rfl | rfl | rfl
    · rw [e0] at e; unfold numI at e; split at e <;> omega
    · rw [e1] at e; unfold numI at e; split at e <;> omega
    · rw [e2] at e; unfold numI at e; split at e <;> omega
    · rw [e3] at e; unfold numI at e; split at e <;> omega
  · rintro (⟨h, h2 | h2⟩ | ⟨h, h2 | h2⟩)
    · refine ⟨0, by omega, ?_⟩; rw [e0]; unfold numI; rw [if_pos (by omega)]; omega
    · refine ⟨2, by omega, ?_⟩; rw [e2]; unfold numI; rw [if_pos (by omega)]; omega
    · refine ⟨3, by omega, ?_⟩; rw [e3]; unfold numI; rw [if_pos (by omega)]; omega
    · refine ⟨1, by omega, ?_⟩; rw [e1]; unfold numI; rw [if_pos (by omega)]; omega
theorem sw_spec {s p q : Nat} (h : swI s p q ≠ -1) : (((swI s p q).toNat : Nat) : Int) % 10 = (p : Int) % 10 + (rcN ((s : Int) % 10 - (p : Int) % 10) ((s : Int) / 10 - (p : Int) / 10) q).1 ∧ (((swI s p q).toNat : Nat) : Int) / 10 = (p : Int) / 10 + (rcN ((s : Int) % 10 - (p : Int) % 10) ((s : Int) / 10 - (p : Int) / 10) q).2 ∧ (swI s p q).toNat < 100 := by
  generalize hc : (rcN ((s : Int) % 10 - (p : Int) % 10) ((s : Int) / 10 - (p : Int) / 10) q).1 = c
  generalize hr : (rcN ((s : Int) % 10 - (p : Int) % 10) ((s : Int) / 10 - (p : Int) / 10) q).2 = r
  have e : swI s p q = numI ((p : Int) % 10 + c) ((p : Int) / 10 + r) := by unfold swI; rw [hc, hr]
  rw [e] at h ⊢
  unfold numI at h ⊢
  split at h
  · rename_i g
    rw [if_pos g]
    omega
  · exact absurd rfl h
theorem rcN_c (c r : Int) : rcN c r 0 = (c, r) ∧ rcN c r 1 = (-r, c) ∧ rcN c r 2 = (-c, -r) ∧ rcN c r 3 = (- -r, -c) := ⟨rfl, rfl, rfl, rfl⟩
theorem sw_inj {s s' p q : Nat} (hs : s < 100) (hs' : s' < 100) (hq : q ≤ 3) (h : swI s p q ≠ -1) (h' : swI s' p q ≠ -1) (e : (swI s p q).toNat = (swI s' p q).toNat) : s = s' := by
  have a := sw_spec h
  have b := sw_spec h'
  rw [e] at a
  have k1 := rcN_c ((s : Int) % 10 - (p : Int) % 10) ((s : Int) / 10 - (p : Int) / 10)
  have k2 := rcN_c ((s' : Int) % 10 - (p : Int) % 10) ((s' : Int) / 10 - (p : Int) / 10)
  have c : q = 0 ∨ q = 1 ∨ q = 2 ∨ q = 3 := by omega
  rcases c with rfl | rfl | rfl | rfl
  · rw [k1.1] at a; rw [k2.1] at b; dsimp only at a b; omega
  · rw [k1.2.1] at a; rw [k2.2.1] at b; dsimp only at a b; omega
  · rw [k1.2.2.1] at a; rw [k2.2.2.1] at b; dsimp only at a b; omega
  · rw [k1.2.2.2] at a; rw [k2.2.2.2] at b; dsimp only at a b; omega
theorem sw_self {p : Nat} (hp : p < 100) {q : Nat} (hq : q ≤ 3) : swI p p q = (p : Int) := by
  have k1 := rcN_c ((p : Int) % 10 - (p : Int) % 10) ((p : Int) / 10 - (p : Int) / 10)
  have c : q = 0 ∨ q = 1 ∨ q = 2 ∨ q = 3 := by omega
  have z : ∀ a b : Int, a = 0 → b = 0 → numI ((p : Int) % 10 + a) ((p : Int) / 10 + b) = (p : Int) := fun a b ha hb => by
    subst ha; subst hb; unfold numI; rw [if_pos (by omega)]; omega
  unfold swI
  rcases c with rfl | rfl | rfl | rfl
  · rw [k1.1]; exact z _ _ (by dsimp only; omega) (by dsimp only; omega)
  · rw [k1.2.1]; exact z _ _ (by dsimp only; omega) (by dsimp only; omega)
  · rw [k1.2.2.1]; exact z _ _ (by dsimp only; omega) (by dsimp only; omega)
  · rw [k1.2.2.2]; exact z _ _ (by dsimp only; omega) (by dsimp only; omega)
theorem sw_nbr {s s' p q : Nat} (hs : s < 100) (hs' : s' < 100) (hq : q ≤ 3) (h : swI s p q ≠ -1) (h' : swI s' p q ≠ -1) (hn : nbr s s') : nbr (swI s p q).toNat (swI s' p q).toNat := by
  have a := sw_spec h
  have b := sw_spec h'
  rw [nbr_iff hs hs'] at hn
  have fin : ∀ (x y : Nat), ((x : Int) % 10 = (y : Int) % 10 ∧ ((x : Int) / 10 = (y : Int) / 10 + 1 ∨ (y : Int) / 10 = (x : Int) / 10 + 1)) ∨ ((x : Int) / 10 = (y : Int) / 10 ∧ ((x : Int) % 10 = (y : Int) % 10 + 1 ∨ (y : Int) % 10 = (x : Int) % 10 + 1)) → (x % 10 = y % 10 ∧ (x / 10 = y / 10 + 1 ∨ y / 10 = x / 10 + 1)) ∨ (x / 10 = y / 10 ∧ (x % 10 = y % 10 + 1 ∨ y % 10 = x % 10 + 1)) := fun x y h => by
    rcases h with ⟨h1, h2 | h2⟩ | ⟨h1, h2 | h2⟩
    · exact Or.inl ⟨by omega, Or.inl (by omega)⟩
    · exact Or.inl ⟨by omega, Or.inr (by omega)⟩
    · exact Or.inr ⟨by omega, Or.inl (by omega)⟩
    · exact Or.inr ⟨by omega, Or.inr (by omega)⟩
  rw [nbr_iff a.2.2 b.2.2]
  have k1 := rcN_c ((s : Int) % 10 - (p : Int) % 10) ((s : Int) / 10 - (p : Int) / 10)
  have k2 := rcN_c ((s' : Int) % 10 - (p : Int) % 10) ((s' : Int) / 10 - (p : Int) / 10)
  refine fin _ _ ?_
  obtain ⟨a1, a2, -⟩ := a
  obtain ⟨b1, b2, -⟩ := b
  rw [a1, a2, b1, b2]
  have hx : (((s : Int) % 10 - (p : Int) % 10) = ((s' : Int) % 10 - (p : Int) % 10) ∧ (((s : Int) / 10 - (p : Int) / 10) = ((s' : Int) / 10 - (p : Int) / 10) + 1 ∨ ((s' : Int) / 10 - (p : Int) / 10) = ((s : Int) / 10 - (p : Int) / 10) + 1)) ∨ (((s : Int) / 10 - (p : Int) / 10) = ((s' : Int) / 10 - (p : Int) / 10) ∧ (((s : Int) % 10 - (p : Int) % 10) = ((s' : Int) % 10 - (p : Int) % 10) + 1 ∨ ((s' : Int) % 10 - (p : Int) % 10) = ((s : Int) % 10 - (p : Int) % 10) + 1)) := by
    rcases hn with ⟨h1, h2 | h2⟩ | ⟨h1, h2 | h2⟩
    · exact Or.inl ⟨by omega, Or.inl (by omega)⟩
    · exact Or.inl ⟨by omega, Or.inr (by omega)⟩
    · exact Or.inr ⟨by omega, Or.inl (by omega)⟩
    · exact Or.inr ⟨by omega, Or.inr (by omega)⟩
  clear a1 a2 b1 b2 fin hn h h' hs hs'
  generalize (s : Int) % 10 - (p : Int) % 10 = c at hx ⊢
  generalize (s : Int) / 10 - (p : Int) / 10 = r at hx ⊢
  generalize (s' : Int) % 10 - (p : Int) % 10 = c' at hx ⊢
  generalize (s' : Int) / 10 - (p : Int) / 10 = r' at hx ⊢
  generalize (p : Int) % 10 = u
  generalize (p : Int) / 10 = v
  have k1 := rcN_c c r
  have k2 := rcN_c c' r'
  have c : q = 0 ∨ q = 1 ∨ q = 2 ∨ q = 3 := by omega
  rcases c with rfl | rfl | rfl | rfl
  · rw [k1.1, k2.1]; dsimp only; rcases hx with ⟨h1, h2 | h2⟩ | ⟨h1, h2 | h2⟩ <;> omega
  · rw [k1.2.1, k2.2.1]; dsimp only; rcases hx with ⟨h1, h2 | h2⟩ | ⟨h1, h2 | h2⟩ <;> omega
  · rw [k1.2.2.1, k2.2.2.1]; dsimp only; rcases hx with ⟨h1, h2 | h2⟩ | ⟨h1, h2 | h2⟩ <;> omega
  · rw [k1.2.2.2, k2.2.2.2]; dsimp only; rcases hx with ⟨h1, h2 | h2⟩ | ⟨h1, h2 | h2⟩ <;> omega
