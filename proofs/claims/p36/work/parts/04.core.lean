/-! A SMALL MACHINE OVER THE KIT'S ROWS. Values are integers (what the int is the residue of), or addresses of the claim's own cells, numbered in the order in which they are made; a world is what each cell holds at each place. 'Go' is the kit's W with all that does not change put away; 'Ev' is a method's contract, told by what its caller does next. -/
abbrev Vl : Type := Int ⊕ Nat ⊕ Int ⊕ UInt64 ⊕ UInt32 ⊕ Unit
abbrev vi (z : Int) : Vl := .inl z
abbrev vr (a : Nat) : Vl := .inr (.inl a)
abbrev vl (z : Int) : Vl := .inr (.inr (.inl z))
abbrev vd (x : UInt64) : Vl := .inr (.inr (.inr (.inl x)))
abbrev vf (x : UInt32) : Vl := .inr (.inr (.inr (.inr (.inl x))))
abbrev vo : Vl := .inr (.inr (.inr (.inr (.inr ()))))
abbrev Wd : Type := Nat → Nat → Int
/-- the launch; the first own cell; the cells that were there before; the kinds of objects; of arrays; the script -/
abbrev Gm : Type := Launch × Nat × (Nat → Nat) × va_G × (Nat → ClassId) × Nat × (Nat → Int32) × Option Nat
def Gb (G : Gm) : Nat := G.2.1
def Gs (G : Gm) : Nat → Nat := G.2.2.1
def GD (G : Gm) : va_G := G.2.2.2.1
def Gc (G : Gm) : Nat → ClassId := G.2.2.2.2.1
def GL (G : Gm) : Nat := G.2.2.2.2.2.1
def Gx (G : Gm) : Nat → Int32 := G.2.2.2.2.2.2.1
def Gn (G : Gm) : Option Nat := G.2.2.2.2.2.2.2
def rho (G : Gm) (a : Nat) : Nat := if a < 1000 then Gb G + (a - 1) else Gs G a
def cv (G : Gm) : Vl → Value
  | .inl z => .int (Int32.ofInt z)
  | .inr (.inl a) => .ref (rho G a)
  | .inr (.inr (.inl z)) => .long (Int64.ofInt z)
  | .inr (.inr (.inr (.inl x))) => .double x
  | .inr (.inr (.inr (.inr (.inl x)))) => .float x
  | .inr (.inr (.inr (.inr (.inr _)))) => va_rf (Gn G)
def ownA (G : Gm) : Nat → Prop := fun q => Gb G ≤ q
/-- what each own cell is: 1 an object of a kind, 2 ints, 3 chars, 4 booleans, 5 trails, 6 saved states, 7 longs, 8 doubles -/
def SHl : List (Nat × Nat) := [(0,0),(1,10),(1,0),(5,5),(2,100),(2,100),(1,8),(2,60),(1,8),(2,60),(1,8),(2,60),(1,8),(2,60),(1,8),(2,60),(1,1),(6,6),(1,4),(2,100),(2,5),(1,4),(2,100),(2,5),(1,4),(2,100),(2,5),(1,4),(2,100),(2,5),(1,4),(2,100),(2,5),(1,4),(2,100),(2,5),(1,7),(6,2),(4,2),(1,4),(2,100),(2,5),(1,4),(2,100),(2,5),(1,2),(3,70),(1,8),(2,60),(1,9),(2,60),(1,5),(4,100),(1,3),(2,100),(2,100),(4,100),(2,100),(1,6),(2,60),(2,60),(2,60),(2,60),(1,6),(2,60),(2,60),(2,60),(2,60),(2,9),(2,60)]
def SH (a : Nat) : Nat × Nat := SHl.getD a (0, 0)
def NA : Nat := 69
/-- the fields of a kind: which are references -/
def ftl (ci : Nat) : List Bool := match ci with
  | 0 => [true, false, false, false, false, true, true, false]
  | 1 => [true, false, false]
  | 2 => [true, false]
  | 3 => [true, true, true, true, false]
  | 4 => [true, true, false, false, false, false]
  | 5 => [true]
  | 6 => [true, true, true, true, false]
  | 7 => [true, true]
  | 8 => [true, false]
  | 9 => [true]
  | 10 => [true, true, true, true, true, true, true, true, true, true]
  | _ => []
/-- where the references of an own cell lead, once all are made -/
def RF (a k : Nat) : Nat := match SH a with
  | (1, 0) => if k = 0 then 3 else k - 1
  | (1, 3) => a + 1 + k
  | (1, 4) => a + 1 + k
  | (1, 6) => a + 1 + k
  | (1, 7) => a + 1 + k
  | (1, 10) => [2, 16, 36, 45, 47, 49, 51, 53, 58, 63].getD k 0
  | (1, _) => a + 1
  | (6, 6) => a + 1 + 3 * k
  | _ => a + 2 + 3 * k
/-- a reference that stays, once all are made -/
def rv (nx : Option Nat) (w : Wd) (a k : Nat) : Int := match nx with
  | none => (RF a k : Int)
  | some _ => w a k
def rfo (G : Gm) (z : Int) : Option Nat := if z = 0 then none else some (rho G z.toNat)
def fldv (G : Gm) (b : Bool) (z : Int) : Value := if b then va_rf (rfo G z) else .int (Int32.ofInt z)
def flds (G : Gm) (nx : Option Nat) (w : Wd) (a ci : Nat) : List Value := (ftl ci).mapIdx fun k b => fldv G b (if b then rv nx w a k else w a k)
def cont (G : Gm) (nx : Option Nat) (w : Wd) (a : Nat) : va_E := match (SH a).1 with
  | 1 => .inr ((SH a).2, flds G nx w a (SH a).2)
  | 2 => .inl (Gc G 2, (SH a).2, .inl (fun j => Int32.ofInt (w a j)))
  | 3 => .inl (Gc G 3, (SH a).2, .inl (fun j => Int32.ofInt (w a j)))
  | 4 => .inl (Gc G 4, (SH a).2, .inl (fun j => Int32.ofInt (w a j)))
  | 5 => .inl (Gc G 5, (SH a).2, .inr (.inr (.inr (.inr (fun j => rfo G (w a j))))))
  | 6 => .inl (Gc G 6, (SH a).2, .inr (.inr (.inr (.inr (fun j => rfo G (rv nx w a j))))))
  | 7 => .inl (Gc G 7, (SH a).2, .inr (.inl (fun j => Int64.ofInt (w a j))))
  | 8 => .inl (Gc G 8, (SH a).2, .inr (.inr (.inr (.inl (fun j => UInt64.ofNat (w a j).toNat)))))
  | _ => .inl (0, 0, .inl (fun _ => 0))
/-- how many own cells there are: all, or those below the next one -/
def cnt (nx : Option Nat) : Nat := match nx with
  | none => NA
  | some n => n - 1
def okx (nx : Option Nat) (a : Nat) : Prop := match nx with
  | none => True
  | some n => a < n
def wl (G : Gm) (nx : Option Nat) (w : Wd) : va_W := (List.range (cnt nx)).map fun i => (rho G (i + 1), cont G nx w (i + 1))
def wholds (G : Gm) (nx : Option Nat) (w : Wd) (H : Heap) : Prop := va_P (GD G) vwCl (wl G nx w) H ∧ ∀ n, nx = some n → 1 ≤ n ∧ n ≤ NA + 1 ∧ H.size = Gb G + (n - 1)
def up (w : Wd) (a k : Nat) (z : Int) : Wd := fun b j => if b = a ∧ j = k then z else w b j
theorem up_s {w : Wd} {a k : Nat} {z : Int} : up w a k z a k = z := by simp [up]
theorem up_a {w : Wd} {a k b j : Nat} {z : Int} (h : b ≠ a) : up w a k z b j = w b j := by simp [up, h]
theorem up_k {w : Wd} {a k b j : Nat} {z : Int} (h : j ≠ k) : up w a k z b j = w b j := by simp [up, h]
theorem SHl_len : SHl.length = 70 := rfl
theorem SH_lt {a k n : Nat} (h : SH a = (k, n)) (hk : k ≠ 0) : 1 ≤ a ∧ a ≤ NA := by
  have h1 : a < SHl.length := by
    rcases Nat.lt_or_ge a SHl.length with q | q
    · exact q
    · rw [SH, List.getD_eq_getElem?_getD, List.getElem?_eq_none q] at h
      cases h
      exact absurd rfl hk
  rw [SHl_len] at h1
  refine ⟨?_, by unfold NA; omega⟩
  rcases Nat.eq_zero_or_pos a with q | q
  · subst q
    have : (0, 0) = (k, n) := h
    cases this
    exact absurd rfl hk
  · exact q
theorem okx_cnt {nx : Option Nat} {a k n : Nat} (h : SH a = (k, n)) (hk : k ≠ 0) (hx : okx nx a) : 1 ≤ a ∧ a - 1 < cnt nx := by
  have := SH_lt h hk
  refine ⟨this.1, ?_⟩
  cases nx with
  | none => show a - 1 < NA; omega
  | some n => have hx : a < n := hx; show a - 1 < n - 1; omega
theorem wl_at (G : Gm) {nx : Option Nat} (w : Wd) {a : Nat} (h1 : 1 ≤ a) (h2 : a - 1 < cnt nx) : (wl G nx w)[a - 1]? = some (rho G a, cont G nx w a) := by
  have e : a - 1 + 1 = a := by omega
  unfold wl
  rw [List.getElem?_map, List.getElem?_range h2]
  simp [e]
theorem wl_len (G : Gm) (nx : Option Nat) (w : Wd) : (wl G nx w).length = cnt nx := by simp [wl]
/-- one cell is written -/
theorem wl_set (G : Gm) {nx : Option Nat} {w w' : Wd} {a : Nat} {E : va_E} (h1 : 1 ≤ a) (h2 : a - 1 < cnt nx) (he : cont G nx w' a = E) (ho : ∀ b, b ≠ a → cont G nx w' b = cont G nx w b) : (wl G nx w).set (a - 1) (rho G a, E) = wl G nx w' := by
  apply List.ext_getElem?
  intro i
  by_cases hi : i = a - 1
  · subst hi
    rw [List.getElem?_set_self (by rw [wl_len]; exact h2), wl_at G w' h1 h2, he]
  · rw [List.getElem?_set_ne (Ne.symm hi)]
    unfold wl
    rw [List.getElem?_map, List.getElem?_map]
    cases hr : (List.range (cnt nx))[i]? with
    | none => rfl
    | some j =>
      have : j = i := by
        have := List.getElem?_eq_some_iff.mp hr
        obtain ⟨h, e⟩ := this
        rw [List.getElem_range] at e
        exact e.symm
      subst this
      simp only [Option.map_some]
      rw [ho (j + 1) (by omega)]
theorem cnt_le {nx : Option Nat} {n : Nat} (h : nx = some n → n ≤ NA + 1) : True := trivial
theorem rho_own (G : Gm) {a : Nat} (h : a ≤ NA) : rho G a = Gb G + (a - 1) := by
  unfold rho
  rw [if_pos (by unfold NA at h; omega)]
theorem wl_D (G : Gm) {nx : Option Nat} (w : Wd) (hc : cnt nx ≤ NA) : va_D (ownA G) (wl G nx w) := by
  have key : ∀ (k : Nat) (q : Nat × va_E), (wl G nx w)[k]? = some q → k < cnt nx ∧ q.1 = Gb G + k := by
    intro k q hk
    have hl : k < cnt nx := by rw [← wl_len G nx w]; exact (List.getElem?_eq_some_iff.mp hk).1
    have := wl_at G (nx := nx) w (a := k + 1) (by omega) (by omega)
    rw [show k + 1 - 1 = k by omega] at this
    rw [this] at hk
    cases hk
    refine ⟨hl, ?_⟩
    show rho G (k + 1) = _
    rw [rho_own G (by omega)]
    omega
  refine ⟨fun i j p q hi hj h => ?_, fun k q hk => ?_⟩
  · have a1 := key i p hi
    have a2 := key j q hj
    omega
  · have := (key k q hk).2
    show Gb G ≤ q.1
    omega
theorem wholds_cnt {G : Gm} {nx : Option Nat} {w : Wd} {H : Heap} (h : wholds G nx w H) : cnt nx ≤ NA := by
  cases nx with
  | none => exact Nat.le_refl _
  | some n => have := h.2 n rfl; show n - 1 ≤ NA; omega
/-- the cell of an address -/
theorem wholds_at {G : Gm} {nx : Option Nat} {w : Wd} {H : Heap} (h : wholds G nx w H) {a k n : Nat} (hs : SH a = (k, n)) (hk : k ≠ 0) (hx : okx nx a) : va_at (GD G) vwCl (rho G a, cont G nx w a) H :=
  h.1 (a - 1) _ (wl_at G w (okx_cnt hs hk hx).1 (okx_cnt hs hk hx).2)
def inR (z : Int) : Prop := -2147483648 ≤ z ∧ z < 2147483648
theorem inR_toInt {z : Int} (h : inR z) : (Int32.ofInt z).toInt = z := Int32.toInt_ofInt_of_le h.1 h.2
theorem iI_le {a b : Int} (ha : inR a) (hb : inR b) : Int32.ofInt a ≤ Int32.ofInt b ↔ a ≤ b := by
  rw [Int32.le_iff_toInt_le, inR_toInt ha, inR_toInt hb]
theorem iI_lt {a b : Int} (ha : inR a) (hb : inR b) : Int32.ofInt a < Int32.ofInt b ↔ a < b := by
  rw [Int32.lt_iff_toInt_lt, inR_toInt ha, inR_toInt hb]
theorem iI_eq {a b : Int} (ha : inR a) (hb : inR b) : Int32.ofInt a = Int32.ofInt b ↔ a = b := by
  rw [← Int32.toInt_inj, inR_toInt ha, inR_toInt hb]
theorem iI_nat (n : Nat) : Int32.ofInt (n : Int) = nI n := rfl
theorem iI_0 : Int32.ofInt 0 = 0 := rfl
theorem iI_in {z : Int} {n : Nat} (h0 : 0 ≤ z) (h : z < n) (hn : n < 2 ^ 31) : vp_in (Int32.ofInt z) n ∧ (Int32.ofInt z).toNatClampNeg = z.toNat := by
  obtain ⟨k, rfl⟩ := Int.eq_ofNat_of_zero_le h0
  have hk : k < n := by omega
  exact ⟨vp_in_nI hk hn, by rw [iI_nat, nI_clamp (by omega)]; rfl⟩
