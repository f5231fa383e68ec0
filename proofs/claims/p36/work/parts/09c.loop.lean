/-- locals of which less is said -/
def lsub : List (Option Vl) → List (Option Vl) → Prop
  | [], [] => True
  | a :: as, b :: bs => (a = none ∨ a = b) ∧ lsub as bs
  | _, _ => False
theorem lsub_len : ∀ (a b : List (Option Vl)), lsub a b → a.length = b.length
  | [], [], _ => rfl
  | _ :: as, _ :: bs, h => by rw [List.length_cons, List.length_cons, lsub_len as bs h.2]
  | [], _ :: _, h => h.elim
  | _ :: _, [], h => h.elim
theorem lsub_at : ∀ (a b : List (Option Vl)), lsub a b → ∀ (i : Nat) (v : Vl), a[i]? = some (some v) → b[i]? = some (some v)
  | [], [], _, i, v, e => by simp at e
  | a :: as, b :: bs, h, 0, v, e => by
    simp only [List.getElem?_cons_zero, Option.some.injEq] at e ⊢
    rcases h.1 with q | q
    · rw [q] at e; cases e
    · rw [← q]; exact e
  | _ :: as, _ :: bs, h, i + 1, v, e => by
    simp only [List.getElem?_cons_succ] at e ⊢
    exact lsub_at as bs h.2 i v e
  | [], _ :: _, h, _, _, _ => h.elim
  | _ :: _, [], h, _, _, _ => h.elim
theorem lcg {x y : Int} (h : x = y) : some (vi x) = some (vi y) := by rw [h]
section Loops
variable {G : Gm} {cc : ByteArray} {mt : Mt} {nx : Option Nat} {d bc bs pc : Nat} {ls ls' : List (Option Vl)} {st : List Vl} {w : Wd} {K : Kt} {X : Xt}
theorem Go_forget (h : lsub ls' ls) (k : Go G cc mt nx d bc bs pc ls' st w K X) : Go G cc mt nx d bc bs pc ls st w K X := by
  intro p e R s m args below meth c Q H locs cells slots la C EK EX hl hw hS h1 h2
  have e9 := lsub_len _ _ h
  exact k p e R s m args below meth c Q H locs cells slots la (by rw [e9]; exact C) EK EX ⟨by rw [e9]; exact hl.1, hl.2.1, fun i v hv => hl.2.2 i v (lsub_at _ _ h i v hv)⟩ hw hS h1 h2
/-- a loop that counts up -/
theorem Go_upTo {n : Nat} {L : Nat → List (Option Vl)} {P : Nat → Wd → Prop} (hl : lsub (L 0) ls) (hp : P 0 w)
    (hs : ∀ i v, i < n → P i v → (∀ v', P (i + 1) v' → Go G cc mt nx d bc bs pc (L (i + 1)) st v' K X) → Go G cc mt nx d bc bs pc (L i) st v K X)
    (he : ∀ v, P n v → Go G cc mt nx d bc bs pc (L n) st v K X) : Go G cc mt nx d bc bs pc ls st w K X := by
  have key : ∀ (m i : Nat) (v : Wd), i + m = n → P i v → Go G cc mt nx d bc bs pc (L i) st v K X := by
    intro m
    induction m with
    | zero => intro i v hi hv; have : i = n := by omega
              subst this; exact he v hv
    | succ m ih => intro i v hi hv; exact hs i v (by omega) hv (fun v' hv' => ih (i + 1) v' (by omega) hv')
  exact Go_forget hl (key n 0 w (by omega) hp)
end Loops
/-- sums, least and greatest of the first ones -/
def smF (f : Nat → Int) : Nat → Int
  | 0 => 0
  | n + 1 => smF f n + f n
def mnF (f : Nat → Int) (a : Int) : Nat → Int
  | 0 => a
  | n + 1 => if f n < mnF f a n then f n else mnF f a n
def mxF (f : Nat → Int) (a : Int) : Nat → Int
  | 0 => a
  | n + 1 => if mxF f a n < f n then f n else mxF f a n
theorem smF_in {f : Nat → Int} {c : Int} {n : Nat} (h : ∀ j, j < n → 0 ≤ f j ∧ f j ≤ c) : 0 ≤ smF f n ∧ smF f n ≤ c * n := by
  induction n with
  | zero => simp [smF]
  | succ n ih =>
    have := ih (fun j hj => h j (by omega))
    have h2 := h n (by omega)
    show 0 ≤ smF f n + f n ∧ smF f n + f n ≤ c * ((n + 1 : Nat) : Int)
    rw [show c * ((n + 1 : Nat) : Int) = c * n + c by rw [Int.natCast_succ, Int.mul_add, Int.mul_one]]
    omega
theorem smF_congr {f g : Nat → Int} {n : Nat} (h : ∀ j, j < n → f j = g j) : smF f n = smF g n := by
  induction n with
  | zero => rfl
  | succ n ih => show smF f n + f n = smF g n + g n; rw [ih (fun j hj => h j (by omega)), h n (by omega)]
theorem mnF_in {f : Nat → Int} {a lo hi : Int} {n : Nat} (ha : lo ≤ a ∧ a ≤ hi) (h : ∀ j, j < n → lo ≤ f j ∧ f j ≤ hi) : lo ≤ mnF f a n ∧ mnF f a n ≤ hi := by
  induction n with
  | zero => exact ha
  | succ n ih =>
    have := ih (fun j hj => h j (by omega))
    have h2 := h n (by omega)
    show lo ≤ (if f n < mnF f a n then f n else mnF f a n) ∧ (if f n < mnF f a n then f n else mnF f a n) ≤ hi
    split <;> omega
theorem mxF_in {f : Nat → Int} {a lo hi : Int} {n : Nat} (ha : lo ≤ a ∧ a ≤ hi) (h : ∀ j, j < n → lo ≤ f j ∧ f j ≤ hi) : lo ≤ mxF f a n ∧ mxF f a n ≤ hi := by
  induction n with
  | zero => exact ha
  | succ n ih =>
    have := ih (fun j hj => h j (by omega))
    have h2 := h n (by omega)
    show lo ≤ (if mxF f a n < f n then f n else mxF f a n) ∧ (if mxF f a n < f n then f n else mxF f a n) ≤ hi
    split <;> omega
/-- all sites are on the lattice -/
def LT (l : List Nat) : Prop := ∀ x ∈ l, x < 100
theorem LT.at {l : List Nat} (h : LT l) (j : Nat) : l.getD j 0 < 100 := by
  rw [List.getD_eq_getElem?_getD]
  cases e : l[j]? with
  | none => show 0 < 100; omega
  | some x => exact h x (List.mem_of_getElem? e)
theorem atI_nat {l : List Nat} {z : Int} {j : Nat} (hz : z = (j : Int)) (hj : j < l.length) : atI l z = (l.getD j 0 : Int) := by
  subst hz
  unfold atI
  rw [if_pos (by omega), Int.toNat_natCast]
theorem getD_mem {l : List Nat} {j : Nat} (hj : j < l.length) : l.getD j 0 ∈ l := by
  rw [List.getD_eq_getElem?_getD, List.getElem?_eq_getElem hj]
  exact List.getElem_mem hj
theorem mem_getD {l : List Nat} {x : Nat} (hx : x ∈ l) : ∃ j, j < l.length ∧ l.getD j 0 = x := by
  obtain ⟨j, hj, e⟩ := List.getElem_of_mem hx
  exact ⟨j, hj, by rw [List.getD_eq_getElem?_getD, List.getElem?_eq_getElem hj]; exact e⟩
theorem take_getD {l : List Nat} {i : Nat} (hi : i < l.length) : l.take i ++ [l.getD i 0] = l.take (i + 1) := by
  rw [List.take_succ, List.getD_eq_getElem?_getD, List.getElem?_eq_getElem hi]
  rfl
theorem drop_getD {l : List Nat} {i j : Nat} : (l.drop i).getD j 0 = l.getD (i + j) 0 := by
  rw [List.getD_eq_getElem?_getD, List.getD_eq_getElem?_getD, List.getElem?_drop]
theorem gD_app {a b : List Nat} {j : Nat} : (a ++ b).getD j 0 = if j < a.length then a.getD j 0 else b.getD (j - a.length) 0 := by
  by_cases h : j < a.length
  · rw [if_pos h, List.getD_eq_getElem?_getD, List.getElem?_append_left h, List.getD_eq_getElem?_getD]
  · rw [if_neg h, List.getD_eq_getElem?_getD, List.getElem?_append_right (by omega), List.getD_eq_getElem?_getD]
theorem gD_take {l : List Nat} {n j : Nat} (h : j < n) : (l.take n).getD j 0 = l.getD j 0 := by
  rw [List.getD_eq_getElem?_getD, List.getElem?_take, if_pos h, List.getD_eq_getElem?_getD]
theorem gD_rev {l : List Nat} {j : Nat} (h : j < l.length) : l.reverse.getD j 0 = l.getD (l.length - 1 - j) 0 := by
  rw [List.getD_eq_getElem?_getD, List.getElem?_reverse h, List.getD_eq_getElem?_getD]
theorem up_f {w : Wd} {a k b : Nat} {z : Int} (h : b ≠ a) : up w a k z b = w b := by funext j; exact up_a h
