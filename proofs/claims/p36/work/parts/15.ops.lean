theorem ADJ.app {a b : List Nat} (ha : ADJ a) (hb : ADJ b) (h : a ≠ [] → b ≠ [] → nbr (hdL a) (b.getD 0 0)) : ADJ (a ++ b) := by
  intro j hj
  rw [List.length_append] at hj
  rw [gD_app, gD_app]
  by_cases q : j + 1 < a.length
  · rw [if_pos (by omega), if_pos q]; exact ha j q
  · by_cases q2 : j < a.length
    · rw [if_pos q2, if_neg q, show j + 1 - a.length = 0 by omega]
      have e : j = a.length - 1 := by omega
      rw [e]
      exact h (fun e => by rw [e] at q2; simp at q2) (fun e => by rw [e] at hj; simp at hj; omega)
    · rw [if_neg q2, if_neg q, show j + 1 - a.length = (j - a.length) + 1 by omega]
      exact hb _ (by omega)
theorem ADJ_one (x : Nat) : ADJ [x] := fun j hj => by simp at hj
theorem ADJ.take {l : List Nat} (h : ADJ l) (n : Nat) : ADJ (l.take n) := by
  intro j hj
  rw [List.length_take] at hj
  rw [gD_take (by omega), gD_take (by omega)]
  exact h j (by omega)
theorem ADJ.drop {l : List Nat} (h : ADJ l) (n : Nat) : ADJ (l.drop n) := by
  intro j hj
  rw [List.length_drop] at hj
  rw [drop_getD, drop_getD]
  exact h (n + j) (by omega)
theorem nbr_symm {a b : Nat} (ha : a < 100) (hb : b < 100) (h : nbr a b) : nbr b a := by
  have key : ∀ a : Fin 100, ∀ d : Fin 4, nbI (a.val : Int) (d.val : Int) = -1 ∨ nbI (nbI (a.val : Int) (d.val : Int)) (((d.val + 2) % 4 : Nat) : Int) = (a.val : Int) := by decide +kernel
  obtain ⟨d, hd, e⟩ := h
  refine ⟨(d + 2) % 4, by omega, ?_⟩
  have := key ⟨a, ha⟩ ⟨d, hd⟩
  dsimp only at this
  rw [e] at this
  rcases this with q | q
  · omega
  · exact q
theorem ADJ.rev {l : List Nat} (h : ADJ l) (hl : LT l) : ADJ l.reverse := by
  intro j hj
  rw [List.length_reverse] at hj
  rw [gD_rev (by omega), gD_rev hj]
  refine nbr_symm (hl.at _) (hl.at _) ?_
  have := h (l.length - 1 - (j + 1)) (by omega)
  rw [show l.length - 1 - (j + 1) + 1 = l.length - 1 - j by omega] at this
  exact this
theorem LT.take {l : List Nat} (h : LT l) (n : Nat) : LT (l.take n) := fun x hx => h x (List.mem_of_mem_take hx)
theorem LT.drop {l : List Nat} (h : LT l) (n : Nat) : LT (l.drop n) := fun x hx => h x (List.mem_of_mem_drop hx)
theorem LT.app {a b : List Nat} (h : LT a) (h2 : LT b) : LT (a ++ b) := fun x hx => by
  rcases List.mem_append.mp hx with q | q
  · exact h x q
  · exact h2 x q
theorem LT.rev {l : List Nat} (h : LT l) : LT l.reverse := fun x hx => h x (List.mem_reverse.mp hx)
theorem OKp.set {ps : List (List Nat)} {p : Nat} {l : List Nat} (h : OKp ps) (hp : p < ps.length) (h1 : 1 ≤ l.length) (h60 : l.length ≤ 60) (ha : ADJ l) (hl : LT l) (hn : l.Nodup) (hd : ∀ x ∈ l, ∀ q, q ≠ p → x ∉ pth ps q) : OKp (ps.set p l) := by
  refine ⟨by rw [List.length_set]; exact h.1, fun q hq => ?_, fun q => ?_, fun q => ⟨?_, fun r hr x hx => ?_⟩⟩
  · rw [List.length_set] at hq
    rw [pth_set hp]
    by_cases e : q = p
    · rw [if_pos e]; exact ⟨h1, h60, ha⟩
    · rw [if_neg e]; exact h.2.1 q hq
  · rw [pth_set hp]
    by_cases e : q = p
    · rw [if_pos e]; exact hl
    · rw [if_neg e]; exact h.lt q
  · rw [pth_set hp]
    by_cases e : q = p
    · rw [if_pos e]; exact hn
    · rw [if_neg e]; exact (h.nd q).1
  · rw [pth_set hp] at hx ⊢
    by_cases e : q = p
    · rw [if_pos e] at hx
      rw [if_neg (by omega)]
      exact hd x hx r (by omega)
    · rw [if_neg e] at hx
      by_cases e2 : r = p
      · rw [if_pos e2]; exact fun q2 => hd x q2 q e hx
      · rw [if_neg e2]; exact (h.nd q).2 r hr x hx
theorem OKp.app {ps : List (List Nat)} {l : List Nat} (h : OKp ps) (h5 : ps.length < 5) (h1 : 1 ≤ l.length) (h60 : l.length ≤ 60) (ha : ADJ l) (hl : LT l) (hn : l.Nodup) (hd : ∀ x ∈ l, ∀ q, x ∉ pth ps q) : OKp (ps ++ [l]) := by
  refine ⟨by rw [List.length_append]; exact h5, fun q hq => ?_, fun q => ?_, fun q => ⟨?_, fun r hr x hx => ?_⟩⟩
  · rw [List.length_append, List.length_cons, List.length_nil] at hq
    rw [pth_app]
    by_cases e : q = ps.length
    · rw [if_pos e]; exact ⟨h1, h60, ha⟩
    · rw [if_neg e]; exact h.2.1 q (by omega)
  · rw [pth_app]
    by_cases e : q = ps.length
    · rw [if_pos e]; exact hl
    · rw [if_neg e]; exact h.lt q
  · rw [pth_app]
    by_cases e : q = ps.length
    · rw [if_pos e]; exact hn
    · rw [if_neg e]; exact (h.nd q).1
  · rw [pth_app] at hx ⊢
    by_cases e : q = ps.length
    · rw [if_pos e] at hx
      rw [if_neg (by omega)]
      exact hd x hx r
    · rw [if_neg e] at hx
      by_cases e2 : r = ps.length
      · rw [if_pos e2]; exact fun q2 => hd x q2 q hx
      · rw [if_neg e2]; exact (h.nd q).2 r hr x hx
theorem OKp.erase {ps : List (List Nat)} {p : Nat} (h : OKp ps) (hp : p < ps.length) : OKp (ps.eraseIdx p) := by
  have e0 : (ps.eraseIdx p).length = ps.length - 1 := List.length_eraseIdx_of_lt hp
  refine ⟨by rw [e0]; have := h.1; omega, fun q hq => ?_, fun q => ?_, fun q => ⟨?_, fun r hr x hx => ?_⟩⟩
  · rw [e0] at hq
    rw [pth_erase]
    split
    · exact h.2.1 q (by omega)
    · exact h.2.1 (q + 1) (by omega)
  · rw [pth_erase]
    split
    · exact h.lt q
    · exact h.lt (q + 1)
  · rw [pth_erase]
    split
    · exact (h.nd q).1
    · exact (h.nd (q + 1)).1
  · rw [pth_erase] at hx ⊢
    by_cases e : q < p
    · rw [if_pos e] at hx
      split
      · exact (h.nd q).2 r hr x hx
      · exact (h.nd q).2 (r + 1) (by omega) x hx
    · rw [if_neg e] at hx
      split
      · exact (h.nd (q + 1)).2 r (by omega) x hx
      · exact (h.nd (q + 1)).2 (r + 1) (by omega) x hx
/-- a state: the paths, the steps made, the refusals, the turns made -/
abbrev Sta : Type := List (List Nat) × Int × Int × Int
def BS (w : Wd) (s : Sta) : Prop := BD w s.1 ∧ w 2 2 = s.2.1 ∧ w 2 3 = s.2.2.1 ∧ w 2 4 = s.2.2.2
theorem BS.frm {w w' : Wd} {s : Sta} {A : List Nat} (h : BS w s) (f : frm w w' A) (hA : ∀ a ∈ A, a < 2 ∨ 16 ≤ a) : BS w' s := by
  have e2 : w' 2 = w 2 := f 2 (fun q => by have := hA _ q; omega)
  exact ⟨h.1.frm f hA, by rw [e2]; exact h.2.1, by rw [e2]; exact h.2.2.1, by rw [e2]; exact h.2.2.2⟩
/-- why a head cannot step to a site -/
def rsn (ps : List (List Nat)) (p : Nat) (t : Int) : Int := if t = -1 then 1 else if owI ps t = p then 2 else if owI ps t = -1 then 0 else 3
theorem rsn_in (ps : List (List Nat)) (p : Nat) (t : Int) : 0 ≤ rsn ps p t ∧ rsn ps p t ≤ 3 := by unfold rsn; split; omega; split; omega; split <;> omega
def stepT (ps : List (List Nat)) (p d : Nat) : Int := nbI (hdL (pth ps p)) d
def stepR (ps : List (List Nat)) (p d : Nat) : Int := if rsn ps p (stepT ps p d) = 0 ∧ (pth ps p).length = 60 then 4 else rsn ps p (stepT ps p d)
def stepS (s : Sta) (p d : Nat) : Sta := if stepR s.1 p d = 0 then (s.1.set p (pth s.1 p ++ [(stepT s.1 p d).toNat]), s.2.1 + 1, s.2.2.1, s.2.2.2) else (s.1, s.2.1, s.2.2.1 + 1, s.2.2.2)
def slithR (ps : List (List Nat)) (p d : Nat) : Int := if stepT ps p d = ((pth ps p).getD 0 0 : Int) then 0 else rsn ps p (stepT ps p d)
def slithS (s : Sta) (p d : Nat) : Sta := if slithR s.1 p d = 0 then (s.1.set p ((pth s.1 p).drop 1 ++ [(stepT s.1 p d).toNat]), s.2.1 + 1, s.2.2.1, s.2.2.2) else (s.1, s.2.1, s.2.2.1 + 1, s.2.2.2)
theorem rsn_0 {ps : List (List Nat)} {p : Nat} {t : Int} (hn : ND ps) (ht : -1 ≤ t ∧ t < 100) (h : rsn ps p t = 0) : 0 ≤ t ∧ ∀ q, t.toNat ∉ pth ps q := by
  unfold rsn at h
  have h1 : t ≠ -1 := fun e => by rw [if_pos e] at h; omega
  rw [if_neg h1] at h
  refine ⟨by omega, fun q hq => ?_⟩
  have e := (ow_of hn hq).1
  have e2 : owI ps t = (q : Int) := by unfold owI; rw [if_pos ⟨by omega, ht.2⟩, e]
  rw [e2] at h
  split at h
  · omega
  · split at h <;> omega
theorem OKp.step {s : Sta} {p d : Nat} (h : OKp s.1) (hp : p < s.1.length) (hd : d < 4) : OKp (stepS s p d).1 := by
  unfold stepS
  by_cases h0 : stepR s.1 p d = 0
  · rw [if_pos h0]
    have hl := h.len hp
    unfold stepR at h0
    have h60 : (pth s.1 p).length ≠ 60 := fun e => by
      by_cases q : rsn s.1 p (stepT s.1 p d) = 0
      · rw [if_pos ⟨q, e⟩] at h0; omega
      · rw [if_neg (fun x => q x.1)] at h0; exact q h0
    rw [if_neg (fun x => h60 x.2)] at h0
    have b := nbI_in (hdL (pth s.1 p)) d
    obtain ⟨t0, tn⟩ := rsn_0 h.nd (by unfold stepT; exact ⟨b.1, b.2⟩) h0
    have bl : (stepT s.1 p d).toNat < 100 := by unfold stepT; omega
    refine h.set hp (by simp) (by rw [List.length_append]; simp; omega) ((h.adj hp).app (ADJ_one _) (fun _ _ => ⟨d, hd, ?_⟩)) ((h.lt p).app (fun x hx => by simp at hx; omega)) ?_ (fun x hx q hq => ?_)
    · show nbI _ _ = (((stepT s.1 p d).toNat : Nat) : Int)
      rw [Int.toNat_of_nonneg t0]
      rfl
    · refine List.nodup_append.mpr ⟨(h.nd p).1, by simp, fun a ha b hb e => ?_⟩
      simp at hb
      rw [e, hb] at ha
      exact tn p ha
    · rcases List.mem_append.mp hx with r | r
      · exact (h.nd p).2 q (by omega) x r
      · simp at r; rw [r]; exact tn q
  · rw [if_neg h0]; exact h
theorem OKp.slith {s : Sta} {p d : Nat} (h : OKp s.1) (hp : p < s.1.length) (hd : d < 4) : OKp (slithS s p d).1 := by
  unfold slithS
  by_cases h0 : slithR s.1 p d = 0
  · rw [if_pos h0]
    have hl := h.len hp
    unfold slithR at h0
    have b := nbI_in (hdL (pth s.1 p)) d
    have hlt := (h.lt p).at 0
    have key : 0 ≤ stepT s.1 p d ∧ (stepT s.1 p d).toNat ∉ (pth s.1 p).drop 1 ∧ ∀ q, q ≠ p → (stepT s.1 p d).toNat ∉ pth s.1 q := by
      by_cases e : stepT s.1 p d = ((pth s.1 p).getD 0 0 : Int)
      · rw [e]
        refine ⟨by omega, fun hx => ?_, fun q hq => (h.nd p).2 q (by omega) _ (getD_mem (by omega))⟩
        obtain ⟨j, hj, e2⟩ := mem_getD hx
        rw [List.length_drop] at hj
        rw [drop_getD, Int.toNat_natCast] at e2
        have i1 := idx_getD (h.nd p).1 (j := 1 + j) (by omega)
        rw [e2, idx_getD (h.nd p).1 (by omega)] at i1
        omega
      · rw [if_neg e] at h0
        obtain ⟨t0, tn⟩ := rsn_0 h.nd (by unfold stepT; exact ⟨b.1, b.2⟩) h0
        exact ⟨t0, fun hx => tn p (List.mem_of_mem_drop hx), fun q _ => tn q⟩
    obtain ⟨t0, tn, tq⟩ := key
    have bl : (stepT s.1 p d).toNat < 100 := by unfold stepT; omega
    refine h.set hp (by simp) (by rw [List.length_append, List.length_drop]; simp; omega) (((h.adj hp).drop 1).app (ADJ_one _) (fun hne _ => ⟨d, hd, ?_⟩)) (((h.lt p).drop 1).app (fun x hx => by simp at hx; omega)) ?_ (fun x hx q hq => ?_)
    · show nbI _ _ = (((stepT s.1 p d).toNat : Nat) : Int)
      rw [Int.toNat_of_nonneg t0]
      have h2 : 2 ≤ (pth s.1 p).length := by
        rcases Nat.lt_or_ge (pth s.1 p).length 2 with q | q
        · exact absurd (List.drop_eq_nil_of_le (by omega)) hne
        · exact q
      have e9 : hdL ((pth s.1 p).drop 1) = hdL (pth s.1 p) := by
        unfold hdL
        rw [drop_getD, List.length_drop, show 1 + ((pth s.1 p).length - 1 - 1) = (pth s.1 p).length - 1 by omega]
      rw [e9]
      rfl
    · refine List.nodup_append.mpr ⟨(h.nd p).1.sublist (List.drop_sublist _ _), by simp, fun a ha b hb e => ?_⟩
      simp at hb
      rw [e, hb] at ha
      exact tn ha
    · rcases List.mem_append.mp hx with r | r
      · exact (h.nd p).2 q (by omega) x (List.mem_of_mem_drop r)
      · simp at r; rw [r]; exact tq q hq
  · rw [if_neg h0]; exact h
/-- one path's trail is written -/
theorem BT_put {w w' : Wd} {ps : List (List Nat)} {p : Nat} {l : List Nat} {A : List Nat} (h : BT w ps) (hp : p < ps.length) (hA : A = [tA w p, tA w p + 1]) (f : frm w w' A) (t : TR w' (tA w p) l) : BT w' (ps.set p l) := by
  subst hA
  obtain ⟨a1, a2, a3, a4, a5⟩ := h
  have b0 := bts_sh (a3 p (by omega)).1
  have e3 : w' 3 = w 3 := f 3 (by simp; omega)
  have e2 : w' 2 = w 2 := f 2 (by simp; omega)
  have eA : ∀ p, tA w' p = tA w p := fun p => by unfold tA; rw [e3]
  refine ⟨by rw [List.length_set, e2, a1], by rw [List.length_set]; exact a2, fun q hq => by rw [eA, e3]; exact a3 q hq, fun q r hq hr e => a4 q r hq hr (by rw [← eA, ← eA]; exact e), fun q hq => ?_⟩
  rw [List.length_set] at hq
  rw [pth_set hp, eA]
  by_cases e : q = p
  · rw [if_pos e, e]; exact t
  · rw [if_neg e]
    have b := bts_sh (a3 q (by omega)).1
    have hne : tA w q ≠ tA w p := fun x => e (a4 q p (by omega) (by omega) x)
    exact (a5 q hq).frm f (by simp; omega) (by simp; omega)
theorem BD.frm_cnt {w : Wd} {ps : List (List Nat)} {k : Nat} {z : Int} (h : BD w ps) (h1 : k ≠ 1) (h7 : k ≠ 7) : BD (up w 2 k z) ps := by
  refine ⟨h.1.frm (A := [2]) (frm.rfl.up (by simp)) (by decide) (up_k (Ne.symm h1)), ?_, by rw [up_k (Ne.symm h7)]; exact h.2.2⟩
  intro s hs
  rw [up_a (by decide), up_a (by decide)]
  exact h.2.1 s hs
theorem bcs_t {t : Nat} (h : t ∈ bts) : ∀ a ∈ [t, t + 1], a ∈ bcs := by
  have key : ∀ t ∈ bts, ∀ a ∈ [t, t + 1], a ∈ bcs := by decide +kernel
  exact key t h
theorem BD.bt {w : Wd} {ps : List (List Nat)} (h : BD w ps) : BT w ps := h.1
theorem BS_ref {w : Wd} {s : Sta} (h : BS w s) : BS (up w 2 3 (w 2 3 + 1)) (s.1, s.2.1, s.2.2.1 + 1, s.2.2.2) := by
  obtain ⟨h0, c1, c2, c3⟩ := h
  exact ⟨BD.frm_cnt h0 (by decide) (by decide), by rw [up_k (by decide)]; exact c1, by rw [up_s, c2], by rw [up_k (by decide)]; exact c3⟩
theorem stepS_t {s : Sta} {p d : Nat} (h : stepR s.1 p d = 0) : stepS s p d = (s.1.set p (pth s.1 p ++ [(stepT s.1 p d).toNat]), s.2.1 + 1, s.2.2.1, s.2.2.2) := by unfold stepS; rw [if_pos h]
theorem stepS_f {s : Sta} {p d : Nat} (h : stepR s.1 p d ≠ 0) : stepS s p d = (s.1, s.2.1, s.2.2.1 + 1, s.2.2.2) := by unfold stepS; rw [if_neg h]
theorem slithS_t {s : Sta} {p d : Nat} (h : slithR s.1 p d = 0) : slithS s p d = (s.1.set p ((pth s.1 p).drop 1 ++ [(stepT s.1 p d).toNat]), s.2.1 + 1, s.2.2.1, s.2.2.2) := by unfold slithS; rw [if_pos h]
theorem slithS_f {s : Sta} {p d : Nat} (h : slithR s.1 p d ≠ 0) : slithS s p d = (s.1, s.2.1, s.2.2.1 + 1, s.2.2.2) := by unfold slithS; rw [if_neg h]
section Ops
variable {G : Gm} {w : Wd} {K : Kt} {X : Xt} {ps : List (List Nat)}
theorem e_X0_refusalAt {t : Int} {p : Nat} (h : MK (w 4) (w 5) ps) (h5 : ps.length ≤ 5) (ht : -1 ≤ t ∧ t < 100) (hp : p < 5) (k : K (vi (rsn ps p t)) none w) : Ev G yX0_refusalAt cX0_refusalAt 3 mX0_refusalAt none 2 0 0 [vr 2, vi t, vi (p : Int)] w K X := by
  have b := owI_in h5 t
  unfold rsn at k
  refine Ev_intro mvX0_refusalAt.1 rfl (fun h => by cases h) (allc1 rfl) (Nat.le_of_ble_eq_true rfl) (Or.inl rfl) ?_
  show Go G cX0_refusalAt mX0_refusalAt none 2 0 0 0 [some (vr 2), some (vi t), some (vi (p : Int))] [] w K X
  by_cases h1 : t = -1
  · rw [if_pos h1] at k
    refine Go_ild1 dX0_refusalAt_0 ?_
    refine Go_iconst dX0_refusalAt_1 ?_
    refine Go_icmp_ne (tgt := 7) dX0_refusalAt_2 (by decide) (by constructor <;> omega) (by constructor <;> omega) (fun h2 => by omega) (fun h2 => ?_)
    refine Go_iconst dX0_refusalAt_5 ?_
    refine Go_ireturn dX0_refusalAt_6 rfl (by first | rfl | decide | exact nar_b | simp [narrow]) ?_
    exact k
  rw [if_neg h1] at k
  have e : owI ps t = ow ps t.toNat := by unfold owI; rw [if_pos (by omega)]
  refine Go_ild1 dX0_refusalAt_0 ?_
  refine Go_iconst dX0_refusalAt_1 ?_
  refine Go_icmp_ne (tgt := 7) dX0_refusalAt_2 (by decide) (by constructor <;> omega) (by constructor <;> omega) (fun h2 => ?_) (fun h2 => by omega)
  refine Go_ald0 dX0_refusalAt_7 ?_
  refine Go_ild1 dX0_refusalAt_8 ?_
  refine Go_cV1 (d' := 1) (bc' := 0) (bs' := 0) rfl dX0_refusalAt_9 mvX0_pathAt rfl lkX0_99 (by first | assumption | rfl) rfl trivial (by decide) (by decide) (by decide) (Nat.le_of_ble_eq_true rfl) ?_
  refine e_X0_pathAt h (by constructor <;> omega) ?_
  refine Go_ild2 dX0_refusalAt_12 ?_
  refine Go_icmp_ne (tgt := 18) dX0_refusalAt_13 (by decide) (by constructor <;> omega) (by constructor <;> omega) (fun h13 => ?_) (fun h13 => ?_)
  · refine Go_ald0 dX0_refusalAt_18 ?_
    refine Go_ild1 dX0_refusalAt_19 ?_
    refine Go_cV1 (d' := 1) (bc' := 0) (bs' := 0) rfl dX0_refusalAt_20 mvX0_isFree rfl lkX0_101 (by first | assumption | rfl) rfl trivial (by decide) (by decide) (by decide) (Nat.le_of_ble_eq_true rfl) ?_
    refine e_X0_isFree h h5 (by constructor <;> omega) ?_
    refine Go_ifb_eq (tgt := 30) dX0_refusalAt_23 (by decide)  (fun h23 => ?_) (fun h23 => ?_)
    · refine Go_iconst dX0_refusalAt_30 ?_
      refine Go_ireturn dX0_refusalAt_31 rfl (by first | rfl | decide | exact nar_b | simp [narrow]) ?_
      first | (rw [if_neg h13, if_pos (by omega)] at k; exact k) | (rw [if_neg h13, if_neg (by omega)] at k; exact k)
    · refine Go_iconst dX0_refusalAt_26 ?_
      refine Go_goto (tgt := 31) dX0_refusalAt_27 (by decide) ?_
      refine Go_ireturn dX0_refusalAt_31 rfl (by first | rfl | decide | exact nar_b | simp [narrow]) ?_
      first | (rw [if_neg h13, if_pos (by omega)] at k; exact k) | (rw [if_neg h13, if_neg (by omega)] at k; exact k)
  · refine Go_iconst dX0_refusalAt_16 ?_
    refine Go_ireturn dX0_refusalAt_17 rfl (by first | rfl | decide | exact nar_b | simp [narrow]) ?_
    rw [if_pos h13] at k
    exact k
theorem e_X0_lengthen {s : Sta} {p d : Nat} (h : BS w s) (ho : OKp s.1) (hp : p < s.1.length) (hd : d < 4) (k : ∀ w', BS w' (stepS s p d) → frm w w' bcs → K (vi (stepR s.1 p d)) none w') : Ev G yX0_lengthen cX0_lengthen 6 mX0_lengthen none 3 0 0 [vr 2, vi (p : Int), vi (d : Int)] w K X := by
  obtain ⟨⟨hb, hm, ht0⟩, c1, c2, c3⟩ := h
  have h5 := hb.2.1
  have h3 := hb.2.2.1 p (by omega)
  have hT := hb.2.2.2.2 p hp
  have hts := bts_sh h3.1
  have hts1 := hts.1
  have hl := ho.len hp
  have hlt := (ho.lt p).at ((pth s.1 p).length - 1)
  have hlt2 : hdL (pth s.1 p) < 100 := hlt
  have bT := nbI_in (hdL (pth s.1 p)) d
  have bT2 : -1 ≤ stepT s.1 p d ∧ stepT s.1 p d < 100 := bT
  have bR := rsn_in s.1 p (stepT s.1 p d)
  have hO := OKp.step ho hp hd
  refine Ev_intro mvX0_lengthen.1 rfl (fun h => by cases h) (allc1 rfl) (Nat.le_of_ble_eq_true rfl) (Or.inl rfl) ?_
  show Go G cX0_lengthen mX0_lengthen none 3 0 0 0 [some (vr 2), some (vi (p : Int)), some (vi (d : Int)), none, none, none] [] w K X
  by_cases q1 : rsn s.1 p (stepT s.1 p d) = 0
  · by_cases q2 : (pth s.1 p).length = 60
    · have eR : stepR s.1 p d = 4 := by unfold stepR; exact if_pos ⟨q1, q2⟩
      rw [eR, stepS_f (by rw [eR]; decide)] at k
      refine Go_ald0 dX0_lengthen_0 ?_
      refine gf0_0 dX0_lengthen_1 flX0_11 ?_
      refine Go_ild1 dX0_lengthen_4 ?_
      refine Go_aald5 dX0_lengthen_5 rfl trivial (by omega) (by omega) (by decide) (by rw [Int.toNat_natCast]; exact h3.2) hts.2.1 ?_
      refine Go_ast3 dX0_lengthen_6 rfl ?_
      refine Go_ald3 dX0_lengthen_7 ?_
      refine Go_cV0 (d' := 2) (bc' := 0) (bs' := 0) rfl dX0_lengthen_8 mvX9_head rfl lkX0_72 (by first | assumption | rfl) rfl trivial (by decide) (by decide) (by decide) (Nat.le_of_ble_eq_true rfl) ?_
      refine e_X9_headN hT hl.1 ?_
      refine Go_ild2 dX0_lengthen_11 ?_
      refine Go_cS2 (d' := 1) (bc' := 0) (bs' := 0) rfl dX0_lengthen_12 msX2_neighbour rfl lkX0_75 (by decide) (by decide) (by decide) (Nat.le_of_ble_eq_true rfl) ?_
      refine e_X2_neighbour (by omega) (by omega) (by constructor <;> omega) ?_
      refine Go_ist4 dX0_lengthen_15 rfl ?_
      refine Go_ald0 dX0_lengthen_17 ?_
      refine Go_ild4 dX0_lengthen_18 ?_
      refine Go_ild1 dX0_lengthen_20 ?_
      rw [show nbI (hdL (pth s.1 p)) d = stepT s.1 p d from rfl]
      refine Go_cV2 (d' := 2) (bc' := 0) (bs' := 0) rfl dX0_lengthen_21 mvX0_refusalAt rfl lkX0_79 (by first | assumption | rfl) rfl trivial (by decide) (by decide) (by decide) (Nat.le_of_ble_eq_true rfl) ?_
      refine e_X0_refusalAt hm h5 bT2 (by omega) ?_
      refine Go_ist5 dX0_lengthen_24 rfl ?_
      refine Go_ild5 dX0_lengthen_26 ?_
      refine Go_if_ne (tgt := 41) dX0_lengthen_28 (by decide) (by constructor <;> omega) (fun h28 => by omega) (fun h28 => ?_)
      refine Go_ald3 dX0_lengthen_31 ?_
      refine Go_cV0 (d' := 0) (bc' := 0) (bs' := 0) rfl dX0_lengthen_32 mvX9_isFull rfl lkX0_82 (by first | assumption | rfl) rfl trivial (by decide) (by decide) (by decide) (Nat.le_of_ble_eq_true rfl) ?_
      refine e_X9_isFull hT ?_
      refine Go_ifb_eq (tgt := 41) dX0_lengthen_35 (by decide)  (fun h35 => by omega) (fun h35 => ?_)
      refine Go_iconst dX0_lengthen_38 ?_
      refine Go_ist5 dX0_lengthen_39 rfl ?_
      refine Go_ild5 dX0_lengthen_41 ?_
      refine Go_if_ne (tgt := 56) dX0_lengthen_43 (by decide) (by constructor <;> omega) (fun h43 => ?_) (fun h43 => by omega)
      refine Go_ald0 dX0_lengthen_56 ?_
      refine Go_ild5 dX0_lengthen_57 ?_
      refine Go_cVv1 (d' := 0) (bc' := 0) (bs' := 0) rfl dX0_lengthen_59 mvX0_noteStep rfl lkX0_90 (by first | assumption | rfl) rfl trivial (by decide) (by decide) (by decide) (Nat.le_of_ble_eq_true rfl) ?_
      refine e_X0_noteStep (by constructor <;> decide) ?_
      refine Go_ild5 dX0_lengthen_62 ?_
      refine Go_ireturn dX0_lengthen_64 rfl (by first | rfl | decide | exact nar_b | simp [narrow]) ?_
      rw [if_neg (by decide)]
      exact k _ (BS_ref ⟨⟨hb, hm, ht0⟩, c1, c2, c3⟩) (frm.rfl.up (by decide))
    · have eR : stepR s.1 p d = 0 := by unfold stepR; rw [if_neg (fun x => q2 x.2)]; exact q1
      rw [stepS_t eR] at k hO
      rw [eR] at k
      have t0 := (rsn_0 ho.nd bT2 q1).1
      refine Go_ald0 dX0_lengthen_0 ?_
      refine gf0_0 dX0_lengthen_1 flX0_11 ?_
      refine Go_ild1 dX0_lengthen_4 ?_
      refine Go_aald5 dX0_lengthen_5 rfl trivial (by omega) (by omega) (by decide) (by rw [Int.toNat_natCast]; exact h3.2) hts.2.1 ?_
      refine Go_ast3 dX0_lengthen_6 rfl ?_
      refine Go_ald3 dX0_lengthen_7 ?_
      refine Go_cV0 (d' := 2) (bc' := 0) (bs' := 0) rfl dX0_lengthen_8 mvX9_head rfl lkX0_72 (by first | assumption | rfl) rfl trivial (by decide) (by decide) (by decide) (Nat.le_of_ble_eq_true rfl) ?_
      refine e_X9_headN hT hl.1 ?_
      refine Go_ild2 dX0_lengthen_11 ?_
      refine Go_cS2 (d' := 1) (bc' := 0) (bs' := 0) rfl dX0_lengthen_12 msX2_neighbour rfl lkX0_75 (by decide) (by decide) (by decide) (Nat.le_of_ble_eq_true rfl) ?_
      refine e_X2_neighbour (by omega) (by omega) (by constructor <;> omega) ?_
      refine Go_ist4 dX0_lengthen_15 rfl ?_
      refine Go_ald0 dX0_lengthen_17 ?_
      refine Go_ild4 dX0_lengthen_18 ?_
      refine Go_ild1 dX0_lengthen_20 ?_
      rw [show nbI (hdL (pth s.1 p)) d = stepT s.1 p d from rfl]
      refine Go_cV2 (d' := 2) (bc' := 0) (bs' := 0) rfl dX0_lengthen_21 mvX0_refusalAt rfl lkX0_79 (by first | assumption | rfl) rfl trivial (by decide) (by decide) (by decide) (Nat.le_of_ble_eq_true rfl) ?_
      refine e_X0_refusalAt hm h5 bT2 (by omega) ?_
      refine Go_ist5 dX0_lengthen_24 rfl ?_
      rw [q1]
      refine Go_ild5 dX0_lengthen_26 ?_
      refine Go_if_ne (tgt := 41) dX0_lengthen_28 (by decide) (by constructor <;> omega) (fun h28 => by omega) (fun h28 => ?_)
      refine Go_ald3 dX0_lengthen_31 ?_
      refine Go_cV0 (d' := 0) (bc' := 0) (bs' := 0) rfl dX0_lengthen_32 mvX9_isFull rfl lkX0_82 (by first | assumption | rfl) rfl trivial (by decide) (by decide) (by decide) (Nat.le_of_ble_eq_true rfl) ?_
      refine e_X9_isFull hT ?_
      refine Go_ifb_eq (tgt := 41) dX0_lengthen_35 (by decide)  (fun h35 => ?_) (fun h35 => by omega)
      refine Go_ild5 dX0_lengthen_41 ?_
      refine Go_if_ne (tgt := 56) dX0_lengthen_43 (by decide) (by constructor <;> omega) (fun h43 => by omega) (fun h43 => ?_)
      refine Go_ald3 dX0_lengthen_46 ?_
      refine Go_ild4 dX0_lengthen_47 ?_
      rw [show stepT s.1 p d = (((stepT s.1 p d).toNat : Nat) : Int) by omega]
      refine Go_cVv1 (d' := 1) (bc' := 0) (bs' := 0) rfl dX0_lengthen_49 mvX9_push rfl lkX0_86 (by first | assumption | rfl) rfl trivial (by decide) (by decide) (by decide) (Nat.le_of_ble_eq_true rfl) ?_
      refine e_X9_push hT (by omega) (fun w1 t1 f1 => ?_)
      refine Go_ald0 dX0_lengthen_52 ?_
      refine Go_cVv0 (d' := 2) (bc' := 0) (bs' := 0) rfl dX0_lengthen_53 mvX0_markSites rfl lkX0_69 (by first | assumption | rfl) rfl trivial (by decide) (by decide) (by decide) (Nat.le_of_ble_eq_true rfl) ?_
      refine e_X0_markSites (BT_put hb hp rfl f1 t1) hO.2.2.1 hO.2.2.2 (fun w2 d2 f2 g2 => ?_)
      refine Go_ald0 dX0_lengthen_56 ?_
      refine Go_ild5 dX0_lengthen_57 ?_
      refine Go_cVv1 (d' := 0) (bc' := 0) (bs' := 0) rfl dX0_lengthen_59 mvX0_noteStep rfl lkX0_90 (by first | assumption | rfl) rfl trivial (by decide) (by decide) (by decide) (Nat.le_of_ble_eq_true rfl) ?_
      refine e_X0_noteStep (by constructor <;> decide) ?_
      refine Go_ild5 dX0_lengthen_62 ?_
      refine Go_ireturn dX0_lengthen_64 rfl (by first | rfl | decide | exact nar_b | simp [narrow]) ?_
      rw [if_pos rfl]
      have f9 : w1 2 = w 2 := f1 2 (by simp; omega)
      exact k _ ⟨BD.frm_cnt d2 (by decide) (by decide), by rw [up_s, g2 2 (by decide), f9, c1], by rw [up_k (by decide), g2 3 (by decide), f9]; exact c2, by rw [up_k (by decide), g2 4 (by decide), f9]; exact c3⟩ (((f1.mono (bcs_t h3.1)).trans f2 (by decide)).up (by decide))
  · have eR : stepR s.1 p d = rsn s.1 p (stepT s.1 p d) := by unfold stepR; rw [if_neg (fun x => q1 x.1)]
    rw [stepS_f (by rw [eR]; exact q1), eR] at k
    refine Go_ald0 dX0_lengthen_0 ?_
    refine gf0_0 dX0_lengthen_1 flX0_11 ?_
    refine Go_ild1 dX0_lengthen_4 ?_
    refine Go_aald5 dX0_lengthen_5 rfl trivial (by omega) (by omega) (by decide) (by rw [Int.toNat_natCast]; exact h3.2) hts.2.1 ?_
    refine Go_ast3 dX0_lengthen_6 rfl ?_
    refine Go_ald3 dX0_lengthen_7 ?_
    refine Go_cV0 (d' := 2) (bc' := 0) (bs' := 0) rfl dX0_lengthen_8 mvX9_head rfl lkX0_72 (by first | assumption | rfl) rfl trivial (by decide) (by decide) (by decide) (Nat.le_of_ble_eq_true rfl) ?_
    refine e_X9_headN hT hl.1 ?_
    refine Go_ild2 dX0_lengthen_11 ?_
    refine Go_cS2 (d' := 1) (bc' := 0) (bs' := 0) rfl dX0_lengthen_12 msX2_neighbour rfl lkX0_75 (by decide) (by decide) (by decide) (Nat.le_of_ble_eq_true rfl) ?_
    refine e_X2_neighbour (by omega) (by omega) (by constructor <;> omega) ?_
    refine Go_ist4 dX0_lengthen_15 rfl ?_
    refine Go_ald0 dX0_lengthen_17 ?_
    refine Go_ild4 dX0_lengthen_18 ?_
    refine Go_ild1 dX0_lengthen_20 ?_
    rw [show nbI (hdL (pth s.1 p)) d = stepT s.1 p d from rfl]
    refine Go_cV2 (d' := 2) (bc' := 0) (bs' := 0) rfl dX0_lengthen_21 mvX0_refusalAt rfl lkX0_79 (by first | assumption | rfl) rfl trivial (by decide) (by decide) (by decide) (Nat.le_of_ble_eq_true rfl) ?_
    refine e_X0_refusalAt hm h5 bT2 (by omega) ?_
    refine Go_ist5 dX0_lengthen_24 rfl ?_
    refine Go_ild5 dX0_lengthen_26 ?_
    refine Go_if_ne (tgt := 41) dX0_lengthen_28 (by decide) (by constructor <;> omega) (fun h28 => ?_) (fun h28 => by omega)
    refine Go_ild5 dX0_lengthen_41 ?_
    refine Go_if_ne (tgt := 56) dX0_lengthen_43 (by decide) (by constructor <;> omega) (fun h43 => ?_) (fun h43 => by omega)
    refine Go_ald0 dX0_lengthen_56 ?_
    refine Go_ild5 dX0_lengthen_57 ?_
    refine Go_cVv1 (d' := 0) (bc' := 0) (bs' := 0) rfl dX0_lengthen_59 mvX0_noteStep rfl lkX0_90 (by first | assumption | rfl) rfl trivial (by decide) (by decide) (by decide) (Nat.le_of_ble_eq_true rfl) ?_
    refine e_X0_noteStep (by constructor <;> omega) ?_
    refine Go_ild5 dX0_lengthen_62 ?_
    refine Go_ireturn dX0_lengthen_64 rfl (by first | rfl | decide | exact nar_b | simp [narrow]) ?_
    rw [if_neg q1]
    exact k _ (BS_ref ⟨⟨hb, hm, ht0⟩, c1, c2, c3⟩) (frm.rfl.up (by decide))
theorem e_X0_creep {s : Sta} {p d : Nat} (h : BS w s) (ho : OKp s.1) (hp : p < s.1.length) (hd : d < 4) (k : ∀ w', BS w' (slithS s p d) → frm w w' bcs → K (vi (slithR s.1 p d)) none w') : Ev G yX0_creep cX0_creep 6 mX0_creep none 3 0 0 [vr 2, vi (p : Int), vi (d : Int)] w K X := by
  obtain ⟨⟨hb, hm, ht0⟩, c1, c2, c3⟩ := h
  have h5 := hb.2.1
  have h3 := hb.2.2.1 p (by omega)
  have hT := hb.2.2.2.2 p hp
  have hts := bts_sh h3.1
  have hts1 := hts.1
  have hl := ho.len hp
  have hlt := (ho.lt p).at ((pth s.1 p).length - 1)
  have hlt0 := (ho.lt p).at 0
  have hlt2 : hdL (pth s.1 p) < 100 := hlt
  have bT := nbI_in (hdL (pth s.1 p)) d
  have bT2 : -1 ≤ stepT s.1 p d ∧ stepT s.1 p d < 100 := bT
  have bR := rsn_in s.1 p (stepT s.1 p d)
  have hO := OKp.slith ho hp hd
  refine Ev_intro mvX0_creep.1 rfl (fun h => by cases h) (allc1 rfl) (Nat.le_of_ble_eq_true rfl) (Or.inl rfl) ?_
  show Go G cX0_creep mX0_creep none 3 0 0 0 [some (vr 2), some (vi (p : Int)), some (vi (d : Int)), none, none, none] [] w K X
  by_cases q0 : slithR s.1 p d = 0
  · rw [slithS_t q0] at k hO
    have t0 : 0 ≤ stepT s.1 p d := by
      unfold slithR at q0
      by_cases e : stepT s.1 p d = ((pth s.1 p).getD 0 0 : Int)
      · omega
      · rw [if_neg e] at q0; exact (rsn_0 ho.nd bT2 q0).1
    have fin : ∀ z : Int, z = 0 → Go G cX0_creep mX0_creep none 3 0 0 37 [some (vr 2), some (vi (p : Int)), some (vi (d : Int)), some (vr (tA w p)), some (vi (stepT s.1 p d)), none] [vi z] w K X := by
      intro z hz
      subst hz
      refine Go_ist5 dX0_creep_37 rfl ?_
      refine Go_ild5 dX0_creep_39 ?_
      refine Go_if_ne (tgt := 54) dX0_creep_41 (by decide) (by constructor <;> omega) (fun h41 => by omega) (fun h41 => ?_)
      refine Go_ald3 dX0_creep_44 ?_
      refine Go_ild4 dX0_creep_45 ?_
      rw [show stepT s.1 p d = (((stepT s.1 p d).toNat : Nat) : Int) by omega]
      refine Go_cVv1 (d' := 2) (bc' := 0) (bs' := 0) rfl dX0_creep_47 mvX9_advanceTo rfl lkX0_96 (by first | assumption | rfl) rfl trivial (by decide) (by decide) (by decide) (Nat.le_of_ble_eq_true rfl) ?_
      refine e_X9_advanceTo hT hl.1 (fun w1 t1 f1 => ?_)
      refine Go_ald0 dX0_creep_50 ?_
      refine Go_cVv0 (d' := 2) (bc' := 0) (bs' := 0) rfl dX0_creep_51 mvX0_markSites rfl lkX0_69 (by first | assumption | rfl) rfl trivial (by decide) (by decide) (by decide) (Nat.le_of_ble_eq_true rfl) ?_
      refine e_X0_markSites (BT_put hb hp rfl f1 t1) hO.2.2.1 hO.2.2.2 (fun w2 d2 f2 g2 => ?_)
      refine Go_ald0 dX0_creep_54 ?_
      refine Go_ild5 dX0_creep_55 ?_
      refine Go_cVv1 (d' := 0) (bc' := 0) (bs' := 0) rfl dX0_creep_57 mvX0_noteStep rfl lkX0_90 (by first | assumption | rfl) rfl trivial (by decide) (by decide) (by decide) (Nat.le_of_ble_eq_true rfl) ?_
      refine e_X0_noteStep (by constructor <;> decide) ?_
      refine Go_ild5 dX0_creep_60 ?_
      refine Go_ireturn dX0_creep_62 rfl (by first | rfl | decide | exact nar_b | simp [narrow]) ?_
      rw [if_pos rfl]
      have f9 : w1 2 = w 2 := f1 2 (by simp; omega)
      rw [q0] at k
      exact k _ ⟨BD.frm_cnt d2 (by decide) (by decide), by rw [up_s, g2 2 (by decide), f9, c1], by rw [up_k (by decide), g2 3 (by decide), f9]; exact c2, by rw [up_k (by decide), g2 4 (by decide), f9]; exact c3⟩ (((f1.mono (bcs_t h3.1)).trans f2 (by decide)).up (by decide))
    unfold slithR at q0
    refine Go_ald0 dX0_creep_0 ?_
    refine gf0_0 dX0_creep_1 flX0_11 ?_
    refine Go_ild1 dX0_creep_4 ?_
    refine Go_aald5 dX0_creep_5 rfl trivial (by omega) (by omega) (by decide) (by rw [Int.toNat_natCast]; exact h3.2) hts.2.1 ?_
    refine Go_ast3 dX0_creep_6 rfl ?_
    refine Go_ald3 dX0_creep_7 ?_
    refine Go_cV0 (d' := 2) (bc' := 0) (bs' := 0) rfl dX0_creep_8 mvX9_head rfl lkX0_72 (by first | assumption | rfl) rfl trivial (by decide) (by decide) (by decide) (Nat.le_of_ble_eq_true rfl) ?_
    refine e_X9_headN hT hl.1 ?_
    refine Go_ild2 dX0_creep_11 ?_
    refine Go_cS2 (d' := 1) (bc' := 0) (bs' := 0) rfl dX0_creep_12 msX2_neighbour rfl lkX0_75 (by decide) (by decide) (by decide) (Nat.le_of_ble_eq_true rfl) ?_
    refine e_X2_neighbour (by omega) (by omega) (by constructor <;> omega) ?_
    rw [show nbI (hdL (pth s.1 p)) d = stepT s.1 p d from rfl]
    refine Go_ist4 dX0_creep_15 rfl ?_
    refine Go_ild4 dX0_creep_17 ?_
    refine Go_ald3 dX0_creep_19 ?_
    refine Go_cV0 (d' := 2) (bc' := 0) (bs' := 0) rfl dX0_creep_20 mvX9_tail rfl lkX0_93 (by first | assumption | rfl) rfl trivial (by decide) (by decide) (by decide) (Nat.le_of_ble_eq_true rfl) ?_
    refine e_X9_tailN hT hl.1 ?_
    refine Go_icmp_ne (tgt := 30) dX0_creep_23 (by decide) (by constructor <;> omega) (by constructor <;> omega) (fun h23 => ?_) (fun h23 => ?_)
    · refine Go_ald0 dX0_creep_30 ?_
      refine Go_ild4 dX0_creep_31 ?_
      refine Go_ild1 dX0_creep_33 ?_
      refine Go_cV2 (d' := 2) (bc' := 0) (bs' := 0) rfl dX0_creep_34 mvX0_refusalAt rfl lkX0_79 (by first | assumption | rfl) rfl trivial (by decide) (by decide) (by decide) (Nat.le_of_ble_eq_true rfl) ?_
      refine e_X0_refusalAt hm h5 bT2 (by omega) ?_
      first | (rw [if_pos h23] at q0; exact fin _ rfl) | (rw [if_neg h23] at q0; exact fin _ q0)
    · refine Go_iconst dX0_creep_26 ?_
      refine Go_goto (tgt := 37) dX0_creep_27 (by decide) ?_
      first | (rw [if_pos h23] at q0; exact fin _ rfl) | (rw [if_neg h23] at q0; exact fin _ q0)
  · rw [slithS_f q0] at k
    have e : stepT s.1 p d ≠ ((pth s.1 p).getD 0 0 : Int) := fun e => q0 (by unfold slithR; rw [if_pos e])
    have eR : slithR s.1 p d = rsn s.1 p (stepT s.1 p d) := by unfold slithR; rw [if_neg e]
    rw [eR] at k q0
    refine Go_ald0 dX0_creep_0 ?_
    refine gf0_0 dX0_creep_1 flX0_11 ?_
    refine Go_ild1 dX0_creep_4 ?_
    refine Go_aald5 dX0_creep_5 rfl trivial (by omega) (by omega) (by decide) (by rw [Int.toNat_natCast]; exact h3.2) hts.2.1 ?_
    refine Go_ast3 dX0_creep_6 rfl ?_
    refine Go_ald3 dX0_creep_7 ?_
    refine Go_cV0 (d' := 2) (bc' := 0) (bs' := 0) rfl dX0_creep_8 mvX9_head rfl lkX0_72 (by first | assumption | rfl) rfl trivial (by decide) (by decide) (by decide) (Nat.le_of_ble_eq_true rfl) ?_
    refine e_X9_headN hT hl.1 ?_
    refine Go_ild2 dX0_creep_11 ?_
    refine Go_cS2 (d' := 1) (bc' := 0) (bs' := 0) rfl dX0_creep_12 msX2_neighbour rfl lkX0_75 (by decide) (by decide) (by decide) (Nat.le_of_ble_eq_true rfl) ?_
    refine e_X2_neighbour (by omega) (by omega) (by constructor <;> omega) ?_
    rw [show nbI (hdL (pth s.1 p)) d = stepT s.1 p d from rfl]
    refine Go_ist4 dX0_creep_15 rfl ?_
    refine Go_ild4 dX0_creep_17 ?_
    refine Go_ald3 dX0_creep_19 ?_
    refine Go_cV0 (d' := 2) (bc' := 0) (bs' := 0) rfl dX0_creep_20 mvX9_tail rfl lkX0_93 (by first | assumption | rfl) rfl trivial (by decide) (by decide) (by decide) (Nat.le_of_ble_eq_true rfl) ?_
    refine e_X9_tailN hT hl.1 ?_
    refine Go_icmp_ne (tgt := 30) dX0_creep_23 (by decide) (by constructor <;> omega) (by constructor <;> omega) (fun h23 => ?_) (fun h23 => by omega)
    refine Go_ald0 dX0_creep_30 ?_
    refine Go_ild4 dX0_creep_31 ?_
    refine Go_ild1 dX0_creep_33 ?_
    refine Go_cV2 (d' := 2) (bc' := 0) (bs' := 0) rfl dX0_creep_34 mvX0_refusalAt rfl lkX0_79 (by first | assumption | rfl) rfl trivial (by decide) (by decide) (by decide) (Nat.le_of_ble_eq_true rfl) ?_
    refine e_X0_refusalAt hm h5 bT2 (by omega) ?_
    refine Go_ist5 dX0_creep_37 rfl ?_
    refine Go_ild5 dX0_creep_39 ?_
    refine Go_if_ne (tgt := 54) dX0_creep_41 (by decide) (by constructor <;> omega) (fun h41 => ?_) (fun h41 => by omega)
    refine Go_ald0 dX0_creep_54 ?_
    refine Go_ild5 dX0_creep_55 ?_
    refine Go_cVv1 (d' := 0) (bc' := 0) (bs' := 0) rfl dX0_creep_57 mvX0_noteStep rfl lkX0_90 (by first | assumption | rfl) rfl trivial (by decide) (by decide) (by decide) (Nat.le_of_ble_eq_true rfl) ?_
    refine e_X0_noteStep (by constructor <;> omega) ?_
    refine Go_ild5 dX0_creep_60 ?_
    refine Go_ireturn dX0_creep_62 rfl (by first | rfl | decide | exact nar_b | simp [narrow]) ?_
    rw [if_neg q0]
    exact k _ (BS_ref ⟨⟨hb, hm, ht0⟩, c1, c2, c3⟩) (frm.rfl.up (by decide))
end Ops
