/-- the first places of one row of ints are copied to another -/
def cpW (w : Wd) (a b n : Nat) : Wd := fun x j => if x = b ∧ j < n then w a j else w x j
theorem cpW_o {w : Wd} {a b n x : Nat} (h : x ≠ b) : cpW w a b n x = w x := by funext j; simp [cpW, h]
theorem cpW_i {w : Wd} {a b n j : Nat} (h : j < n) : cpW w a b n b j = w a j := by simp [cpW, h]
theorem cpW_g {w : Wd} {a b n j : Nat} (h : n ≤ j) : cpW w a b n b j = w b j := by simp [cpW, Nat.not_lt.mpr h]
theorem frm.cp {w w' : Wd} {A : List Nat} {a b n : Nat} (h : frm w w' A) (hb : b ∈ A) : frm w (cpW w' a b n) A := fun x hx => by rw [← h x hx]; exact cpW_o (fun e => hx (by rw [e]; exact hb))
theorem cont_congr {G : Gm} {w w' : Wd} {a : Nat} (h : w' a = w a) : cont G none w' a = cont G none w a := by
  unfold cont flds
  simp only [h, rv]
theorem Go_acopy {G : Gm} {cc : ByteArray} {mt : Mt} {d bc bs pc : Nat} {ls : List (Option Vl)} {st : List Vl} {w : Wd} {K : Kt} {X : Xt} {idx a0 a1 n0 n1 n : Nat} (dec : decode cc pc = .ok (.invokestatic idx, 3)) (lk : Cond.methodLink mt.2.1 idx arraycopyName ∈ GW) (hd : 0 < d) (hs0 : SH a0 = (2, n0)) (hs1 : SH a1 = (2, n1)) (h0 : n ≤ n0) (h1 : n ≤ n1) (hn : n < 2147483648) (hsum : (st.map fun v => (cv G v).category).sum ≤ 8) (k : Go G cc mt none d bc bs (pc + 3) ls st (cpW w a0 a1 n) K X) : Go G cc mt none d bc bs pc ls (vi (n : Int) :: vi 0 :: vr a1 :: vi 0 :: vr a0 :: st) w K X := by
  intro p e R s m args below meth c Q H locs cells slots la C EK EX hl hw hS g1 g2
  obtain ⟨cx, cb, -, co, ct, -, -, cml, cf, cl, cK, -⟩ := id C
  have en : (Int32.ofInt (n : Int)).toNatClampNeg = n := by rw [iI_nat, nI_clamp (by omega)]
  have e0 : (Int32.ofInt (0 : Int)).toNatClampNeg = 0 := by decide
  refine va_copyi cx cb (by rw [cml, hl.1]) co (ct _ lk) (ct _ gAc_nat) (ct _ gAc_stat) (ct _ gi_System) cK.1 hw.1 (wl_D G w (wholds_cnt hw)) hS (a0 - 1) (a1 - 1) 0 0 (wl_e G w hs0 (by decide) trivial (cont_2 hs0)) (wl_e G w hs1 (by decide) trivial (cont_2 hs1)) rfl rfl rfl
    (by decide) (by decide) (fun q => by have q2 : Int32.ofInt (n : Int) < Int32.ofInt 0 := q; rw [iI_lt ⟨by omega, by omega⟩ inR_0] at q2; omega) (by rw [en, e0]; omega) (by rw [en, e0]; omega) (fun i _ => rfl) (by omega) (by rw [List.map_map]; have q1 : ((List.map ((fun v => v.category) ∘ cv G) st)).sum ≤ 8 := hsum; have q2 : nativeFrameWords "java/lang/System" "arraycopy" 5 ≤ 12 := (by decide); omega) dec (fun H1 locs1 k1 k2 k3 => ?_)
  refine k p e R s m args below meth c Q H1 locs1 cells slots la C EK EX hl ⟨?_, fun n hn => by cases hn⟩ k3 g1 g2
  have hb := okx_cnt hs1 (by decide) (nx := none) trivial
  rw [wl_set (w' := cpW w a0 a1 n) G hb.1 hb.2 ?_ ?_] at k1
  · exact k1
  · rw [cont_2 hs1]
    refine congrArg (fun f => Sum.inl (Gc G 2, n1, Sum.inl f)) ?_
    funext j
    rw [en, e0]
    unfold va_cpy cpW
    by_cases q : j < n
    · rw [if_pos ⟨rfl, q⟩, if_pos ⟨by omega, by omega⟩, show 0 + (j - 0) = j by omega]
    · rw [if_neg (fun z => q z.2), if_neg (by omega)]
  · intro b hbne
    exact cont_congr (cpW_o hbne)
/-- the views of a row of steps; the least one -/
def vwB (l : List Nat) (v j : Nat) : Int := if v < 8 then stJ l j else (stJ l (l.length - 1 - 1 - j) + 2) % 4
def vwC (l : List Nat) (v j : Nat) : Int := if v / 4 % 2 = 0 then vwB l v j else (4 - vwB l v j) % 4
def vwJ (l : List Nat) (v j : Nat) : Int := (vwC l v j + (v % 4 : Nat)) % 4
def lexlt (f g : Nat → Int) (n : Nat) : Prop := ∃ k, k < n ∧ (∀ j, j < k → f j = g j) ∧ f k < g k
theorem vwB_in (l : List Nat) (v j : Nat) : 0 ≤ vwB l v j ∧ vwB l v j < 4 := by
  have a := stJ_in l j
  unfold vwB
  split <;> omega
theorem vwJ_in (l : List Nat) (v j : Nat) : 0 ≤ vwJ l v j ∧ vwJ l v j < 4 := by unfold vwJ; omega
theorem lexlt_congr {f f' g g' : Nat → Int} {n : Nat} (hf : ∀ j, j < n → f j = f' j) (hg : ∀ j, j < n → g j = g' j) (h : lexlt f g n) : lexlt f' g' n := by
  obtain ⟨k, h1, h2, h3⟩ := h
  exact ⟨k, h1, fun j hj => by rw [← hf j (by omega), ← hg j (by omega)]; exact h2 j hj, by rw [← hf k h1, ← hg k h1]; exact h3⟩
theorem lexlt_trans {f g h : Nat → Int} {n : Nat} (a : lexlt f g n) (b : lexlt g h n) : lexlt f h n := by
  obtain ⟨k, h1, h2, h3⟩ := a
  obtain ⟨m, k1, k2, k3⟩ := b
  rcases Nat.lt_trichotomy k m with q | q | q
  · exact ⟨k, h1, fun j hj => (h2 j hj).trans (k2 j (by omega)), by rw [← k2 k q]; exact h3⟩
  · subst q; exact ⟨k, h1, fun j hj => (h2 j hj).trans (k2 j hj), by omega⟩
  · exact ⟨m, k1, fun j hj => (h2 j (by omega)).trans (k2 j hj), by rw [h2 m q]; exact k3⟩
theorem lexlt_first {f g : Nat → Int} {n k : Nat} (hk : k < n) (h : ∀ j, j < k → f j = g j) (hg : g k < f k) : ¬ lexlt f g n := fun ⟨m, k1, k2, k3⟩ => by
  rcases Nat.lt_trichotomy k m with q | q | q
  · have := k2 k q; omega
  · subst q; omega
  · have := h m q; omega
theorem lexlt_total {f g : Nat → Int} : ∀ {n : Nat}, ¬ lexlt f g n → ¬ lexlt g f n → ∀ j, j < n → f j = g j
  | 0, _, _, j, hj => by omega
  | n + 1, h1, h2, j, hj => by
    have ih := lexlt_total (f := f) (g := g) (n := n) (fun ⟨k, a, b, c⟩ => h1 ⟨k, by omega, b, c⟩) (fun ⟨k, a, b, c⟩ => h2 ⟨k, by omega, b, c⟩)
    by_cases q : j = n
    · subst q
      rcases Int.lt_trichotomy (f j) (g j) with c | c | c
      · exact absurd ⟨j, by omega, ih, c⟩ h1
      · exact c
      · exact absurd ⟨j, by omega, fun i hi => (ih i hi).symm, c⟩ h2
    · exact ih j (by omega)
def LSP (l : List Nat) (D : List Nat) (g : Nat → Int) : Prop := (∀ v ∈ D, ¬ lexlt (vwJ l v) g (l.length - 1)) ∧ ((D = [] ∧ ∀ j, j < l.length - 1 → g j = 4) ∨ ∃ v ∈ D, ∀ j, j < l.length - 1 → g j = vwJ l v j)
theorem LSP.next {l D : List Nat} {g g' : Nat → Int} {v : Nat} (h : LSP l D g) (ho : (lexlt (vwJ l v) g (l.length - 1) ∧ ∀ j, j < l.length - 1 → g' j = vwJ l v j) ∨ (¬ lexlt (vwJ l v) g (l.length - 1) ∧ ∀ j, j < l.length - 1 → g' j = g j)) : LSP l (v :: D) g' := by
  obtain ⟨h1, h2⟩ := h
  rcases ho with ⟨o1, o2⟩ | ⟨o1, o2⟩
  · refine ⟨fun u hu q => ?_, Or.inr ⟨v, by simp, o2⟩⟩
    have q2 := lexlt_congr (fun _ _ => rfl) o2 q
    rcases List.mem_cons.mp hu with e | e
    · rw [e] at q2
      obtain ⟨k, -, -, c⟩ := q2
      omega
    · exact h1 u e (lexlt_trans q2 o1)
  · refine ⟨fun u hu q => ?_, ?_⟩
    · have q2 := lexlt_congr (fun _ _ => rfl) o2 q
      rcases List.mem_cons.mp hu with e | e
      · rw [e] at q2; exact o1 q2
      · exact h1 u e q2
    · rcases h2 with ⟨e1, e2⟩ | ⟨u, e1, e2⟩
      · have z : l.length - 1 = 0 := by
          rcases Nat.eq_zero_or_pos (l.length - 1) with z | z
          · exact z
          · have b := vwJ_in l v 0
            exact absurd ⟨0, z, fun j hj => by omega, by rw [e2 0 z]; omega⟩ o1
        exact Or.inr ⟨v, by simp, fun j hj => by omega⟩
      · exact Or.inr ⟨u, List.mem_cons_of_mem _ e1, fun j hj => by rw [o2 j hj]; exact e2 j hj⟩
def isLeast (l : List Nat) (g : Nat → Int) : Prop := (∀ v, v < 16 → ¬ lexlt (vwJ l v) g (l.length - 1)) ∧ ∃ v, v < 16 ∧ ∀ j, j < l.length - 1 → g j = vwJ l v j
theorem isLeast_eq {l : List Nat} {g g' : Nat → Int} (h : isLeast l g) (h' : isLeast l g') : ∀ j, j < l.length - 1 → g j = g' j := by
  obtain ⟨h1, v, hv, e⟩ := h
  obtain ⟨k1, u, hu, e'⟩ := h'
  exact lexlt_total (fun q => k1 v hv (lexlt_congr e (fun _ _ => rfl) q)) (fun q => h1 u hu (lexlt_congr e' (fun _ _ => rfl) q))
theorem LSP.all {l D : List Nat} {g : Nat → Int} (h : LSP l D g) (hD : ∀ v, v < 16 ↔ v ∈ D) : isLeast l g := by
  obtain ⟨h1, h2⟩ := h
  refine ⟨fun v hv => h1 v ((hD v).mp hv), ?_⟩
  rcases h2 with ⟨e1, -⟩ | ⟨u, e1, e2⟩
  · have := (hD 0).mp (by omega); rw [e1] at this; cases this
  · exact ⟨u, (hD u).mpr e1, e2⟩
def SHs (S : Nat) : Prop := S = 58 ∨ S = 63
theorem shs {S : Nat} (h : SHs S) : SH S = (1, 6) ∧ SH (S + 1) = (2, 60) ∧ SH (S + 2) = (2, 60) ∧ SH (S + 3) = (2, 60) ∧ SH (S + 4) = (2, 60) ∧ 58 ≤ S ∧ S ≤ 63 := by
  rcases h with rfl | rfl <;> exact ⟨rfl, rfl, rfl, rfl, rfl, by decide, by decide⟩
def SP (w : Wd) (S n : Nat) (g : Nat → Int) : Prop := w S 4 = (n : Int) ∧ n < 60 ∧ ∀ j, j < n → w (S + 4) j = g j ∧ 0 ≤ g j ∧ g j ≤ 4
section Shape
variable {G : Gm} {w : Wd} {K : Kt} {X : Xt} {S n : Nat} {g f : Nat → Int}
theorem e_X7_turned {a b : Int} (ha : 0 ≤ a ∧ a < 8) (hb : 0 ≤ b ∧ b < 8) (k : K (vi ((a + b) % 4)) none w) : Ev G yX7_turned cX7_turned 2 mX7_turned none 0 0 0 [vi a, vi b] w K X := by
  refine Ev_intro msX7_turned.1 rfl (fun h => by cases h) (allc1 rfl) (Nat.le_of_ble_eq_true rfl) (Or.inl rfl) ?_
  show Go G cX7_turned mX7_turned none 0 0 0 0 [some (vi a), some (vi b)] [] w K X
  refine Go_ild0 dX7_turned_0 ?_
  refine Go_ild1 dX7_turned_1 ?_
  refine Go_iadd dX7_turned_2 ?_
  refine Go_iconst dX7_turned_3 ?_
  refine Go_irem dX7_turned_4 (by omega) (by omega) (by omega) (by omega) ?_
  refine Go_ireturn dX7_turned_5 rfl (by first | rfl | decide | simp [narrow]) ?_
  exact k
theorem e_X7_mirrored {a : Int} (ha : 0 ≤ a ∧ a < 4) (k : K (vi ((4 - a) % 4)) none w) : Ev G yX7_mirrored cX7_mirrored 1 mX7_mirrored none 0 0 0 [vi a] w K X := by
  refine Ev_intro msX7_mirrored.1 rfl (fun h => by cases h) (allc1 rfl) (Nat.le_of_ble_eq_true rfl) (Or.inl rfl) ?_
  show Go G cX7_mirrored mX7_mirrored none 0 0 0 0 [some (vi a)] [] w K X
  refine Go_iconst dX7_mirrored_0 ?_
  refine Go_ild0 dX7_mirrored_1 ?_
  refine Go_isub dX7_mirrored_2 ?_
  refine Go_iconst dX7_mirrored_3 ?_
  refine Go_irem dX7_mirrored_4 (by omega) (by omega) (by omega) (by omega) ?_
  refine Go_ireturn dX7_mirrored_5 rfl (by first | rfl | decide | simp [narrow]) ?_
  exact k
theorem e_X7_isViewLess (hS : SHs S) (h : SP w S n g) (hf : ∀ j, j < n → w (S + 3) j = f j ∧ 0 ≤ f j ∧ f j < 4) (kt : lexlt f g n → K (vi 1) none w) (kf : ¬ lexlt f g n → K (vi 0) none w) : Ev G yX7_isViewLess cX7_isViewLess 2 mX7_isViewLess none 0 0 0 [vr S] w K X := by
  obtain ⟨hs, s1, s2, s3, s4, -, -⟩ := shs hS
  obtain ⟨h1, h2, h3⟩ := h
  refine Ev_intro mvX7_isViewLess.1 rfl (fun h => by cases h) (allc1 rfl) (Nat.le_of_ble_eq_true rfl) (Or.inl rfl) ?_
  show Go G cX7_isViewLess mX7_isViewLess none 0 0 0 0 [some (vr S), none] [] w K X
  refine Go_iconst dX7_isViewLess_0 ?_
  refine Go_ist1 dX7_isViewLess_1 rfl ?_
  refine Go_upTo (n := n) (L := fun i => [some (vr S), some (vi (i : Int))]) (P := fun i v => v = w ∧ ∀ j, j < i → f j = g j) (by repeat' (first | exact Or.inl rfl | exact Or.inr rfl | exact Or.inr (lcg (by omega)) | exact trivial | constructor)) (⟨rfl, fun j q => by omega⟩) (fun i v hi hP kn => ?_) (fun v hP => ?_)
  · try dsimp only at hP kn
    try dsimp only
    obtain ⟨rfl, hP⟩ := hP
    have e1 := hf i hi
    have e2 := h3 i hi
    refine Go_ild1 dX7_isViewLess_2 ?_
    refine Go_ald0 dX7_isViewLess_3 ?_
    refine gf6_4 dX7_isViewLess_4 flX7_30 (by first | assumption | rfl) ?_
    refine Go_icmp_ge (tgt := 52) dX7_isViewLess_7 (by decide) (by constructor <;> omega) (by constructor <;> omega) (fun h7 => by omega) (fun h7 => ?_)
    refine Go_ald0 dX7_isViewLess_10 ?_
    refine gf6_2 dX7_isViewLess_11 flX7_18 (by first | assumption | rfl) ?_
    refine Go_ild1 dX7_isViewLess_14 ?_
    refine Go_iald dX7_isViewLess_15 (by first | assumption | rfl) trivial (by omega) (by omega) (by decide) ?_
    refine Go_ald0 dX7_isViewLess_16 ?_
    refine gf6_3 dX7_isViewLess_17 flX7_21 (by first | assumption | rfl) ?_
    refine Go_ild1 dX7_isViewLess_20 ?_
    refine Go_iald dX7_isViewLess_21 (by first | assumption | rfl) trivial (by omega) (by omega) (by decide) ?_
    rw [Int.toNat_natCast, e1.1, e2.1]
    refine Go_icmp_eq (tgt := 46) dX7_isViewLess_22 (by decide) (by constructor <;> omega) (by constructor <;> omega) (fun h22 => ?_) (fun h22 => ?_)
    · refine Go_inc1 dX7_isViewLess_46 rfl ?_
      refine Go_goto (tgt := 2) dX7_isViewLess_49 (by decide) ?_
      refine Go_forget (by repeat' (first | exact Or.inl rfl | exact Or.inr rfl | exact Or.inr (lcg (by omega)) | exact trivial | constructor)) (kn _ ⟨rfl, fun j q => ?_⟩)
      by_cases c : j = i
      · subst c; omega
      · exact hP j (by omega)
    · refine Go_ald0 dX7_isViewLess_25 ?_
      refine gf6_2 dX7_isViewLess_26 flX7_18 (by first | assumption | rfl) ?_
      refine Go_ild1 dX7_isViewLess_29 ?_
      refine Go_iald dX7_isViewLess_30 (by first | assumption | rfl) trivial (by omega) (by omega) (by decide) ?_
      refine Go_ald0 dX7_isViewLess_31 ?_
      refine gf6_3 dX7_isViewLess_32 flX7_21 (by first | assumption | rfl) ?_
      refine Go_ild1 dX7_isViewLess_35 ?_
      refine Go_iald dX7_isViewLess_36 (by first | assumption | rfl) trivial (by omega) (by omega) (by decide) ?_
      rw [Int.toNat_natCast, e1.1, e2.1]
      refine Go_icmp_ge (tgt := 44) dX7_isViewLess_37 (by decide) (by constructor <;> omega) (by constructor <;> omega) (fun h37 => ?_) (fun h37 => ?_)
      · refine Go_iconst dX7_isViewLess_44 ?_
        refine Go_ireturn dX7_isViewLess_45 rfl (by first | rfl | decide | simp [narrow]) ?_
        first | exact kt ⟨i, hi, hP, by omega⟩ | exact kf (lexlt_first hi hP (by omega))
      · refine Go_iconst dX7_isViewLess_40 ?_
        refine Go_goto (tgt := 45) dX7_isViewLess_41 (by decide) ?_
        refine Go_ireturn dX7_isViewLess_45 rfl (by first | rfl | decide | simp [narrow]) ?_
        first | exact kt ⟨i, hi, hP, by omega⟩ | exact kf (lexlt_first hi hP (by omega))
  · try dsimp only at hP
    try dsimp only
    obtain ⟨rfl, hP⟩ := hP
    refine Go_ild1 dX7_isViewLess_2 ?_
    refine Go_ald0 dX7_isViewLess_3 ?_
    refine gf6_4 dX7_isViewLess_4 flX7_30 (by first | assumption | rfl) ?_
    refine Go_icmp_ge (tgt := 52) dX7_isViewLess_7 (by decide) (by constructor <;> omega) (by constructor <;> omega) (fun h7 => ?_) (fun h7 => by omega)
    refine Go_iconst dX7_isViewLess_52 ?_
    refine Go_ireturn dX7_isViewLess_53 rfl (by first | rfl | decide | simp [narrow]) ?_
    exact kf (fun ⟨k, a, b, c⟩ => by have := hP k a; omega)
theorem e_X7_consider {A q : Nat} {mi : Int} {rj : Nat → Int} (hS : SHs S) (hA : A = S + 1 ∨ A = S + 2) (h : SP w S n g) (hr : ∀ j, j < n → w A j = rj j ∧ 0 ≤ rj j ∧ rj j < 4) (hq : q < 4) (hm : mi = 0 ∨ mi = 1) (hf : ∀ j, f j = ((if mi = 0 then rj j else (4 - rj j) % 4) + q) % 4)
    (k : ∀ w' g', SP w' S n g' → ((lexlt f g n ∧ ∀ j, j < n → g' j = f j) ∨ (¬ lexlt f g n ∧ ∀ j, j < n → g' j = g j)) → frm w w' [S + 3, S + 4] → K (vi 0) none w') : Ev G yX7_consider cX7_consider 6 mX7_consider none 1 0 0 [vr S, vr A, vi (q : Int), vi mi] w K X := by
  obtain ⟨hs, s1, s2, s3, s4, sl, sh⟩ := shs hS
  have hA2 : SH A = (2, 60) := by rcases hA with e | e <;> rw [e] <;> assumption
  have fi : ∀ j, j < n → 0 ≤ f j ∧ f j < 4 := fun j hj => by rw [hf j]; omega
  refine Ev_intro mvX7_consider.1 rfl (fun h => by cases h) (allc1 rfl) (Nat.le_of_ble_eq_true rfl) (Or.inl rfl) ?_
  show Go G cX7_consider mX7_consider none 1 0 0 0 [some (vr S), some (vr A), some (vi (q : Int)), some (vi mi), none, none] [] w K X
  refine Go_iconst dX7_consider_0 ?_
  refine Go_ist4 dX7_consider_1 rfl ?_
  refine Go_upTo (n := n) (L := fun i => [some (vr S), some (vr A), some (vi (q : Int)), some (vi mi), some (vi (i : Int)), none]) (P := fun i v => frm w v [S + 3] ∧ ∀ j, j < i → v (S + 3) j = f j) (by repeat' (first | exact Or.inl rfl | exact Or.inr rfl | exact Or.inr (lcg (by omega)) | exact trivial | constructor)) (⟨frm.rfl, fun j q => by omega⟩) (fun i v hi hP kn => ?_) (fun v hP => ?_)
  · try dsimp only at hP kn
    try dsimp only
    obtain ⟨f1, hP⟩ := hP
    have e1 : v A i = rj i := by rw [f1.at (by simp; omega)]; exact (hr i hi).1
    have e2 : v S 4 = (n : Int) := by rw [f1.at (by simp)]; exact h.1
    have b := (hr i hi).2
    have b60 := h.2.1
    have ef := hf i
    have nx : ∀ z : Int, z = f i → ∀ j, j < i + 1 → up v (S + 3) i z (S + 3) j = f j := fun z hz j hj => by
      by_cases c : j = i
      · subst c; rw [up_s]; exact hz
      · rw [up_k c]; exact hP j (by omega)
    rcases hm with hm | hm
    · subst hm
      rw [if_pos rfl] at ef
      refine Go_ild4 dX7_consider_3 ?_
      refine Go_ald0 dX7_consider_5 ?_
      refine gf6_4 dX7_consider_6 flX7_30 (by first | assumption | rfl) ?_
      refine Go_icmp_ge (tgt := 51) dX7_consider_9 (by decide) (by constructor <;> omega) (by constructor <;> omega) (fun h9 => by omega) (fun h9 => ?_)
      refine Go_ild3 dX7_consider_12 ?_
      refine Go_if_eq (tgt := 26) dX7_consider_13 (by decide) (by constructor <;> omega) (fun h13 => ?_) (fun h13 => by omega)
      refine Go_ald1 dX7_consider_26 ?_
      refine Go_ild4 dX7_consider_27 ?_
      refine Go_iald dX7_consider_29 (by first | assumption | rfl) trivial (by omega) (by omega) (by decide) ?_
      rw [Int.toNat_natCast, e1]
      refine Go_ist5 dX7_consider_30 rfl ?_
      refine Go_ald0 dX7_consider_32 ?_
      refine gf6_2 dX7_consider_33 flX7_18 (by first | assumption | rfl) ?_
      refine Go_ild4 dX7_consider_36 ?_
      refine Go_ild5 dX7_consider_38 ?_
      refine Go_ild2 dX7_consider_40 ?_
      refine Go_cS2 (d' := 0) (bc' := 0) (bs' := 0) rfl dX7_consider_41 msX7_turned rfl lkX7_37 (by decide) (by decide) (by decide) (Nat.le_of_ble_eq_true rfl) ?_
      refine e_X7_turned (by omega) (by omega) ?_
      refine Go_iast dX7_consider_44 (by first | assumption | rfl) trivial (by omega) (by omega) (by decide) ?_
      refine Go_inc4 dX7_consider_45 rfl ?_
      refine Go_goto (tgt := 3) dX7_consider_48 (by decide) ?_
      rw [Int.toNat_natCast]
      exact Go_forget (by repeat' (first | exact Or.inl rfl | exact Or.inr rfl | exact Or.inr (lcg (by omega)) | exact trivial | constructor)) (kn _ ⟨f1.up (by simp), nx _ ef.symm⟩)
    · subst hm
      rw [if_neg (by decide)] at ef
      refine Go_ild4 dX7_consider_3 ?_
      refine Go_ald0 dX7_consider_5 ?_
      refine gf6_4 dX7_consider_6 flX7_30 (by first | assumption | rfl) ?_
      refine Go_icmp_ge (tgt := 51) dX7_consider_9 (by decide) (by constructor <;> omega) (by constructor <;> omega) (fun h9 => by omega) (fun h9 => ?_)
      refine Go_ild3 dX7_consider_12 ?_
      refine Go_if_eq (tgt := 26) dX7_consider_13 (by decide) (by constructor <;> omega) (fun h13 => by omega) (fun h13 => ?_)
      refine Go_ald1 dX7_consider_16 ?_
      refine Go_ild4 dX7_consider_17 ?_
      refine Go_iald dX7_consider_19 (by first | assumption | rfl) trivial (by omega) (by omega) (by decide) ?_
      rw [Int.toNat_natCast, e1]
      refine Go_cS1 (d' := 0) (bc' := 0) (bs' := 0) rfl dX7_consider_20 msX7_mirrored rfl lkX7_51 (by decide) (by decide) (by decide) (Nat.le_of_ble_eq_true rfl) ?_
      refine e_X7_mirrored (by omega) ?_
      refine Go_goto (tgt := 30) dX7_consider_23 (by decide) ?_
      refine Go_ist5 dX7_consider_30 rfl ?_
      refine Go_ald0 dX7_consider_32 ?_
      refine gf6_2 dX7_consider_33 flX7_18 (by first | assumption | rfl) ?_
      refine Go_ild4 dX7_consider_36 ?_
      refine Go_ild5 dX7_consider_38 ?_
      refine Go_ild2 dX7_consider_40 ?_
      refine Go_cS2 (d' := 0) (bc' := 0) (bs' := 0) rfl dX7_consider_41 msX7_turned rfl lkX7_37 (by decide) (by decide) (by decide) (Nat.le_of_ble_eq_true rfl) ?_
      refine e_X7_turned (by omega) (by omega) ?_
      refine Go_iast dX7_consider_44 (by first | assumption | rfl) trivial (by omega) (by omega) (by decide) ?_
      refine Go_inc4 dX7_consider_45 rfl ?_
      refine Go_goto (tgt := 3) dX7_consider_48 (by decide) ?_
      rw [Int.toNat_natCast]
      exact Go_forget (by repeat' (first | exact Or.inl rfl | exact Or.inr rfl | exact Or.inr (lcg (by omega)) | exact trivial | constructor)) (kn _ ⟨f1.up (by simp), nx _ ef.symm⟩)
  · try dsimp only at hP
    try dsimp only
    obtain ⟨f1, hP⟩ := hP
    have e2 : v S 4 = (n : Int) := by rw [f1.at (by simp)]; exact h.1
    have b60 := h.2.1
    have hsp : SP v S n g := ⟨e2, h.2.1, fun j hj => by rw [f1.at (by simp)]; exact h.2.2 j hj⟩
    refine Go_ild4 dX7_consider_3 ?_
    refine Go_ald0 dX7_consider_5 ?_
    refine gf6_4 dX7_consider_6 flX7_30 (by first | assumption | rfl) ?_
    refine Go_icmp_ge (tgt := 51) dX7_consider_9 (by decide) (by constructor <;> omega) (by constructor <;> omega) (fun h9 => ?_) (fun h9 => by omega)
    refine Go_ald0 dX7_consider_51 ?_
    refine Go_cV0 (d' := 0) (bc' := 0) (bs' := 0) rfl dX7_consider_52 mvX7_isViewLess rfl lkX7_54 (by first | assumption | rfl) rfl trivial (by decide) (by decide) (by decide) (Nat.le_of_ble_eq_true rfl) ?_
    refine e_X7_isViewLess hS hsp (fun j hj => ⟨hP j hj, fi j hj⟩) (fun hlt => ?_) (fun hlt => ?_)
    · skip
      refine Go_if_eq (tgt := 75) dX7_consider_55 (by decide) (by constructor <;> omega) (fun h55 => by omega) (fun h55 => ?_)
      refine Go_ald0 dX7_consider_58 ?_
      refine gf6_2 dX7_consider_59 flX7_18 (by first | assumption | rfl) ?_
      refine Go_iconst dX7_consider_62 ?_
      refine Go_ald0 dX7_consider_63 ?_
      refine gf6_3 dX7_consider_64 flX7_21 (by first | assumption | rfl) ?_
      refine Go_iconst dX7_consider_67 ?_
      refine Go_ald0 dX7_consider_68 ?_
      refine gf6_4 dX7_consider_69 flX7_30 (by first | assumption | rfl) ?_
      rw [e2]
      refine Go_acopy dX7_consider_72 lkX7_58 (by decide) s3 s4 (by omega) (by omega) (by omega) (Nat.le_of_ble_eq_true rfl) ?_
      refine Go_return dX7_consider_75 rfl ?_
      refine k _ f ⟨by rw [cpW_o (by omega)]; exact e2, h.2.1, fun j hj => ⟨by rw [cpW_i hj]; exact hP j hj, by have := fi j hj; omega, by have := fi j hj; omega⟩⟩ (Or.inl ⟨hlt, fun _ _ => rfl⟩) ((f1.mono (by simp)).cp (by simp))
    · skip
      refine Go_if_eq (tgt := 75) dX7_consider_55 (by decide) (by constructor <;> omega) (fun h55 => ?_) (fun h55 => by omega)
      refine Go_return dX7_consider_75 rfl ?_
      exact k _ g hsp (Or.inr ⟨hlt, fun _ _ => rfl⟩) (f1.mono (by simp))
theorem e_X7_stepAt {i : Int} (hS : SHs S) (h : SP w S n g) (hi : inR i) (k : K (vi (if 0 ≤ i ∧ i < n then g i.toNat else -1)) none w) : Ev G yX7_stepAt cX7_stepAt 2 mX7_stepAt none 0 0 0 [vr S, vi i] w K X := by
  obtain ⟨hs, s1, s2, s3, s4, -, -⟩ := shs hS
  obtain ⟨h1, h2, h3⟩ := h
  have a1 := hi.1
  have a2 := hi.2
  refine Ev_intro mvX7_stepAt.1 rfl (fun h => by cases h) (allc1 rfl) (Nat.le_of_ble_eq_true rfl) (Or.inl rfl) ?_
  show Go G cX7_stepAt mX7_stepAt none 0 0 0 0 [some (vr S), some (vi i)] [] w K X
  refine Go_ild1 dX7_stepAt_0 ?_
  refine Go_if_lt (tgt := 21) dX7_stepAt_1 (by decide) (by constructor <;> omega) (fun h1 => ?_) (fun h1 => ?_)
  · refine Go_iconst dX7_stepAt_21 ?_
    refine Go_ireturn dX7_stepAt_22 rfl (by first | rfl | decide | simp [narrow]) ?_
    first | (refine kI (Eq.symm (if_neg (by omega))) k) | (refine kI ?_ k; rw [if_pos (by omega)]; exact (h3 i.toNat (by omega)).1)
  · refine Go_ild1 dX7_stepAt_4 ?_
    refine Go_ald0 dX7_stepAt_5 ?_
    refine gf6_4 dX7_stepAt_6 flX7_30 (by first | assumption | rfl) ?_
    refine Go_icmp_ge (tgt := 21) dX7_stepAt_9 (by decide) (by constructor <;> omega) (by constructor <;> omega) (fun h9 => ?_) (fun h9 => ?_)
    · refine Go_iconst dX7_stepAt_21 ?_
      refine Go_ireturn dX7_stepAt_22 rfl (by first | rfl | decide | simp [narrow]) ?_
      first | (refine kI (Eq.symm (if_neg (by omega))) k) | (refine kI ?_ k; rw [if_pos (by omega)]; exact (h3 i.toNat (by omega)).1)
    · refine Go_ald0 dX7_stepAt_12 ?_
      refine gf6_3 dX7_stepAt_13 flX7_21 (by first | assumption | rfl) ?_
      refine Go_ild1 dX7_stepAt_16 ?_
      refine Go_iald dX7_stepAt_17 (by first | assumption | rfl) trivial (by omega) (by omega) (by decide) ?_
      refine Go_goto (tgt := 22) dX7_stepAt_18 (by decide) ?_
      refine Go_ireturn dX7_stepAt_22 rfl (by first | rfl | decide | simp [narrow]) ?_
      first | (refine kI (Eq.symm (if_neg (by omega))) k) | (refine kI ?_ k; rw [if_pos (by omega)]; exact (h3 i.toNat (by omega)).1)
theorem e_X7_matches {n' : Nat} {g' : Nat → Int} (h : SP w 58 n g) (h' : SP w 63 n' g') (kt : n = n' → (∀ j, j < n → g j = g' j) → K (vi 1) none w) (kf : ¬ (n = n' ∧ ∀ j, j < n → g j = g' j) → K (vi 0) none w) : Ev G yX7_matches cX7_matches 3 mX7_matches none 0 0 0 [vr 58, vr 63] w K X := by
  obtain ⟨h1, h2, h3⟩ := h
  obtain ⟨k1, k2, k3⟩ := h'
  refine Ev_intro mvX7_matches.1 rfl (fun h => by cases h) (allc1 rfl) (Nat.le_of_ble_eq_true rfl) (Or.inl rfl) ?_
  show Go G cX7_matches mX7_matches none 0 0 0 0 [some (vr 58), some (vr 63), none] [] w K X
  by_cases q : n = n'
  · subst q
    refine Go_ald0 dX7_matches_0 ?_
    refine gf6_4 dX7_matches_1 flX7_30 (by first | assumption | rfl) ?_
    refine Go_ald1 dX7_matches_4 ?_
    refine gf6_4 dX7_matches_5 flX7_30 (by first | assumption | rfl) ?_
    refine Go_icmp_eq (tgt := 13) dX7_matches_8 (by decide) (by constructor <;> omega) (by constructor <;> omega) (fun h8 => ?_) (fun h8 => by omega)
    refine Go_iconst dX7_matches_13 ?_
    refine Go_ist2 dX7_matches_14 rfl ?_
    refine Go_upTo (n := n) (L := fun i => [some (vr 58), some (vr 63), some (vi (i : Int))]) (P := fun i v => v = w ∧ ∀ j, j < i → g j = g' j) (by repeat' (first | exact Or.inl rfl | exact Or.inr rfl | exact Or.inr (lcg (by omega)) | exact trivial | constructor)) (⟨rfl, fun j q => by omega⟩) (fun i v hi hP kn => ?_) (fun v hP => ?_)
    · try dsimp only at hP kn
      try dsimp only
      obtain ⟨rfl, hP⟩ := hP
      have e1 := h3 i hi
      have e2 := k3 i hi
      refine Go_ild2 dX7_matches_15 ?_
      refine Go_ald0 dX7_matches_16 ?_
      refine gf6_4 dX7_matches_17 flX7_30 (by first | assumption | rfl) ?_
      refine Go_icmp_ge (tgt := 46) dX7_matches_20 (by decide) (by constructor <;> omega) (by constructor <;> omega) (fun h20 => by omega) (fun h20 => ?_)
      refine Go_ald0 dX7_matches_23 ?_
      refine gf6_3 dX7_matches_24 flX7_21 (by first | assumption | rfl) ?_
      refine Go_ild2 dX7_matches_27 ?_
      refine Go_iald dX7_matches_28 (by first | assumption | rfl) trivial (by omega) (by omega) (by decide) ?_
      refine Go_ald1 dX7_matches_29 ?_
      refine gf6_3 dX7_matches_30 flX7_21 (by first | assumption | rfl) ?_
      refine Go_ild2 dX7_matches_33 ?_
      refine Go_iald dX7_matches_34 (by first | assumption | rfl) trivial (by omega) (by omega) (by decide) ?_
      rw [Int.toNat_natCast]
      refine Go_icmp_eq (tgt := 40) dX7_matches_35 (by decide) (by constructor <;> omega) (by constructor <;> omega) (fun h35 => ?_) (fun h35 => ?_)
      · refine Go_inc2 dX7_matches_40 rfl ?_
        refine Go_goto (tgt := 15) dX7_matches_43 (by decide) ?_
        refine Go_forget (by repeat' (first | exact Or.inl rfl | exact Or.inr rfl | exact Or.inr (lcg (by omega)) | exact trivial | constructor)) (kn _ ⟨rfl, fun j q => ?_⟩)
        by_cases c : j = i
        · subst c; omega
        · exact hP j (by omega)
      · refine Go_iconst dX7_matches_38 ?_
        refine Go_ireturn dX7_matches_39 rfl (by first | rfl | decide | simp [narrow]) ?_
        exact kf (fun z => by have := z.2 i hi; omega)
    · try dsimp only at hP
      try dsimp only
      obtain ⟨rfl, hP⟩ := hP
      refine Go_ild2 dX7_matches_15 ?_
      refine Go_ald0 dX7_matches_16 ?_
      refine gf6_4 dX7_matches_17 flX7_30 (by first | assumption | rfl) ?_
      refine Go_icmp_ge (tgt := 46) dX7_matches_20 (by decide) (by constructor <;> omega) (by constructor <;> omega) (fun h20 => ?_) (fun h20 => by omega)
      refine Go_iconst dX7_matches_46 ?_
      refine Go_ireturn dX7_matches_47 rfl (by first | rfl | decide | simp [narrow]) ?_
      exact kt rfl hP
  · skip
    refine Go_ald0 dX7_matches_0 ?_
    refine gf6_4 dX7_matches_1 flX7_30 (by first | assumption | rfl) ?_
    refine Go_ald1 dX7_matches_4 ?_
    refine gf6_4 dX7_matches_5 flX7_30 (by first | assumption | rfl) ?_
    refine Go_icmp_eq (tgt := 13) dX7_matches_8 (by decide) (by constructor <;> omega) (by constructor <;> omega) (fun h8 => by omega) (fun h8 => ?_)
    refine Go_iconst dX7_matches_11 ?_
    refine Go_ireturn dX7_matches_12 rfl (by first | rfl | decide | simp [narrow]) ?_
    exact kf (fun z => q z.1)
def vsD : Nat → List Nat
  | 0 => []
  | i + 1 => (12 + i) :: (8 + i) :: (4 + i) :: i :: vsD i
theorem e_X7_find {t : Nat} {l : List Nat} (hS : SHs S) (ht : TR w t l) (hl : LT l) (hp : 1 ≤ l.length) (h50 : t + 1 < 45) (k : ∀ w' g, SP w' S (l.length - 1) g → isLeast l g → frm w w' [S, S + 1, S + 2, S + 3, S + 4] → K (vi 0) none w') : Ev G yX7_find cX7_find 3 mX7_find none 4 0 0 [vr S, vr t] w K X := by
  obtain ⟨hs, s1, s2, s3, s4, sl, sh⟩ := shs hS
  have hts1 := ht.1
  have h60 := ht.2.2.1
  refine Ev_intro mvX7_find.1 rfl (fun h => by cases h) (allc1 rfl) (Nat.le_of_ble_eq_true rfl) (Or.inl rfl) ?_
  show Go G cX7_find mX7_find none 4 0 0 0 [some (vr S), some (vr t), none] [] w K X
  refine Go_ald0 dX7_find_0 ?_
  refine Go_ald1 dX7_find_1 ?_
  refine Go_cV0 (d' := 0) (bc' := 0) (bs' := 0) rfl dX7_find_2 mvX9_steps rfl lkX7_24 (by first | assumption | rfl) rfl trivial (by decide) (by decide) (by decide) (Nat.le_of_ble_eq_true rfl) ?_
  refine e_X9_steps ht ?_
  refine pf6_4 dX7_find_5 flX7_30 (by first | assumption | rfl) ?_
  rw [show (l.length : Int) - 1 = ((l.length - 1 : Nat) : Int) by omega]
  refine Go_iconst dX7_find_8 ?_
  refine Go_ist2 dX7_find_9 rfl ?_
  refine Go_upTo (n := l.length - 1) (L := fun i => [some (vr S), some (vr t), some (vi (i : Int))]) (P := fun i v => frm w v [S, S + 1, S + 2] ∧ v S 4 = ((l.length - 1 : Nat) : Int) ∧ ∀ j, j < i → v (S + 1) j = vwB l 0 j ∧ v (S + 2) j = vwB l 8 j) (by repeat' (first | exact Or.inl rfl | exact Or.inr rfl | exact Or.inr (lcg (by omega)) | exact trivial | constructor)) (⟨frm.rfl.up (by simp), up_s, fun j q => by omega⟩) (fun i v hi hP kn => ?_) (fun v hP => ?_)
  · try dsimp only at hP kn
    try dsimp only
    obtain ⟨f1, e1, hP⟩ := hP
    have h1 := ht.frm f1 (by simp; omega) (by simp; omega)
    have b1 := stJ_in l i
    have b2 := stJ_in l (l.length - 1 - 1 - i)
    refine Go_ild2 dX7_find_10 ?_
    refine Go_ald0 dX7_find_11 ?_
    refine gf6_4 dX7_find_12 flX7_30 (by first | assumption | rfl) ?_
    refine Go_icmp_ge (tgt := 57) dX7_find_15 (by decide) (by constructor <;> omega) (by constructor <;> omega) (fun h15 => by omega) (fun h15 => ?_)
    refine Go_ald0 dX7_find_18 ?_
    refine gf6_0 dX7_find_19 flX7_9 (by first | assumption | rfl) ?_
    refine Go_ild2 dX7_find_22 ?_
    refine Go_ald1 dX7_find_23 ?_
    refine Go_ild2 dX7_find_24 ?_
    refine Go_cV1 (d' := 3) (bc' := 0) (bs' := 0) rfl dX7_find_25 mvX9_stepAt rfl lkX7_33 (by first | assumption | rfl) rfl trivial (by decide) (by decide) (by decide) (Nat.le_of_ble_eq_true rfl) ?_
    refine e_X9_stepAtN (j := i) h1 hl rfl (by omega) ?_
    refine Go_iast dX7_find_28 (by first | assumption | rfl) trivial (by omega) (by omega) (by decide) ?_
    refine Go_ald0 dX7_find_29 ?_
    refine gf6_1 dX7_find_30 flX7_15 (by first | assumption | rfl) ?_
    refine Go_ild2 dX7_find_33 ?_
    rw [Int.toNat_natCast]
    have h2 := h1.frm (A := [S + 1]) (w' := up v (S + 1) i (stJ l i)) (frm.rfl.up (by simp)) (by simp; omega) (by simp; omega)
    refine Go_ald1 dX7_find_34 ?_
    refine Go_ald0 dX7_find_35 ?_
    refine gf6_4 dX7_find_36 flX7_30 (by first | assumption | rfl) ?_
    rw [up_a (by omega), e1]
    refine Go_iconst dX7_find_39 ?_
    refine Go_isub dX7_find_40 ?_
    refine Go_ild2 dX7_find_41 ?_
    refine Go_isub dX7_find_42 ?_
    refine Go_cV1 (d' := 3) (bc' := 0) (bs' := 0) rfl dX7_find_43 mvX9_stepAt rfl lkX7_33 (by first | assumption | rfl) rfl trivial (by decide) (by decide) (by decide) (Nat.le_of_ble_eq_true rfl) ?_
    refine e_X9_stepAtN (j := l.length - 1 - 1 - i) h2 hl (by omega) (by omega) ?_
    refine Go_iconst dX7_find_46 ?_
    refine Go_cS2 (d' := 0) (bc' := 0) (bs' := 0) rfl dX7_find_47 msX7_turned rfl lkX7_37 (by decide) (by decide) (by decide) (Nat.le_of_ble_eq_true rfl) ?_
    refine e_X7_turned (by omega) (by omega) ?_
    refine Go_iast dX7_find_50 (by first | assumption | rfl) trivial (by omega) (by omega) (by decide) ?_
    refine Go_inc2 dX7_find_51 rfl ?_
    refine Go_goto (tgt := 10) dX7_find_54 (by decide) ?_
    rw [Int.toNat_natCast]
    refine Go_forget (by repeat' (first | exact Or.inl rfl | exact Or.inr rfl | exact Or.inr (lcg (by omega)) | exact trivial | constructor)) (kn _ ⟨(f1.up (by simp)).up (by simp), by rw [up_a (by omega), up_a (by omega)]; exact e1, fun j hj => ?_⟩)
    rw [up_a (b := S + 1) (by omega)]
    by_cases c : j = i
    · subst c; rw [up_s, up_s]; exact ⟨rfl, rfl⟩
    · rw [up_k c, up_k c, up_a (by omega)]; exact hP j (by omega)
  · try dsimp only at hP
    try dsimp only
    obtain ⟨f1, e1, hP⟩ := hP
    refine Go_ild2 dX7_find_10 ?_
    refine Go_ald0 dX7_find_11 ?_
    refine gf6_4 dX7_find_12 flX7_30 (by first | assumption | rfl) ?_
    refine Go_icmp_ge (tgt := 57) dX7_find_15 (by decide) (by constructor <;> omega) (by constructor <;> omega) (fun h15 => ?_) (fun h15 => by omega)
    refine Go_ald0 dX7_find_57 ?_
    refine gf6_3 dX7_find_58 flX7_21 (by first | assumption | rfl) ?_
    refine Go_iconst dX7_find_61 ?_
    refine Go_cSv2 (d' := 0) (bc' := 0) (bs' := 0) rfl dX7_find_62 msJ7_fill_53178 rfl lkX7_41 (by decide) (by decide) (by decide) (Nat.le_of_ble_eq_true rfl) ?_
    refine e_J7_fill_53178 (n := 60) s4 (by decide) (fun w2 f2 g2 => ?_)
    refine Go_iconst dX7_find_65 ?_
    refine Go_ist2 dX7_find_66 rfl ?_
    have e2 : w2 S 4 = ((l.length - 1 : Nat) : Int) := by rw [f2.at (by simp)]; exact e1
    have sp0 : SP w2 S (l.length - 1) (fun _ => 4) := ⟨e2, by omega, fun j hj => ⟨g2 j (by omega), show (0 : Int) ≤ 4 by decide, show (4 : Int) ≤ 4 by decide⟩⟩
    have ls0 : LSP l (vsD 0) (fun _ => 4) := ⟨fun v hv => (by cases hv), Or.inl ⟨rfl, fun _ _ => rfl⟩⟩
    refine Go_upTo (n := 4) (L := fun i => [some (vr S), some (vr t), some (vi (i : Int))]) (P := fun i v => (∃ g, SP v S (l.length - 1) g ∧ LSP l (vsD i) g) ∧ frm w2 v [S + 3, S + 4]) (by repeat' (first | exact Or.inl rfl | exact Or.inr rfl | exact Or.inr (lcg (by omega)) | exact trivial | constructor)) (⟨⟨_, sp0, ls0⟩, frm.rfl⟩) (fun i v hi hP kn => ?_) (fun v hP => ?_)
    · try dsimp only at hP kn
      try dsimp only
      obtain ⟨⟨g, sp, lsp⟩, f3⟩ := hP
      have rT : ∀ w', frm w2 w' [S + 3, S + 4] → ∀ j, j < l.length - 1 → w' (S + 1) j = vwB l 0 j ∧ 0 ≤ vwB l 0 j ∧ vwB l 0 j < 4 := fun w' fr j hj => ⟨by rw [fr.at (by simp), f2.at (by simp)]; exact (hP j hj).1, vwB_in l 0 j⟩
      have rH : ∀ w', frm w2 w' [S + 3, S + 4] → ∀ j, j < l.length - 1 → w' (S + 2) j = vwB l 8 j ∧ 0 ≤ vwB l 8 j ∧ vwB l 8 j < 4 := fun w' fr j hj => ⟨by rw [fr.at (by simp), f2.at (by simp)]; exact (hP j hj).2, vwB_in l 8 j⟩
      have i4 : i = 0 ∨ i = 1 ∨ i = 2 ∨ i = 3 := by omega
      refine Go_ild2 dX7_find_67 ?_
      refine Go_iconst dX7_find_68 ?_
      refine Go_icmp_ge (tgt := 118) dX7_find_69 (by decide) (by constructor <;> omega) (by constructor <;> omega) (fun h69 => by omega) (fun h69 => ?_)
      refine Go_ald0 dX7_find_72 ?_
      refine Go_ald0 dX7_find_73 ?_
      refine gf6_0 dX7_find_74 flX7_9 (by first | assumption | rfl) ?_
      refine Go_ild2 dX7_find_77 ?_
      refine Go_iconst dX7_find_78 ?_
      refine Go_cVv3 (d' := 1) (bc' := 0) (bs' := 0) rfl dX7_find_79 mvX7_consider rfl lkX7_47 (by first | assumption | rfl) rfl trivial (by decide) (by decide) (by decide) (Nat.le_of_ble_eq_true rfl) ?_
      refine e_X7_consider (f := vwJ l i) (rj := vwB l 0) hS (Or.inl rfl) sp (rT _ f3) hi (Or.inl rfl) (fun j => by rcases i4 with c | c | c | c <;> subst c <;> rfl) (fun w4 g4 sp4 o4 f4 => ?_)
      have f4' := f3.trans f4 (fun _ h => h)
      refine Go_ald0 dX7_find_82 ?_
      refine Go_ald0 dX7_find_83 ?_
      refine gf6_0 dX7_find_84 flX7_9 (by first | assumption | rfl) ?_
      refine Go_ild2 dX7_find_87 ?_
      refine Go_iconst dX7_find_88 ?_
      refine Go_cVv3 (d' := 1) (bc' := 0) (bs' := 0) rfl dX7_find_89 mvX7_consider rfl lkX7_47 (by first | assumption | rfl) rfl trivial (by decide) (by decide) (by decide) (Nat.le_of_ble_eq_true rfl) ?_
      refine e_X7_consider (f := vwJ l (4 + i)) (rj := vwB l 0) hS (Or.inl rfl) sp4 (rT _ f4') hi (Or.inr rfl) (fun j => by rcases i4 with c | c | c | c <;> subst c <;> rfl) (fun w5 g5 sp5 o5 f5 => ?_)
      have f5' := f4'.trans f5 (fun _ h => h)
      refine Go_ald0 dX7_find_92 ?_
      refine Go_ald0 dX7_find_93 ?_
      refine gf6_1 dX7_find_94 flX7_15 (by first | assumption | rfl) ?_
      refine Go_ild2 dX7_find_97 ?_
      refine Go_iconst dX7_find_98 ?_
      refine Go_cVv3 (d' := 1) (bc' := 0) (bs' := 0) rfl dX7_find_99 mvX7_consider rfl lkX7_47 (by first | assumption | rfl) rfl trivial (by decide) (by decide) (by decide) (Nat.le_of_ble_eq_true rfl) ?_
      refine e_X7_consider (f := vwJ l (8 + i)) (rj := vwB l 8) hS (Or.inr rfl) sp5 (rH _ f5') hi (Or.inl rfl) (fun j => by rcases i4 with c | c | c | c <;> subst c <;> rfl) (fun w6 g6 sp6 o6 f6 => ?_)
      have f6' := f5'.trans f6 (fun _ h => h)
      refine Go_ald0 dX7_find_102 ?_
      refine Go_ald0 dX7_find_103 ?_
      refine gf6_1 dX7_find_104 flX7_15 (by first | assumption | rfl) ?_
      refine Go_ild2 dX7_find_107 ?_
      refine Go_iconst dX7_find_108 ?_
      refine Go_cVv3 (d' := 1) (bc' := 0) (bs' := 0) rfl dX7_find_109 mvX7_consider rfl lkX7_47 (by first | assumption | rfl) rfl trivial (by decide) (by decide) (by decide) (Nat.le_of_ble_eq_true rfl) ?_
      refine e_X7_consider (f := vwJ l (12 + i)) (rj := vwB l 8) hS (Or.inr rfl) sp6 (rH _ f6') hi (Or.inr rfl) (fun j => by rcases i4 with c | c | c | c <;> subst c <;> rfl) (fun w7 g7 sp7 o7 f7 => ?_)
      have f7' := f6'.trans f7 (fun _ h => h)
      refine Go_inc2 dX7_find_112 rfl ?_
      refine Go_goto (tgt := 67) dX7_find_115 (by decide) ?_
      exact Go_forget (by repeat' (first | exact Or.inl rfl | exact Or.inr rfl | exact Or.inr (lcg (by omega)) | exact trivial | constructor)) (kn _ ⟨⟨g7, sp7, (((lsp.next o4).next o5).next o6).next o7⟩, f7'⟩)
    · try dsimp only at hP
      try dsimp only
      obtain ⟨⟨g, sp, lsp⟩, f3⟩ := hP
      refine Go_ild2 dX7_find_67 ?_
      refine Go_iconst dX7_find_68 ?_
      refine Go_icmp_ge (tgt := 118) dX7_find_69 (by decide) (by constructor <;> omega) (by constructor <;> omega) (fun h69 => ?_) (fun h69 => by omega)
      refine Go_return dX7_find_118 rfl ?_
      refine k _ g sp (lsp.all (fun v => ?_)) (((f1.mono (by simp)).trans f2 (by simp)).trans f3 (by simp))
      show v < 16 ↔ v ∈ [15, 11, 7, 3, 14, 10, 6, 2, 13, 9, 5, 1, 12, 8, 4, 0]
      simp only [List.mem_cons, List.not_mem_nil, or_false]
      omega
end Shape
