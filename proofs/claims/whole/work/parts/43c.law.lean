section Law
variable {G : Gm} {tb : List (Nat × Nat × Nat × Nat)} {w : Wd} {K : Kt} {X : Xt} {s : Sta} {sv : List Sta} {g : Nat → Option Sta} {tx : List Nat} {i bn sn : Nat}
theorem l_law_place (hi : i + 4 ≤ GL G) (hL : GL G < 2147483648) (h : CI w s sv g tx) (hm : MInv w s sv g tx) (kn : ∀ v s sv g tx, CI v s sv g tx → MInv v s sv g tx → Go G cL_law (mL_law tb) none 18 bn sn 2106 [some (vr 1000), some (vr 1), some (vr 68), some (vr 84), some (vr 85), some (vi (i : Int)), none, none, none, none] [] v K X) : Go G cL_law (mL_law tb) none 18 (bn + 8) (sn + 48) 1198 [some (vr 1000), some (vr 1), some (vr 68), some (vr 84), some (vr 85), some (vi (i : Int)), none, none, none, none] [] w K X := by
  have q_k : ∀ p : Nat, (sx G (i + 1)) = p → p < s.1.length → Go G cL_law (mL_law tb) none 18 (bn + 8 - 1) (sn + 48 - 6) 1215 [some (vr 1000), some (vr 1), some (vr 68), some (vr 84), some (vr 85), some (vi (i : Int)), none, none, none, none] [vi 0] (up w 84 0 (nz (atI (pth s.1 p) (sx G (i + 2))))) K X := fun p a1 a2 => by
    have c1 := h
    have hm1 : MInv (up w 84 0 (nz (atI (pth s.1 p) (sx G (i + 2))))) s sv g tx := (hm).out (A := [84]) (frm.rfl.up (by simp)) (by decide)
    have c2 : CI (up w 84 0 (nz (atI (pth s.1 p) (sx G (i + 2))))) _ _ _ _ := c1.frm (A := [84]) (frm.rfl.up (by simp)) (by decide)
    refine Go_ist6 dL_law_1215 rfl ?_
    refine Go_ald2 dL_law_1217 ?_
    refine Go_ald0 dL_law_1218 ?_
    refine Go_ild5 dL_law_1219 ?_
    refine Go_iconst dL_law_1221 ?_
    refine Go_iadd dL_law_1222 ?_
    refine Go_xld (j := i + 1) dL_law_1223 (by omega) (by omega) hL ?_
    refine Go_ald0 dL_law_1224 ?_
    refine Go_ild5 dL_law_1225 ?_
    refine Go_iconst dL_law_1227 ?_
    refine Go_iadd dL_law_1228 ?_
    refine Go_xld (j := i + 2) dL_law_1229 (by omega) (by omega) hL ?_
    refine Go_cV2 (d' := 3) (bc' := 0) (bs' := 0) rfl dL_law_1230 mvX12_place rfl lkL_179 (by first | assumption | rfl) rfl trivial (by decide) (by omega) (by omega) (Nat.le_of_ble_eq_true rfl) ?_
    refine e_X12_place hm1 (sx_in G _) (sx_in G _) (fun w2 p_2 b1 b2 mx => ?_) (fun w2 b1 mx => by (exfalso; first | omega | (first | omega | exact b1 ⟨a1, a2⟩)))
    have e_p_2 : p_2 = p := (by omega)
    subst e_p_2
    refine Go_ist7 dL_law_1233 rfl ?_
    refine Go_ald2 dL_law_1235 ?_
    refine Go_cV0 (d' := 0) (bc' := 0) (bs' := 0) rfl dL_law_1236 mvX12_thrown rfl lkL_118 (by first | assumption | rfl) rfl trivial (by decide) (by omega) (by omega) (Nat.le_of_ble_eq_true rfl) ?_
    refine e_X12_thrown ?_
    rw [mx.2.1]
    refine Go_ild6 dL_law_1239 ?_
    refine Go_icmp_eq (tgt := 1246) dL_law_1241 (by decide) (by constructor <;> omega) (by constructor <;> omega) (fun h1241 => ?_) (fun h1241 => by omega)
    refine Go_ild6 dL_law_1246 ?_
    refine Go_if_ne (tgt := 1263) dL_law_1248 (by decide) (by constructor <;> omega) (fun h1248 => by omega) (fun h1248 => ?_)
    refine Go_ald3 dL_law_1251 ?_
    refine Go_iconst dL_law_1252 ?_
    refine Go_lald dL_law_1253 (by first | assumption | rfl) trivial (by omega) (by omega) (by decide) ?_
    rw [show (0 : Int).toNat = 0 from rfl, mx.2.2.at (by decide), up_s]
    refine Go_ild7 dL_law_1254 ?_
    refine Go_i2lN dL_law_1256 ?_
    refine Go_lcmp_same dL_law_1257 ?_
    refine Go_if_eq (tgt := 1263) dL_law_1258 (by decide) (by constructor <;> omega) (fun h1258 => ?_) (fun h1258 => by omega)
    refine Go_goto (tgt := 2106) dL_law_1263 (by decide) ?_
    exact Go_more (by omega) (by omega) (Go_forget (by repeat' (first | exact Or.inl rfl | exact Or.inr rfl | exact Or.inr (lcg (by omega)) | exact trivial | constructor)) (kn w2 _ _ _ _ (c2.frm mx.2.2 (by decide +kernel)) mx.1))
  have q_x1 : ¬ (0 ≤ (sx G (i + 1)) ∧ (sx G (i + 1)) < s.1.length) → Go G cL_law (mL_law tb) none 18 (bn + 8 - 1) (sn + 48 - 6) 1215 [some (vr 1000), some (vr 1), some (vr 68), some (vr 84), some (vr 85), some (vi (i : Int)), none, none, none, none] [vi 1] (w) K X := fun a1 => by
    have c1 := h
    have hm1 := hm
    have c2 := c1
    refine Go_ist6 dL_law_1215 rfl ?_
    refine Go_ald2 dL_law_1217 ?_
    refine Go_ald0 dL_law_1218 ?_
    refine Go_ild5 dL_law_1219 ?_
    refine Go_iconst dL_law_1221 ?_
    refine Go_iadd dL_law_1222 ?_
    refine Go_xld (j := i + 1) dL_law_1223 (by omega) (by omega) hL ?_
    refine Go_ald0 dL_law_1224 ?_
    refine Go_ild5 dL_law_1225 ?_
    refine Go_iconst dL_law_1227 ?_
    refine Go_iadd dL_law_1228 ?_
    refine Go_xld (j := i + 2) dL_law_1229 (by omega) (by omega) hL ?_
    refine Go_cV2 (d' := 3) (bc' := 0) (bs' := 0) rfl dL_law_1230 mvX12_place rfl lkL_179 (by first | assumption | rfl) rfl trivial (by decide) (by omega) (by omega) (Nat.le_of_ble_eq_true rfl) ?_
    refine e_X12_place hm1 (sx_in G _) (sx_in G _) (fun w2 p_2 b1 b2 mx => by (exfalso; first | omega | (first | omega | exact a1 ⟨b1, b2⟩))) (fun w2 b1 mx => ?_)
    refine Go_ist7 dL_law_1233 rfl ?_
    refine Go_ald2 dL_law_1235 ?_
    refine Go_cV0 (d' := 0) (bc' := 0) (bs' := 0) rfl dL_law_1236 mvX12_thrown rfl lkL_118 (by first | assumption | rfl) rfl trivial (by decide) (by omega) (by omega) (Nat.le_of_ble_eq_true rfl) ?_
    refine e_X12_thrown ?_
    rw [mx.2.1]
    refine Go_ild6 dL_law_1239 ?_
    refine Go_icmp_eq (tgt := 1246) dL_law_1241 (by decide) (by constructor <;> omega) (by constructor <;> omega) (fun h1241 => ?_) (fun h1241 => by omega)
    refine Go_ild6 dL_law_1246 ?_
    refine Go_if_ne (tgt := 1263) dL_law_1248 (by decide) (by constructor <;> omega) (fun h1248 => ?_) (fun h1248 => by omega)
    refine Go_goto (tgt := 2106) dL_law_1263 (by decide) ?_
    exact Go_more (by omega) (by omega) (Go_forget (by repeat' (first | exact Or.inl rfl | exact Or.inr rfl | exact Or.inr (lcg (by omega)) | exact trivial | constructor)) (kn w2 _ _ _ _ (c2.frm mx.2.2 (by decide +kernel)) mx.1))
  refine Go_ald1 dL_law_1198 ?_
  refine Go_ald0 dL_law_1199 ?_
  refine Go_ild5 dL_law_1200 ?_
  refine Go_iconst dL_law_1202 ?_
  refine Go_iadd dL_law_1203 ?_
  refine Go_xld (j := i + 1) dL_law_1204 (by omega) (by omega) hL ?_
  refine Go_ald0 dL_law_1205 ?_
  refine Go_ild5 dL_law_1206 ?_
  refine Go_iconst dL_law_1208 ?_
  refine Go_iadd dL_law_1209 ?_
  refine Go_xld (j := i + 2) dL_law_1210 (by omega) (by omega) hL ?_
  refine Go_ald3 dL_law_1211 ?_
  refine Go_cSW (d' := 8) (bc' := 1) (bs' := 6) (as := [vr 1, vi (sx G (i + 1)), vi (sx G (i + 2)), vr 84]) rfl dL_law_1212 msL_place rfl lkL_177 rfl rfl (Nat.le_of_ble_eq_true rfl) (by decide) (by omega) (by omega) ?_
  refine e_L_place h (sx_in G _) (sx_in G _) q_k q_x1
theorem l_law_path (hi : i + 4 ≤ GL G) (hL : GL G < 2147483648) (h : CI w s sv g tx) (hm : MInv w s sv g tx) (kn : ∀ v s sv g tx, CI v s sv g tx → MInv v s sv g tx → Go G cL_law (mL_law tb) none 18 bn sn 2106 [some (vr 1000), some (vr 1), some (vr 68), some (vr 84), some (vr 85), some (vi (i : Int)), none, none, none, none] [] v K X) : Go G cL_law (mL_law tb) none 18 (bn + 8) (sn + 48) 1266 [some (vr 1000), some (vr 1), some (vr 68), some (vr 84), some (vr 85), some (vi (i : Int)), none, none, none, none] [] w K X := by
  have q_k : ∀ p : Nat, (sx G (i + 1)) = p → p < s.1.length → 0 ≤ (sx G (i + 2)) → (sx G (i + 2)) ≤ 8 → Go G cL_law (mL_law tb) none 18 (bn + 8 - 2) (sn + 48 - 12) 1283 [some (vr 1000), some (vr 1), some (vr 68), some (vr 84), some (vr 85), some (vi (i : Int)), none, none, none, none] [vi 0] (up w 84 0 (nz (pthA s.1 p (sx G (i + 2))))) K X := fun p a1 a2 a3 a4 => by
    have c1 := h
    have hm1 : MInv (up w 84 0 (nz (pthA s.1 p (sx G (i + 2))))) s sv g tx := (hm).out (A := [84]) (frm.rfl.up (by simp)) (by decide)
    have c2 : CI (up w 84 0 (nz (pthA s.1 p (sx G (i + 2))))) _ _ _ _ := c1.frm (A := [84]) (frm.rfl.up (by simp)) (by decide)
    refine Go_ist6 dL_law_1283 rfl ?_
    refine Go_ald2 dL_law_1285 ?_
    refine Go_ald0 dL_law_1286 ?_
    refine Go_ild5 dL_law_1287 ?_
    refine Go_iconst dL_law_1289 ?_
    refine Go_iadd dL_law_1290 ?_
    refine Go_xld (j := i + 1) dL_law_1291 (by omega) (by omega) hL ?_
    refine Go_ald0 dL_law_1292 ?_
    refine Go_ild5 dL_law_1293 ?_
    refine Go_iconst dL_law_1295 ?_
    refine Go_iadd dL_law_1296 ?_
    refine Go_xld (j := i + 2) dL_law_1297 (by omega) (by omega) hL ?_
    refine Go_cV2 (d' := 6) (bc' := 0) (bs' := 0) rfl dL_law_1298 mvX12_path rfl lkL_182 (by first | assumption | rfl) rfl trivial (by decide) (by omega) (by omega) (Nat.le_of_ble_eq_true rfl) ?_
    refine e_X12_path hm1 (sx_in G _) (sx_in G _) (fun w2 p_2 b1 b2 b3 b4 mx => ?_) (fun w2 b1 mx => by (exfalso; first | omega | (first | omega | exact b1 ⟨a1, a2⟩ | exact b1 ⟨a2, a3⟩ | exact b1 ⟨a3, a4⟩))) (fun w2 b1 b2 b3 mx => by (exfalso; first | omega | (first | omega | exact b3 ⟨a1, a2⟩ | exact b3 ⟨a2, a3⟩ | exact b3 ⟨a3, a4⟩)))
    have e_p_2 : p_2 = p := (by omega)
    subst e_p_2
    refine Go_ist7 dL_law_1301 rfl ?_
    refine Go_ald2 dL_law_1303 ?_
    refine Go_cV0 (d' := 0) (bc' := 0) (bs' := 0) rfl dL_law_1304 mvX12_thrown rfl lkL_118 (by first | assumption | rfl) rfl trivial (by decide) (by omega) (by omega) (Nat.le_of_ble_eq_true rfl) ?_
    refine e_X12_thrown ?_
    rw [mx.2.1]
    refine Go_ild6 dL_law_1307 ?_
    refine Go_icmp_eq (tgt := 1314) dL_law_1309 (by decide) (by constructor <;> omega) (by constructor <;> omega) (fun h1309 => ?_) (fun h1309 => by omega)
    refine Go_ild6 dL_law_1314 ?_
    refine Go_if_ne (tgt := 1331) dL_law_1316 (by decide) (by constructor <;> omega) (fun h1316 => by omega) (fun h1316 => ?_)
    refine Go_ald3 dL_law_1319 ?_
    refine Go_iconst dL_law_1320 ?_
    refine Go_lald dL_law_1321 (by first | assumption | rfl) trivial (by omega) (by omega) (by decide) ?_
    rw [show (0 : Int).toNat = 0 from rfl, mx.2.2.at (by decide), up_s]
    refine Go_ild7 dL_law_1322 ?_
    refine Go_i2lN dL_law_1324 ?_
    refine Go_lcmp_same dL_law_1325 ?_
    refine Go_if_eq (tgt := 1331) dL_law_1326 (by decide) (by constructor <;> omega) (fun h1326 => ?_) (fun h1326 => by omega)
    refine Go_goto (tgt := 2106) dL_law_1331 (by decide) ?_
    exact Go_more (by omega) (by omega) (Go_forget (by repeat' (first | exact Or.inl rfl | exact Or.inr rfl | exact Or.inr (lcg (by omega)) | exact trivial | constructor)) (kn w2 _ _ _ _ (c2.frm mx.2.2 (by decide +kernel)) mx.1))
  have q_x1 : ¬ (0 ≤ (sx G (i + 1)) ∧ (sx G (i + 1)) < s.1.length) → Go G cL_law (mL_law tb) none 18 (bn + 8 - 2) (sn + 48 - 12) 1283 [some (vr 1000), some (vr 1), some (vr 68), some (vr 84), some (vr 85), some (vi (i : Int)), none, none, none, none] [vi 1] (w) K X := fun a1 => by
    have c1 := h
    have hm1 := hm
    have c2 := c1
    refine Go_ist6 dL_law_1283 rfl ?_
    refine Go_ald2 dL_law_1285 ?_
    refine Go_ald0 dL_law_1286 ?_
    refine Go_ild5 dL_law_1287 ?_
    refine Go_iconst dL_law_1289 ?_
    refine Go_iadd dL_law_1290 ?_
    refine Go_xld (j := i + 1) dL_law_1291 (by omega) (by omega) hL ?_
    refine Go_ald0 dL_law_1292 ?_
    refine Go_ild5 dL_law_1293 ?_
    refine Go_iconst dL_law_1295 ?_
    refine Go_iadd dL_law_1296 ?_
    refine Go_xld (j := i + 2) dL_law_1297 (by omega) (by omega) hL ?_
    refine Go_cV2 (d' := 6) (bc' := 0) (bs' := 0) rfl dL_law_1298 mvX12_path rfl lkL_182 (by first | assumption | rfl) rfl trivial (by decide) (by omega) (by omega) (Nat.le_of_ble_eq_true rfl) ?_
    refine e_X12_path hm1 (sx_in G _) (sx_in G _) (fun w2 p_2 b1 b2 b3 b4 mx => by (exfalso; first | omega | (first | omega | exact a1 ⟨b1, b2⟩ | exact a1 ⟨b2, b3⟩ | exact a1 ⟨b3, b4⟩ | exact a1 ⟨b1, b2, b3, b4⟩))) (fun w2 b1 mx => ?_) (fun w2 b1 b2 b3 mx => by (exfalso; first | omega | (first | omega | exact a1 ⟨b1, b2⟩ | exact a1 ⟨b2, b3⟩)))
    refine Go_ist7 dL_law_1301 rfl ?_
    refine Go_ald2 dL_law_1303 ?_
    refine Go_cV0 (d' := 0) (bc' := 0) (bs' := 0) rfl dL_law_1304 mvX12_thrown rfl lkL_118 (by first | assumption | rfl) rfl trivial (by decide) (by omega) (by omega) (Nat.le_of_ble_eq_true rfl) ?_
    refine e_X12_thrown ?_
    rw [mx.2.1]
    refine Go_ild6 dL_law_1307 ?_
    refine Go_icmp_eq (tgt := 1314) dL_law_1309 (by decide) (by constructor <;> omega) (by constructor <;> omega) (fun h1309 => ?_) (fun h1309 => by omega)
    refine Go_ild6 dL_law_1314 ?_
    refine Go_if_ne (tgt := 1331) dL_law_1316 (by decide) (by constructor <;> omega) (fun h1316 => ?_) (fun h1316 => by omega)
    refine Go_goto (tgt := 2106) dL_law_1331 (by decide) ?_
    exact Go_more (by omega) (by omega) (Go_forget (by repeat' (first | exact Or.inl rfl | exact Or.inr rfl | exact Or.inr (lcg (by omega)) | exact trivial | constructor)) (kn w2 _ _ _ _ (c2.frm mx.2.2 (by decide +kernel)) mx.1))
  have q_x3 : 0 ≤ (sx G (i + 1)) → (sx G (i + 1)) < s.1.length → ¬ (0 ≤ (sx G (i + 2)) ∧ (sx G (i + 2)) ≤ 8) → Go G cL_law (mL_law tb) none 18 (bn + 8 - 2) (sn + 48 - 12) 1283 [some (vr 1000), some (vr 1), some (vr 68), some (vr 84), some (vr 85), some (vi (i : Int)), none, none, none, none] [vi 2] (w) K X := fun a1 a2 a3 => by
    have c1 := h
    have hm1 := hm
    have c2 := c1
    refine Go_ist6 dL_law_1283 rfl ?_
    refine Go_ald2 dL_law_1285 ?_
    refine Go_ald0 dL_law_1286 ?_
    refine Go_ild5 dL_law_1287 ?_
    refine Go_iconst dL_law_1289 ?_
    refine Go_iadd dL_law_1290 ?_
    refine Go_xld (j := i + 1) dL_law_1291 (by omega) (by omega) hL ?_
    refine Go_ald0 dL_law_1292 ?_
    refine Go_ild5 dL_law_1293 ?_
    refine Go_iconst dL_law_1295 ?_
    refine Go_iadd dL_law_1296 ?_
    refine Go_xld (j := i + 2) dL_law_1297 (by omega) (by omega) hL ?_
    refine Go_cV2 (d' := 6) (bc' := 0) (bs' := 0) rfl dL_law_1298 mvX12_path rfl lkL_182 (by first | assumption | rfl) rfl trivial (by decide) (by omega) (by omega) (Nat.le_of_ble_eq_true rfl) ?_
    refine e_X12_path hm1 (sx_in G _) (sx_in G _) (fun w2 p_2 b1 b2 b3 b4 mx => by (exfalso; first | omega | (first | omega | exact a3 ⟨b1, b2⟩ | exact a3 ⟨b2, b3⟩ | exact a3 ⟨b3, b4⟩ | exact a3 ⟨b1, b2, b3, b4⟩))) (fun w2 b1 mx => by (exfalso; first | omega | (first | omega | exact b1 ⟨a1, a2⟩ | exact b1 ⟨a2, a3⟩))) (fun w2 b1 b2 b3 mx => ?_)
    refine Go_ist7 dL_law_1301 rfl ?_
    refine Go_ald2 dL_law_1303 ?_
    refine Go_cV0 (d' := 0) (bc' := 0) (bs' := 0) rfl dL_law_1304 mvX12_thrown rfl lkL_118 (by first | assumption | rfl) rfl trivial (by decide) (by omega) (by omega) (Nat.le_of_ble_eq_true rfl) ?_
    refine e_X12_thrown ?_
    rw [mx.2.1]
    refine Go_ild6 dL_law_1307 ?_
    refine Go_icmp_eq (tgt := 1314) dL_law_1309 (by decide) (by constructor <;> omega) (by constructor <;> omega) (fun h1309 => ?_) (fun h1309 => by omega)
    refine Go_ild6 dL_law_1314 ?_
    refine Go_if_ne (tgt := 1331) dL_law_1316 (by decide) (by constructor <;> omega) (fun h1316 => ?_) (fun h1316 => by omega)
    refine Go_goto (tgt := 2106) dL_law_1331 (by decide) ?_
    exact Go_more (by omega) (by omega) (Go_forget (by repeat' (first | exact Or.inl rfl | exact Or.inr rfl | exact Or.inr (lcg (by omega)) | exact trivial | constructor)) (kn w2 _ _ _ _ (c2.frm mx.2.2 (by decide +kernel)) mx.1))
  refine Go_ald1 dL_law_1266 ?_
  refine Go_ald0 dL_law_1267 ?_
  refine Go_ild5 dL_law_1268 ?_
  refine Go_iconst dL_law_1270 ?_
  refine Go_iadd dL_law_1271 ?_
  refine Go_xld (j := i + 1) dL_law_1272 (by omega) (by omega) hL ?_
  refine Go_ald0 dL_law_1273 ?_
  refine Go_ild5 dL_law_1274 ?_
  refine Go_iconst dL_law_1276 ?_
  refine Go_iadd dL_law_1277 ?_
  refine Go_xld (j := i + 2) dL_law_1278 (by omega) (by omega) hL ?_
  refine Go_ald3 dL_law_1279 ?_
  refine Go_cSW (d' := 8) (bc' := 2) (bs' := 12) (as := [vr 1, vi (sx G (i + 1)), vi (sx G (i + 2)), vr 84]) rfl dL_law_1280 msL_path rfl lkL_180 rfl rfl (Nat.le_of_ble_eq_true rfl) (by decide) (by omega) (by omega) ?_
  refine e_L_path h (sx_in G _) (sx_in G _) q_k q_x1 q_x3
theorem l_law_trapped (hi : i + 4 ≤ GL G) (hL : GL G < 2147483648) (h : CI w s sv g tx) (hm : MInv w s sv g tx) (kn : ∀ v s sv g tx, CI v s sv g tx → MInv v s sv g tx → Go G cL_law (mL_law tb) none 18 bn sn 2106 [some (vr 1000), some (vr 1), some (vr 68), some (vr 84), some (vr 85), some (vi (i : Int)), none, none, none, none] [] v K X) : Go G cL_law (mL_law tb) none 18 (bn + 8) (sn + 48) 1334 [some (vr 1000), some (vr 1), some (vr 68), some (vr 84), some (vr 85), some (vi (i : Int)), none, none, none, none] [] w K X := by
  refine Go_ald1 dL_law_1334 ?_
  refine Go_cV0 (d' := 3) (bc' := 0) (bs' := 0) rfl dL_law_1335 mvX11_trapped rfl lkL_183 (by first | assumption | rfl) rfl trivial (by decide) (by omega) (by omega) (Nat.le_of_ble_eq_true rfl) ?_
  refine e_X11_trapped h ?_
  have c1 := h
  have hm1 := hm
  refine Go_ald2 dL_law_1338 ?_
  refine Go_cV0 (d' := 3) (bc' := 0) (bs' := 0) rfl dL_law_1339 mvX12_trapped rfl lkL_186 (by first | assumption | rfl) rfl trivial (by decide) (by omega) (by omega) (Nat.le_of_ble_eq_true rfl) ?_
  refine e_X12_trapped hm1 (fun w2 mx => ?_)
  exact Go_icmp_same (tgt := 2106) dL_law_1342 (by decide) (Go_more (by omega) (by omega) (kn w2 _ _ _ _ (c1.frm mx.2.2 (by decide +kernel)) mx.1))
theorem l_law_touching (hi : i + 4 ≤ GL G) (hL : GL G < 2147483648) (h : CI w s sv g tx) (hm : MInv w s sv g tx) (kn : ∀ v s sv g tx, CI v s sv g tx → MInv v s sv g tx → Go G cL_law (mL_law tb) none 18 bn sn 2106 [some (vr 1000), some (vr 1), some (vr 68), some (vr 84), some (vr 85), some (vi (i : Int)), none, none, none, none] [] v K X) : Go G cL_law (mL_law tb) none 18 (bn + 8) (sn + 48) 1347 [some (vr 1000), some (vr 1), some (vr 68), some (vr 84), some (vr 85), some (vi (i : Int)), none, none, none, none] [] w K X := by
  have q_k : ∀ p o : Nat, (sx G (i + 1)) = p → p < s.1.length → (sx G (i + 2)) = o → o < s.1.length → p ≠ o → Go G cL_law (mL_law tb) none 18 (bn + 8 - 3) (sn + 48 - 18) 1364 [some (vr 1000), some (vr 1), some (vr 68), some (vr 84), some (vr 85), some (vi (i : Int)), none, none, none, none] [vi 0] (up w 84 0 (nz (toC s.1 p o))) K X := fun p o a1 a2 a3 a4 a5 => by
    have c1 := h
    have hm1 : MInv (up w 84 0 (nz (toC s.1 p o))) s sv g tx := (hm).out (A := [84]) (frm.rfl.up (by simp)) (by decide)
    have c2 : CI (up w 84 0 (nz (toC s.1 p o))) _ _ _ _ := c1.frm (A := [84]) (frm.rfl.up (by simp)) (by decide)
    refine Go_ist6 dL_law_1364 rfl ?_
    refine Go_ald2 dL_law_1366 ?_
    refine Go_ald0 dL_law_1367 ?_
    refine Go_ild5 dL_law_1368 ?_
    refine Go_iconst dL_law_1370 ?_
    refine Go_iadd dL_law_1371 ?_
    refine Go_xld (j := i + 1) dL_law_1372 (by omega) (by omega) hL ?_
    refine Go_ald0 dL_law_1373 ?_
    refine Go_ild5 dL_law_1374 ?_
    refine Go_iconst dL_law_1376 ?_
    refine Go_iadd dL_law_1377 ?_
    refine Go_xld (j := i + 2) dL_law_1378 (by omega) (by omega) hL ?_
    refine Go_cV2 (d' := 3) (bc' := 0) (bs' := 0) rfl dL_law_1379 mvX12_touching rfl lkL_189 (by first | assumption | rfl) rfl trivial (by decide) (by omega) (by omega) (Nat.le_of_ble_eq_true rfl) ?_
    refine e_X12_touching hm1 (sx_in G _) (sx_in G _) (fun w2 p_2 o_2 b1 b2 b3 b4 b5 mx => ?_) (fun w2 b1 mx => by (exfalso; first | omega | (first | omega | exact b1 ⟨a1, a2⟩ | exact b1 ⟨a2, a3⟩ | exact b1 ⟨a3, a4⟩ | exact b1 ⟨a4, a5⟩))) (fun w2 b1 b2 b3 mx => by (exfalso; first | omega | (first | omega)))
    have e_p_2 : p_2 = p := (by omega)
    subst e_p_2
    have e_o_2 : o_2 = o := (by omega)
    subst e_o_2
    refine Go_ist7 dL_law_1382 rfl ?_
    refine Go_ald2 dL_law_1384 ?_
    refine Go_cV0 (d' := 0) (bc' := 0) (bs' := 0) rfl dL_law_1385 mvX12_thrown rfl lkL_118 (by first | assumption | rfl) rfl trivial (by decide) (by omega) (by omega) (Nat.le_of_ble_eq_true rfl) ?_
    refine e_X12_thrown ?_
    rw [mx.2.1]
    refine Go_ild6 dL_law_1388 ?_
    refine Go_icmp_eq (tgt := 1395) dL_law_1390 (by decide) (by constructor <;> omega) (by constructor <;> omega) (fun h1390 => ?_) (fun h1390 => by omega)
    refine Go_ild6 dL_law_1395 ?_
    refine Go_if_ne (tgt := 1412) dL_law_1397 (by decide) (by constructor <;> omega) (fun h1397 => by omega) (fun h1397 => ?_)
    refine Go_ald3 dL_law_1400 ?_
    refine Go_iconst dL_law_1401 ?_
    refine Go_lald dL_law_1402 (by first | assumption | rfl) trivial (by omega) (by omega) (by decide) ?_
    rw [show (0 : Int).toNat = 0 from rfl, mx.2.2.at (by decide), up_s]
    refine Go_ild7 dL_law_1403 ?_
    refine Go_i2lN dL_law_1405 ?_
    refine Go_lcmp_same dL_law_1406 ?_
    refine Go_if_eq (tgt := 1412) dL_law_1407 (by decide) (by constructor <;> omega) (fun h1407 => ?_) (fun h1407 => by omega)
    refine Go_goto (tgt := 2106) dL_law_1412 (by decide) ?_
    exact Go_more (by omega) (by omega) (Go_forget (by repeat' (first | exact Or.inl rfl | exact Or.inr rfl | exact Or.inr (lcg (by omega)) | exact trivial | constructor)) (kn w2 _ _ _ _ (c2.frm mx.2.2 (by decide +kernel)) mx.1))
  have q_x1 : ¬ (0 ≤ (sx G (i + 1)) ∧ (sx G (i + 1)) < s.1.length ∧ 0 ≤ (sx G (i + 2)) ∧ (sx G (i + 2)) < s.1.length) → Go G cL_law (mL_law tb) none 18 (bn + 8 - 3) (sn + 48 - 18) 1364 [some (vr 1000), some (vr 1), some (vr 68), some (vr 84), some (vr 85), some (vi (i : Int)), none, none, none, none] [vi 1] (w) K X := fun a1 => by
    have c1 := h
    have hm1 := hm
    have c2 := c1
    refine Go_ist6 dL_law_1364 rfl ?_
    refine Go_ald2 dL_law_1366 ?_
    refine Go_ald0 dL_law_1367 ?_
    refine Go_ild5 dL_law_1368 ?_
    refine Go_iconst dL_law_1370 ?_
    refine Go_iadd dL_law_1371 ?_
    refine Go_xld (j := i + 1) dL_law_1372 (by omega) (by omega) hL ?_
    refine Go_ald0 dL_law_1373 ?_
    refine Go_ild5 dL_law_1374 ?_
    refine Go_iconst dL_law_1376 ?_
    refine Go_iadd dL_law_1377 ?_
    refine Go_xld (j := i + 2) dL_law_1378 (by omega) (by omega) hL ?_
    refine Go_cV2 (d' := 3) (bc' := 0) (bs' := 0) rfl dL_law_1379 mvX12_touching rfl lkL_189 (by first | assumption | rfl) rfl trivial (by decide) (by omega) (by omega) (Nat.le_of_ble_eq_true rfl) ?_
    refine e_X12_touching hm1 (sx_in G _) (sx_in G _) (fun w2 p_2 o_2 b1 b2 b3 b4 b5 mx => by (exfalso; first | omega | (first | omega | exact a1 ⟨b1, b2⟩ | exact a1 ⟨b2, b3⟩ | exact a1 ⟨b3, b4⟩ | exact a1 ⟨b4, b5⟩ | exact a1 ⟨b1, b2, b3, b4⟩ | exact a1 ⟨b2, b3, b4, b5⟩))) (fun w2 b1 mx => ?_) (fun w2 b1 b2 b3 mx => by (exfalso; first | omega | (first | omega | exact a1 ⟨b1, b2⟩ | exact a1 ⟨b2, b3⟩)))
    refine Go_ist7 dL_law_1382 rfl ?_
    refine Go_ald2 dL_law_1384 ?_
    refine Go_cV0 (d' := 0) (bc' := 0) (bs' := 0) rfl dL_law_1385 mvX12_thrown rfl lkL_118 (by first | assumption | rfl) rfl trivial (by decide) (by omega) (by omega) (Nat.le_of_ble_eq_true rfl) ?_
    refine e_X12_thrown ?_
    rw [mx.2.1]
    refine Go_ild6 dL_law_1388 ?_
    refine Go_icmp_eq (tgt := 1395) dL_law_1390 (by decide) (by constructor <;> omega) (by constructor <;> omega) (fun h1390 => ?_) (fun h1390 => by omega)
    refine Go_ild6 dL_law_1395 ?_
    refine Go_if_ne (tgt := 1412) dL_law_1397 (by decide) (by constructor <;> omega) (fun h1397 => ?_) (fun h1397 => by omega)
    refine Go_goto (tgt := 2106) dL_law_1412 (by decide) ?_
    exact Go_more (by omega) (by omega) (Go_forget (by repeat' (first | exact Or.inl rfl | exact Or.inr rfl | exact Or.inr (lcg (by omega)) | exact trivial | constructor)) (kn w2 _ _ _ _ (c2.frm mx.2.2 (by decide +kernel)) mx.1))
  have q_x3 : 0 ≤ (sx G (i + 1)) → (sx G (i + 1)) < s.1.length → (sx G (i + 1)) = (sx G (i + 2)) → Go G cL_law (mL_law tb) none 18 (bn + 8 - 3) (sn + 48 - 18) 1364 [some (vr 1000), some (vr 1), some (vr 68), some (vr 84), some (vr 85), some (vi (i : Int)), none, none, none, none] [vi 2] (w) K X := fun a1 a2 a3 => by
    have c1 := h
    have hm1 := hm
    have c2 := c1
    refine Go_ist6 dL_law_1364 rfl ?_
    refine Go_ald2 dL_law_1366 ?_
    refine Go_ald0 dL_law_1367 ?_
    refine Go_ild5 dL_law_1368 ?_
    refine Go_iconst dL_law_1370 ?_
    refine Go_iadd dL_law_1371 ?_
    refine Go_xld (j := i + 1) dL_law_1372 (by omega) (by omega) hL ?_
    refine Go_ald0 dL_law_1373 ?_
    refine Go_ild5 dL_law_1374 ?_
    refine Go_iconst dL_law_1376 ?_
    refine Go_iadd dL_law_1377 ?_
    refine Go_xld (j := i + 2) dL_law_1378 (by omega) (by omega) hL ?_
    refine Go_cV2 (d' := 3) (bc' := 0) (bs' := 0) rfl dL_law_1379 mvX12_touching rfl lkL_189 (by first | assumption | rfl) rfl trivial (by decide) (by omega) (by omega) (Nat.le_of_ble_eq_true rfl) ?_
    refine e_X12_touching hm1 (sx_in G _) (sx_in G _) (fun w2 p_2 o_2 b1 b2 b3 b4 b5 mx => by (exfalso; first | omega | (first | omega))) (fun w2 b1 mx => by (exfalso; first | omega | (first | omega | exact b1 ⟨a1, a2⟩ | exact b1 ⟨a2, a3⟩))) (fun w2 b1 b2 b3 mx => ?_)
    refine Go_ist7 dL_law_1382 rfl ?_
    refine Go_ald2 dL_law_1384 ?_
    refine Go_cV0 (d' := 0) (bc' := 0) (bs' := 0) rfl dL_law_1385 mvX12_thrown rfl lkL_118 (by first | assumption | rfl) rfl trivial (by decide) (by omega) (by omega) (Nat.le_of_ble_eq_true rfl) ?_
    refine e_X12_thrown ?_
    rw [mx.2.1]
    refine Go_ild6 dL_law_1388 ?_
    refine Go_icmp_eq (tgt := 1395) dL_law_1390 (by decide) (by constructor <;> omega) (by constructor <;> omega) (fun h1390 => ?_) (fun h1390 => by omega)
    refine Go_ild6 dL_law_1395 ?_
    refine Go_if_ne (tgt := 1412) dL_law_1397 (by decide) (by constructor <;> omega) (fun h1397 => ?_) (fun h1397 => by omega)
    refine Go_goto (tgt := 2106) dL_law_1412 (by decide) ?_
    exact Go_more (by omega) (by omega) (Go_forget (by repeat' (first | exact Or.inl rfl | exact Or.inr rfl | exact Or.inr (lcg (by omega)) | exact trivial | constructor)) (kn w2 _ _ _ _ (c2.frm mx.2.2 (by decide +kernel)) mx.1))
  refine Go_ald1 dL_law_1347 ?_
  refine Go_ald0 dL_law_1348 ?_
  refine Go_ild5 dL_law_1349 ?_
  refine Go_iconst dL_law_1351 ?_
  refine Go_iadd dL_law_1352 ?_
  refine Go_xld (j := i + 1) dL_law_1353 (by omega) (by omega) hL ?_
  refine Go_ald0 dL_law_1354 ?_
  refine Go_ild5 dL_law_1355 ?_
  refine Go_iconst dL_law_1357 ?_
  refine Go_iadd dL_law_1358 ?_
  refine Go_xld (j := i + 2) dL_law_1359 (by omega) (by omega) hL ?_
  refine Go_ald3 dL_law_1360 ?_
  refine Go_cSW (d' := 9) (bc' := 3) (bs' := 18) (as := [vr 1, vi (sx G (i + 1)), vi (sx G (i + 2)), vr 84]) rfl dL_law_1361 msL_touching rfl lkL_187 rfl rfl (Nat.le_of_ble_eq_true rfl) (by decide) (by omega) (by omega) ?_
  refine e_L_touching h (sx_in G _) (sx_in G _) q_k q_x1 q_x3
theorem l_law_shape (hi : i + 4 ≤ GL G) (hL : GL G < 2147483648) (h : CI w s sv g tx) (hm : MInv w s sv g tx) (kn : ∀ v s sv g tx, CI v s sv g tx → MInv v s sv g tx → Go G cL_law (mL_law tb) none 18 bn sn 2106 [some (vr 1000), some (vr 1), some (vr 68), some (vr 84), some (vr 85), some (vi (i : Int)), none, none, none, none] [] v K X) : Go G cL_law (mL_law tb) none 18 (bn + 8) (sn + 48) 1415 [some (vr 1000), some (vr 1), some (vr 68), some (vr 84), some (vr 85), some (vi (i : Int)), none, none, none, none] [] w K X := by
  have q_k : ∀ w' (p : Nat) f, (sx G (i + 1)) = p → p < s.1.length → 0 ≤ (sx G (i + 2)) → isLeast (pth s.1 p) f → CI w' s sv g tx → frm w w' ccs → Go G cL_law (mL_law tb) none 18 (bn + 8 - 2) (sn + 48 - 12) 1432 [some (vr 1000), some (vr 1), some (vr 68), some (vr 84), some (vr 85), some (vi (i : Int)), none, none, none, none] [vi 0] (up w' 84 0 (nz (if (sx G (i + 2)) < ((pth s.1 p).length - 1 : Nat) then f (sx G (i + 2)).toNat else -1))) K X := fun w1 p f1 a1 a2 a3 a4 c1 fr1 => by
    have hm1 : MInv (up w1 84 0 (nz (if (sx G (i + 2)) < ((pth s.1 p).length - 1 : Nat) then f1 (sx G (i + 2)).toNat else -1))) s sv g tx := (hm.out fr1 (by decide +kernel)).out (A := [84]) (frm.rfl.up (by simp)) (by decide)
    have c2 : CI (up w1 84 0 (nz (if (sx G (i + 2)) < ((pth s.1 p).length - 1 : Nat) then f1 (sx G (i + 2)).toNat else -1))) _ _ _ _ := c1.frm (A := [84]) (frm.rfl.up (by simp)) (by decide)
    refine Go_ist6 dL_law_1432 rfl ?_
    refine Go_ald2 dL_law_1434 ?_
    refine Go_ald0 dL_law_1435 ?_
    refine Go_ild5 dL_law_1436 ?_
    refine Go_iconst dL_law_1438 ?_
    refine Go_iadd dL_law_1439 ?_
    refine Go_xld (j := i + 1) dL_law_1440 (by omega) (by omega) hL ?_
    refine Go_ald0 dL_law_1441 ?_
    refine Go_ild5 dL_law_1442 ?_
    refine Go_iconst dL_law_1444 ?_
    refine Go_iadd dL_law_1445 ?_
    refine Go_xld (j := i + 2) dL_law_1446 (by omega) (by omega) hL ?_
    refine Go_cV2 (d' := 6) (bc' := 0) (bs' := 0) rfl dL_law_1447 mvX12_shape rfl lkL_192 (by first | assumption | rfl) rfl trivial (by decide) (by omega) (by omega) (Nat.le_of_ble_eq_true rfl) ?_
    refine e_X12_shape hm1 (sx_in G _) (sx_in G _) (fun w2 p_2 f_2 b1 b2 b3 b4 mx => ?_) (fun w2 b1 mx => by (exfalso; first | omega | (first | omega | exact b1 ⟨a1, a2⟩ | exact b1 ⟨a2, a3⟩ | exact b1 ⟨a3, a4⟩))) (fun w2 b1 b2 b3 mx => by (exfalso; first | omega | (first | omega)))
    have e_p_2 : p_2 = p := (by omega)
    subst e_p_2
    have ef := isLeast_eq a4 b4
    refine Go_ist7 dL_law_1450 rfl ?_
    refine Go_ald2 dL_law_1452 ?_
    refine Go_cV0 (d' := 0) (bc' := 0) (bs' := 0) rfl dL_law_1453 mvX12_thrown rfl lkL_118 (by first | assumption | rfl) rfl trivial (by decide) (by omega) (by omega) (Nat.le_of_ble_eq_true rfl) ?_
    refine e_X12_thrown ?_
    rw [mx.2.1]
    refine Go_ild6 dL_law_1456 ?_
    refine Go_icmp_eq (tgt := 1463) dL_law_1458 (by decide) (by constructor <;> omega) (by constructor <;> omega) (fun h1458 => ?_) (fun h1458 => by omega)
    refine Go_ild6 dL_law_1463 ?_
    refine Go_if_ne (tgt := 1480) dL_law_1465 (by decide) (by constructor <;> omega) (fun h1465 => by omega) (fun h1465 => ?_)
    refine Go_ald3 dL_law_1468 ?_
    refine Go_iconst dL_law_1469 ?_
    refine Go_lald dL_law_1470 (by first | assumption | rfl) trivial (by omega) (by omega) (by decide) ?_
    rw [show (0 : Int).toNat = 0 from rfl, mx.2.2.at (by decide), up_s]
    refine Go_ild7 dL_law_1471 ?_
    rw [show (if sx G (i + 2) < ((pth s.1 p_2).length - 1 : Nat) then f_2 (sx G (i + 2)).toNat else -1) = (if sx G (i + 2) < ((pth s.1 p_2).length - 1 : Nat) then f1 (sx G (i + 2)).toNat else -1) by (split; exact (ef _ (by omega)).symm; rfl)]
    refine Go_i2lN dL_law_1473 ?_
    refine Go_lcmp_same dL_law_1474 ?_
    refine Go_if_eq (tgt := 1480) dL_law_1475 (by decide) (by constructor <;> omega) (fun h1475 => ?_) (fun h1475 => by omega)
    refine Go_goto (tgt := 2106) dL_law_1480 (by decide) ?_
    exact Go_more (by omega) (by omega) (Go_forget (by repeat' (first | exact Or.inl rfl | exact Or.inr rfl | exact Or.inr (lcg (by omega)) | exact trivial | constructor)) (kn w2 _ _ _ _ (c2.frm mx.2.2 (by decide +kernel)) mx.1))
  have q_x1 : ¬ (0 ≤ (sx G (i + 1)) ∧ (sx G (i + 1)) < s.1.length) → Go G cL_law (mL_law tb) none 18 (bn + 8 - 2) (sn + 48 - 12) 1432 [some (vr 1000), some (vr 1), some (vr 68), some (vr 84), some (vr 85), some (vi (i : Int)), none, none, none, none] [vi 1] (w) K X := fun a1 => by
    have c1 := h
    have hm1 := hm
    have c2 := c1
    refine Go_ist6 dL_law_1432 rfl ?_
    refine Go_ald2 dL_law_1434 ?_
    refine Go_ald0 dL_law_1435 ?_
    refine Go_ild5 dL_law_1436 ?_
    refine Go_iconst dL_law_1438 ?_
    refine Go_iadd dL_law_1439 ?_
    refine Go_xld (j := i + 1) dL_law_1440 (by omega) (by omega) hL ?_
    refine Go_ald0 dL_law_1441 ?_
    refine Go_ild5 dL_law_1442 ?_
    refine Go_iconst dL_law_1444 ?_
    refine Go_iadd dL_law_1445 ?_
    refine Go_xld (j := i + 2) dL_law_1446 (by omega) (by omega) hL ?_
    refine Go_cV2 (d' := 6) (bc' := 0) (bs' := 0) rfl dL_law_1447 mvX12_shape rfl lkL_192 (by first | assumption | rfl) rfl trivial (by decide) (by omega) (by omega) (Nat.le_of_ble_eq_true rfl) ?_
    refine e_X12_shape hm1 (sx_in G _) (sx_in G _) (fun w2 p_2 f_2 b1 b2 b3 b4 mx => by (exfalso; first | omega | (first | omega | exact a1 ⟨b1, b2⟩ | exact a1 ⟨b2, b3⟩ | exact a1 ⟨b3, b4⟩ | exact a1 ⟨b1, b2, b3, b4⟩))) (fun w2 b1 mx => ?_) (fun w2 b1 b2 b3 mx => by (exfalso; first | omega | (first | omega | exact a1 ⟨b1, b2⟩ | exact a1 ⟨b2, b3⟩)))
    refine Go_ist7 dL_law_1450 rfl ?_
    refine Go_ald2 dL_law_1452 ?_
    refine Go_cV0 (d' := 0) (bc' := 0) (bs' := 0) rfl dL_law_1453 mvX12_thrown rfl lkL_118 (by first | assumption | rfl) rfl trivial (by decide) (by omega) (by omega) (Nat.le_of_ble_eq_true rfl) ?_
    refine e_X12_thrown ?_
    rw [mx.2.1]
    refine Go_ild6 dL_law_1456 ?_
    refine Go_icmp_eq (tgt := 1463) dL_law_1458 (by decide) (by constructor <;> omega) (by constructor <;> omega) (fun h1458 => ?_) (fun h1458 => by omega)
    refine Go_ild6 dL_law_1463 ?_
    refine Go_if_ne (tgt := 1480) dL_law_1465 (by decide) (by constructor <;> omega) (fun h1465 => ?_) (fun h1465 => by omega)
    refine Go_goto (tgt := 2106) dL_law_1480 (by decide) ?_
    exact Go_more (by omega) (by omega) (Go_forget (by repeat' (first | exact Or.inl rfl | exact Or.inr rfl | exact Or.inr (lcg (by omega)) | exact trivial | constructor)) (kn w2 _ _ _ _ (c2.frm mx.2.2 (by decide +kernel)) mx.1))
  have q_x3 : 0 ≤ (sx G (i + 1)) → (sx G (i + 1)) < s.1.length → (sx G (i + 2)) < 0 → Go G cL_law (mL_law tb) none 18 (bn + 8 - 2) (sn + 48 - 12) 1432 [some (vr 1000), some (vr 1), some (vr 68), some (vr 84), some (vr 85), some (vi (i : Int)), none, none, none, none] [vi 2] (w) K X := fun a1 a2 a3 => by
    have c1 := h
    have hm1 := hm
    have c2 := c1
    refine Go_ist6 dL_law_1432 rfl ?_
    refine Go_ald2 dL_law_1434 ?_
    refine Go_ald0 dL_law_1435 ?_
    refine Go_ild5 dL_law_1436 ?_
    refine Go_iconst dL_law_1438 ?_
    refine Go_iadd dL_law_1439 ?_
    refine Go_xld (j := i + 1) dL_law_1440 (by omega) (by omega) hL ?_
    refine Go_ald0 dL_law_1441 ?_
    refine Go_ild5 dL_law_1442 ?_
    refine Go_iconst dL_law_1444 ?_
    refine Go_iadd dL_law_1445 ?_
    refine Go_xld (j := i + 2) dL_law_1446 (by omega) (by omega) hL ?_
    refine Go_cV2 (d' := 6) (bc' := 0) (bs' := 0) rfl dL_law_1447 mvX12_shape rfl lkL_192 (by first | assumption | rfl) rfl trivial (by decide) (by omega) (by omega) (Nat.le_of_ble_eq_true rfl) ?_
    refine e_X12_shape hm1 (sx_in G _) (sx_in G _) (fun w2 p_2 f_2 b1 b2 b3 b4 mx => by (exfalso; first | omega | (first | omega))) (fun w2 b1 mx => by (exfalso; first | omega | (first | omega | exact b1 ⟨a1, a2⟩ | exact b1 ⟨a2, a3⟩))) (fun w2 b1 b2 b3 mx => ?_)
    refine Go_ist7 dL_law_1450 rfl ?_
    refine Go_ald2 dL_law_1452 ?_
    refine Go_cV0 (d' := 0) (bc' := 0) (bs' := 0) rfl dL_law_1453 mvX12_thrown rfl lkL_118 (by first | assumption | rfl) rfl trivial (by decide) (by omega) (by omega) (Nat.le_of_ble_eq_true rfl) ?_
    refine e_X12_thrown ?_
    rw [mx.2.1]
    refine Go_ild6 dL_law_1456 ?_
    refine Go_icmp_eq (tgt := 1463) dL_law_1458 (by decide) (by constructor <;> omega) (by constructor <;> omega) (fun h1458 => ?_) (fun h1458 => by omega)
    refine Go_ild6 dL_law_1463 ?_
    refine Go_if_ne (tgt := 1480) dL_law_1465 (by decide) (by constructor <;> omega) (fun h1465 => ?_) (fun h1465 => by omega)
    refine Go_goto (tgt := 2106) dL_law_1480 (by decide) ?_
    exact Go_more (by omega) (by omega) (Go_forget (by repeat' (first | exact Or.inl rfl | exact Or.inr rfl | exact Or.inr (lcg (by omega)) | exact trivial | constructor)) (kn w2 _ _ _ _ (c2.frm mx.2.2 (by decide +kernel)) mx.1))
  refine Go_ald1 dL_law_1415 ?_
  refine Go_ald0 dL_law_1416 ?_
  refine Go_ild5 dL_law_1417 ?_
  refine Go_iconst dL_law_1419 ?_
  refine Go_iadd dL_law_1420 ?_
  refine Go_xld (j := i + 1) dL_law_1421 (by omega) (by omega) hL ?_
  refine Go_ald0 dL_law_1422 ?_
  refine Go_ild5 dL_law_1423 ?_
  refine Go_iconst dL_law_1425 ?_
  refine Go_iadd dL_law_1426 ?_
  refine Go_xld (j := i + 2) dL_law_1427 (by omega) (by omega) hL ?_
  refine Go_ald3 dL_law_1428 ?_
  refine Go_cSW (d' := 8) (bc' := 2) (bs' := 12) (as := [vr 1, vi (sx G (i + 1)), vi (sx G (i + 2)), vr 84]) rfl dL_law_1429 msL_shape rfl lkL_190 rfl rfl (Nat.le_of_ble_eq_true rfl) (by decide) (by omega) (by omega) ?_
  refine e_L_shape h (sx_in G _) (sx_in G _) q_k q_x1 q_x3
theorem l_law_isAlike (hi : i + 4 ≤ GL G) (hL : GL G < 2147483648) (h : CI w s sv g tx) (hm : MInv w s sv g tx) (kn : ∀ v s sv g tx, CI v s sv g tx → MInv v s sv g tx → Go G cL_law (mL_law tb) none 18 bn sn 2106 [some (vr 1000), some (vr 1), some (vr 68), some (vr 84), some (vr 85), some (vi (i : Int)), none, none, none, none] [] v K X) : Go G cL_law (mL_law tb) none 18 (bn + 8) (sn + 48) 1483 [some (vr 1000), some (vr 1), some (vr 68), some (vr 84), some (vr 85), some (vi (i : Int)), none, none, none, none] [] w K X := by
  have q_kt : ∀ w' (p o : Nat) f f', (sx G (i + 1)) = p → p < s.1.length → (sx G (i + 2)) = o → o < s.1.length → isLeast (pth s.1 p) f → isLeast (pth s.1 o) f' → (pth s.1 p).length - 1 = (pth s.1 o).length - 1 ∧ (∀ j, j < (pth s.1 p).length - 1 → f j = f' j) → CI w' s sv g tx → frm w w' ccs → Go G cL_law (mL_law tb) none 18 (bn + 8 - 2) (sn + 48 - 12) 1500 [some (vr 1000), some (vr 1), some (vr 68), some (vr 84), some (vr 85), some (vi (i : Int)), none, none, none, none] [vi 0] (up w' 84 0 1) K X := fun w1 p o f1 f2 a1 a2 a3 a4 a5 a6 a7 c1 fr1 => by
    have hm1 : MInv (up w1 84 0 1) s sv g tx := (hm.out fr1 (by decide +kernel)).out (A := [84]) (frm.rfl.up (by simp)) (by decide)
    have c2 : CI (up w1 84 0 1) _ _ _ _ := c1.frm (A := [84]) (frm.rfl.up (by simp)) (by decide)
    refine Go_ist6 dL_law_1500 rfl ?_
    refine Go_ald2 dL_law_1502 ?_
    refine Go_ald0 dL_law_1503 ?_
    refine Go_ild5 dL_law_1504 ?_
    refine Go_iconst dL_law_1506 ?_
    refine Go_iadd dL_law_1507 ?_
    refine Go_xld (j := i + 1) dL_law_1508 (by omega) (by omega) hL ?_
    refine Go_ald0 dL_law_1509 ?_
    refine Go_ild5 dL_law_1510 ?_
    refine Go_iconst dL_law_1512 ?_
    refine Go_iadd dL_law_1513 ?_
    refine Go_xld (j := i + 2) dL_law_1514 (by omega) (by omega) hL ?_
    refine Go_cV2 (d' := 7) (bc' := 0) (bs' := 0) rfl dL_law_1515 mvX12_isAlike rfl lkL_195 (by first | assumption | rfl) rfl trivial (by decide) (by omega) (by omega) (Nat.le_of_ble_eq_true rfl) ?_
    refine e_X12_isAlike hm1 (sx_in G _) (sx_in G _) (fun w2 p_2 o_2 f_2 f_2p b1 b2 b3 b4 b5 b6 b7 mx => ?_) (fun w2 p_2 o_2 f_2 f_2p b1 b2 b3 b4 b5 b6 b7 mx => by (exfalso; first | omega | (have e_p_2 : p_2 = p := (by omega); subst e_p_2; have e_o_2 : o_2 = o := (by omega); subst e_o_2; first | exact b7 ⟨a7.1, fun jj hjj => by rw [← isLeast_eq a5 b5 jj hjj, ← isLeast_eq a6 b6 jj (by omega)]; exact a7.2 jj hjj⟩))) (fun w2 b1 mx => by (exfalso; first | omega | (first | omega | exact b1 ⟨a1, a2⟩ | exact b1 ⟨a2, a3⟩ | exact b1 ⟨a3, a4⟩ | exact b1 ⟨a4, a5⟩ | exact b1 ⟨a5, a6⟩ | exact b1 ⟨a6, a7⟩)))
    have e_p_2 : p_2 = p := (by omega)
    subst e_p_2
    have e_o_2 : o_2 = o := (by omega)
    subst e_o_2
    refine Go_ist7 dL_law_1518 rfl ?_
    refine Go_ald2 dL_law_1520 ?_
    refine Go_cV0 (d' := 0) (bc' := 0) (bs' := 0) rfl dL_law_1521 mvX12_thrown rfl lkL_118 (by first | assumption | rfl) rfl trivial (by decide) (by omega) (by omega) (Nat.le_of_ble_eq_true rfl) ?_
    refine e_X12_thrown ?_
    rw [mx.2.1]
    refine Go_ild6 dL_law_1524 ?_
    refine Go_icmp_eq (tgt := 1531) dL_law_1526 (by decide) (by constructor <;> omega) (by constructor <;> omega) (fun h1526 => ?_) (fun h1526 => by omega)
    refine Go_ild6 dL_law_1531 ?_
    refine Go_if_ne (tgt := 1555) dL_law_1533 (by decide) (by constructor <;> omega) (fun h1533 => by omega) (fun h1533 => ?_)
    refine Go_ald3 dL_law_1536 ?_
    refine Go_iconst dL_law_1537 ?_
    refine Go_lald dL_law_1538 (by first | assumption | rfl) trivial (by omega) (by omega) (by decide) ?_
    rw [show (0 : Int).toNat = 0 from rfl, mx.2.2.at (by decide), up_s]
    refine Go_ild7 dL_law_1539 ?_
    refine Go_if_eq (tgt := 1548) dL_law_1541 (by decide) (by constructor <;> omega) (fun h1541 => by omega) (fun h1541 => ?_)
    refine Go_lconst dL_law_1544 rfl ?_
    refine Go_goto (tgt := 1549) dL_law_1545 (by decide) ?_
    refine Go_lcmp_same dL_law_1549 ?_
    refine Go_if_eq (tgt := 1555) dL_law_1550 (by decide) (by constructor <;> omega) (fun h1550 => ?_) (fun h1550 => by omega)
    refine Go_goto (tgt := 2106) dL_law_1555 (by decide) ?_
    exact Go_more (by omega) (by omega) (Go_forget (by repeat' (first | exact Or.inl rfl | exact Or.inr rfl | exact Or.inr (lcg (by omega)) | exact trivial | constructor)) (kn w2 _ _ _ _ (c2.frm mx.2.2 (by decide +kernel)) mx.1))
  have q_kf : ∀ w' (p o : Nat) f f', (sx G (i + 1)) = p → p < s.1.length → (sx G (i + 2)) = o → o < s.1.length → isLeast (pth s.1 p) f → isLeast (pth s.1 o) f' → ¬ ((pth s.1 p).length - 1 = (pth s.1 o).length - 1 ∧ ∀ j, j < (pth s.1 p).length - 1 → f j = f' j) → CI w' s sv g tx → frm w w' ccs → Go G cL_law (mL_law tb) none 18 (bn + 8 - 2) (sn + 48 - 12) 1500 [some (vr 1000), some (vr 1), some (vr 68), some (vr 84), some (vr 85), some (vi (i : Int)), none, none, none, none] [vi 0] (up w' 84 0 0) K X := fun w1 p o f1 f2 a1 a2 a3 a4 a5 a6 a7 c1 fr1 => by
    have hm1 : MInv (up w1 84 0 0) s sv g tx := (hm.out fr1 (by decide +kernel)).out (A := [84]) (frm.rfl.up (by simp)) (by decide)
    have c2 : CI (up w1 84 0 0) _ _ _ _ := c1.frm (A := [84]) (frm.rfl.up (by simp)) (by decide)
    refine Go_ist6 dL_law_1500 rfl ?_
    refine Go_ald2 dL_law_1502 ?_
    refine Go_ald0 dL_law_1503 ?_
    refine Go_ild5 dL_law_1504 ?_
    refine Go_iconst dL_law_1506 ?_
    refine Go_iadd dL_law_1507 ?_
    refine Go_xld (j := i + 1) dL_law_1508 (by omega) (by omega) hL ?_
    refine Go_ald0 dL_law_1509 ?_
    refine Go_ild5 dL_law_1510 ?_
    refine Go_iconst dL_law_1512 ?_
    refine Go_iadd dL_law_1513 ?_
    refine Go_xld (j := i + 2) dL_law_1514 (by omega) (by omega) hL ?_
    refine Go_cV2 (d' := 7) (bc' := 0) (bs' := 0) rfl dL_law_1515 mvX12_isAlike rfl lkL_195 (by first | assumption | rfl) rfl trivial (by decide) (by omega) (by omega) (Nat.le_of_ble_eq_true rfl) ?_
    refine e_X12_isAlike hm1 (sx_in G _) (sx_in G _) (fun w2 p_2 o_2 f_2 f_2p b1 b2 b3 b4 b5 b6 b7 mx => by (exfalso; first | omega | (have e_p_2 : p_2 = p := (by omega); subst e_p_2; have e_o_2 : o_2 = o := (by omega); subst e_o_2; first | exact a7 ⟨b7.1, fun jj hjj => by rw [isLeast_eq a5 b5 jj hjj, isLeast_eq a6 b6 jj (by omega)]; exact b7.2 jj hjj⟩))) (fun w2 p_2 o_2 f_2 f_2p b1 b2 b3 b4 b5 b6 b7 mx => ?_) (fun w2 b1 mx => by (exfalso; first | omega | (first | omega | exact b1 ⟨a1, a2⟩ | exact b1 ⟨a2, a3⟩ | exact b1 ⟨a3, a4⟩ | exact b1 ⟨a4, a5⟩ | exact b1 ⟨a5, a6⟩ | exact b1 ⟨a6, a7⟩)))
    have e_p_2 : p_2 = p := (by omega)
    subst e_p_2
    have e_o_2 : o_2 = o := (by omega)
    subst e_o_2
    refine Go_ist7 dL_law_1518 rfl ?_
    refine Go_ald2 dL_law_1520 ?_
    refine Go_cV0 (d' := 0) (bc' := 0) (bs' := 0) rfl dL_law_1521 mvX12_thrown rfl lkL_118 (by first | assumption | rfl) rfl trivial (by decide) (by omega) (by omega) (Nat.le_of_ble_eq_true rfl) ?_
    refine e_X12_thrown ?_
    rw [mx.2.1]
    refine Go_ild6 dL_law_1524 ?_
    refine Go_icmp_eq (tgt := 1531) dL_law_1526 (by decide) (by constructor <;> omega) (by constructor <;> omega) (fun h1526 => ?_) (fun h1526 => by omega)
    refine Go_ild6 dL_law_1531 ?_
    refine Go_if_ne (tgt := 1555) dL_law_1533 (by decide) (by constructor <;> omega) (fun h1533 => by omega) (fun h1533 => ?_)
    refine Go_ald3 dL_law_1536 ?_
    refine Go_iconst dL_law_1537 ?_
    refine Go_lald dL_law_1538 (by first | assumption | rfl) trivial (by omega) (by omega) (by decide) ?_
    rw [show (0 : Int).toNat = 0 from rfl, mx.2.2.at (by decide), up_s]
    refine Go_ild7 dL_law_1539 ?_
    refine Go_if_eq (tgt := 1548) dL_law_1541 (by decide) (by constructor <;> omega) (fun h1541 => ?_) (fun h1541 => by omega)
    refine Go_lconst dL_law_1548 rfl ?_
    refine Go_lcmp_same dL_law_1549 ?_
    refine Go_if_eq (tgt := 1555) dL_law_1550 (by decide) (by constructor <;> omega) (fun h1550 => ?_) (fun h1550 => by omega)
    refine Go_goto (tgt := 2106) dL_law_1555 (by decide) ?_
    exact Go_more (by omega) (by omega) (Go_forget (by repeat' (first | exact Or.inl rfl | exact Or.inr rfl | exact Or.inr (lcg (by omega)) | exact trivial | constructor)) (kn w2 _ _ _ _ (c2.frm mx.2.2 (by decide +kernel)) mx.1))
  have q_x1 : ¬ (0 ≤ (sx G (i + 1)) ∧ (sx G (i + 1)) < s.1.length ∧ 0 ≤ (sx G (i + 2)) ∧ (sx G (i + 2)) < s.1.length) → Go G cL_law (mL_law tb) none 18 (bn + 8 - 2) (sn + 48 - 12) 1500 [some (vr 1000), some (vr 1), some (vr 68), some (vr 84), some (vr 85), some (vi (i : Int)), none, none, none, none] [vi 1] (w) K X := fun a1 => by
    have c1 := h
    have hm1 := hm
    have c2 := c1
    refine Go_ist6 dL_law_1500 rfl ?_
    refine Go_ald2 dL_law_1502 ?_
    refine Go_ald0 dL_law_1503 ?_
    refine Go_ild5 dL_law_1504 ?_
    refine Go_iconst dL_law_1506 ?_
    refine Go_iadd dL_law_1507 ?_
    refine Go_xld (j := i + 1) dL_law_1508 (by omega) (by omega) hL ?_
    refine Go_ald0 dL_law_1509 ?_
    refine Go_ild5 dL_law_1510 ?_
    refine Go_iconst dL_law_1512 ?_
    refine Go_iadd dL_law_1513 ?_
    refine Go_xld (j := i + 2) dL_law_1514 (by omega) (by omega) hL ?_
    refine Go_cV2 (d' := 7) (bc' := 0) (bs' := 0) rfl dL_law_1515 mvX12_isAlike rfl lkL_195 (by first | assumption | rfl) rfl trivial (by decide) (by omega) (by omega) (Nat.le_of_ble_eq_true rfl) ?_
    refine e_X12_isAlike hm1 (sx_in G _) (sx_in G _) (fun w2 p_2 o_2 f_2 f_2p b1 b2 b3 b4 b5 b6 b7 mx => by (exfalso; first | omega | (first | omega | exact a1 ⟨b1, b2⟩ | exact a1 ⟨b2, b3⟩ | exact a1 ⟨b3, b4⟩ | exact a1 ⟨b4, b5⟩ | exact a1 ⟨b5, b6⟩ | exact a1 ⟨b6, b7⟩ | exact a1 ⟨b1, b2, b3, b4⟩ | exact a1 ⟨b2, b3, b4, b5⟩ | exact a1 ⟨b3, b4, b5, b6⟩ | exact a1 ⟨b4, b5, b6, b7⟩))) (fun w2 p_2 o_2 f_2 f_2p b1 b2 b3 b4 b5 b6 b7 mx => by (exfalso; first | omega | (first | omega | exact a1 ⟨b1, b2⟩ | exact a1 ⟨b2, b3⟩ | exact a1 ⟨b3, b4⟩ | exact a1 ⟨b4, b5⟩ | exact a1 ⟨b5, b6⟩ | exact a1 ⟨b6, b7⟩ | exact a1 ⟨b1, b2, b3, b4⟩ | exact a1 ⟨b2, b3, b4, b5⟩ | exact a1 ⟨b3, b4, b5, b6⟩ | exact a1 ⟨b4, b5, b6, b7⟩))) (fun w2 b1 mx => ?_)
    refine Go_ist7 dL_law_1518 rfl ?_
    refine Go_ald2 dL_law_1520 ?_
    refine Go_cV0 (d' := 0) (bc' := 0) (bs' := 0) rfl dL_law_1521 mvX12_thrown rfl lkL_118 (by first | assumption | rfl) rfl trivial (by decide) (by omega) (by omega) (Nat.le_of_ble_eq_true rfl) ?_
    refine e_X12_thrown ?_
    rw [mx.2.1]
    refine Go_ild6 dL_law_1524 ?_
    refine Go_icmp_eq (tgt := 1531) dL_law_1526 (by decide) (by constructor <;> omega) (by constructor <;> omega) (fun h1526 => ?_) (fun h1526 => by omega)
    refine Go_ild6 dL_law_1531 ?_
    refine Go_if_ne (tgt := 1555) dL_law_1533 (by decide) (by constructor <;> omega) (fun h1533 => ?_) (fun h1533 => by omega)
    refine Go_goto (tgt := 2106) dL_law_1555 (by decide) ?_
    exact Go_more (by omega) (by omega) (Go_forget (by repeat' (first | exact Or.inl rfl | exact Or.inr rfl | exact Or.inr (lcg (by omega)) | exact trivial | constructor)) (kn w2 _ _ _ _ (c2.frm mx.2.2 (by decide +kernel)) mx.1))
  refine Go_ald1 dL_law_1483 ?_
  refine Go_ald0 dL_law_1484 ?_
  refine Go_ild5 dL_law_1485 ?_
  refine Go_iconst dL_law_1487 ?_
  refine Go_iadd dL_law_1488 ?_
  refine Go_xld (j := i + 1) dL_law_1489 (by omega) (by omega) hL ?_
  refine Go_ald0 dL_law_1490 ?_
  refine Go_ild5 dL_law_1491 ?_
  refine Go_iconst dL_law_1493 ?_
  refine Go_iadd dL_law_1494 ?_
  refine Go_xld (j := i + 2) dL_law_1495 (by omega) (by omega) hL ?_
  refine Go_ald3 dL_law_1496 ?_
  refine Go_cSW (d' := 8) (bc' := 2) (bs' := 12) (as := [vr 1, vi (sx G (i + 1)), vi (sx G (i + 2)), vr 84]) rfl dL_law_1497 msL_isAlike rfl lkL_193 rfl rfl (Nat.le_of_ble_eq_true rfl) (by decide) (by omega) (by omega) ?_
  refine e_L_isAlike h (sx_in G _) (sx_in G _) q_kt q_kf q_x1
theorem l_law_free (hi : i + 4 ≤ GL G) (hL : GL G < 2147483648) (h : CI w s sv g tx) (hm : MInv w s sv g tx) (kn : ∀ v s sv g tx, CI v s sv g tx → MInv v s sv g tx → Go G cL_law (mL_law tb) none 18 bn sn 2106 [some (vr 1000), some (vr 1), some (vr 68), some (vr 84), some (vr 85), some (vi (i : Int)), none, none, none, none] [] v K X) : Go G cL_law (mL_law tb) none 18 (bn + 8) (sn + 48) 1558 [some (vr 1000), some (vr 1), some (vr 68), some (vr 84), some (vr 85), some (vi (i : Int)), none, none, none, none] [] w K X := by
  have q_k : ∀ w', 0 ≤ (sx G (i + 1)) → (sx G (i + 1)) ≤ 3 → CI w' s sv g tx → frm w w' ccs → Go G cL_law (mL_law tb) none 18 (bn + 8 - 1) (sn + 48 - 6) 1569 [some (vr 1000), some (vr 1), some (vr 68), some (vr 84), some (vr 85), some (vi (i : Int)), none, none, none, none] [vi 0] (up w' 84 0 (nz (if (sx G (i + 1)) = 0 then 100 - (tot s.1 : Int) else if (sx G (i + 1)) = 1 then (rgN s.1 : Int) else if (sx G (i + 1)) = 2 then mxF (fun i => cntF (rgR s.1) i) 0 (rgN s.1) else smF (fun i => if hdB s.1 (rgR s.1) s.1.length i = true then 1 else 0) (rgN s.1)))) K X := fun w1 a1 a2 c1 fr1 => by
    have hm1 : MInv (up w1 84 0 (nz (if (sx G (i + 1)) = 0 then 100 - (tot s.1 : Int) else if (sx G (i + 1)) = 1 then (rgN s.1 : Int) else if (sx G (i + 1)) = 2 then mxF (fun i => cntF (rgR s.1) i) 0 (rgN s.1) else smF (fun i => if hdB s.1 (rgR s.1) s.1.length i = true then 1 else 0) (rgN s.1)))) s sv g tx := (hm.out fr1 (by decide +kernel)).out (A := [84]) (frm.rfl.up (by simp)) (by decide)
    have c2 : CI (up w1 84 0 (nz (if (sx G (i + 1)) = 0 then 100 - (tot s.1 : Int) else if (sx G (i + 1)) = 1 then (rgN s.1 : Int) else if (sx G (i + 1)) = 2 then mxF (fun i => cntF (rgR s.1) i) 0 (rgN s.1) else smF (fun i => if hdB s.1 (rgR s.1) s.1.length i = true then 1 else 0) (rgN s.1)))) _ _ _ _ := c1.frm (A := [84]) (frm.rfl.up (by simp)) (by decide)
    refine Go_ist6 dL_law_1569 rfl ?_
    refine Go_ald2 dL_law_1571 ?_
    refine Go_ald0 dL_law_1572 ?_
    refine Go_ild5 dL_law_1573 ?_
    refine Go_iconst dL_law_1575 ?_
    refine Go_iadd dL_law_1576 ?_
    refine Go_xld (j := i + 1) dL_law_1577 (by omega) (by omega) hL ?_
    refine Go_cV1 (d' := 5) (bc' := 0) (bs' := 0) rfl dL_law_1578 mvX12_free rfl lkL_198 (by first | assumption | rfl) rfl trivial (by decide) (by omega) (by omega) (Nat.le_of_ble_eq_true rfl) ?_
    refine e_X12_free hm1 (sx_in G _) (fun w2 b1 b2 mx => ?_) (fun w2 b1 mx => by (exfalso; first | omega | (first | omega | exact b1 ⟨a1, a2⟩)))
    refine Go_ist7 dL_law_1581 rfl ?_
    refine Go_ald2 dL_law_1583 ?_
    refine Go_cV0 (d' := 0) (bc' := 0) (bs' := 0) rfl dL_law_1584 mvX12_thrown rfl lkL_118 (by first | assumption | rfl) rfl trivial (by decide) (by omega) (by omega) (Nat.le_of_ble_eq_true rfl) ?_
    refine e_X12_thrown ?_
    rw [mx.2.1]
    refine Go_ild6 dL_law_1587 ?_
    refine Go_icmp_eq (tgt := 1594) dL_law_1589 (by decide) (by constructor <;> omega) (by constructor <;> omega) (fun h1589 => ?_) (fun h1589 => by omega)
    refine Go_ild6 dL_law_1594 ?_
    refine Go_if_ne (tgt := 1611) dL_law_1596 (by decide) (by constructor <;> omega) (fun h1596 => by omega) (fun h1596 => ?_)
    refine Go_ald3 dL_law_1599 ?_
    refine Go_iconst dL_law_1600 ?_
    refine Go_lald dL_law_1601 (by first | assumption | rfl) trivial (by omega) (by omega) (by decide) ?_
    rw [show (0 : Int).toNat = 0 from rfl, mx.2.2.at (by decide), up_s]
    refine Go_ild7 dL_law_1602 ?_
    refine Go_i2lN dL_law_1604 ?_
    refine Go_lcmp_same dL_law_1605 ?_
    refine Go_if_eq (tgt := 1611) dL_law_1606 (by decide) (by constructor <;> omega) (fun h1606 => ?_) (fun h1606 => by omega)
    refine Go_goto (tgt := 2106) dL_law_1611 (by decide) ?_
    exact Go_more (by omega) (by omega) (Go_forget (by repeat' (first | exact Or.inl rfl | exact Or.inr rfl | exact Or.inr (lcg (by omega)) | exact trivial | constructor)) (kn w2 _ _ _ _ (c2.frm mx.2.2 (by decide +kernel)) mx.1))
  have q_x3 : ¬ (0 ≤ (sx G (i + 1)) ∧ (sx G (i + 1)) ≤ 3) → Go G cL_law (mL_law tb) none 18 (bn + 8 - 1) (sn + 48 - 6) 1569 [some (vr 1000), some (vr 1), some (vr 68), some (vr 84), some (vr 85), some (vi (i : Int)), none, none, none, none] [vi 1] (w) K X := fun a1 => by
    have c1 := h
    have hm1 := hm
    have c2 := c1
    refine Go_ist6 dL_law_1569 rfl ?_
    refine Go_ald2 dL_law_1571 ?_
    refine Go_ald0 dL_law_1572 ?_
    refine Go_ild5 dL_law_1573 ?_
    refine Go_iconst dL_law_1575 ?_
    refine Go_iadd dL_law_1576 ?_
    refine Go_xld (j := i + 1) dL_law_1577 (by omega) (by omega) hL ?_
    refine Go_cV1 (d' := 5) (bc' := 0) (bs' := 0) rfl dL_law_1578 mvX12_free rfl lkL_198 (by first | assumption | rfl) rfl trivial (by decide) (by omega) (by omega) (Nat.le_of_ble_eq_true rfl) ?_
    refine e_X12_free hm1 (sx_in G _) (fun w2 b1 b2 mx => by (exfalso; first | omega | (first | omega | exact a1 ⟨b1, b2⟩))) (fun w2 b1 mx => ?_)
    refine Go_ist7 dL_law_1581 rfl ?_
    refine Go_ald2 dL_law_1583 ?_
    refine Go_cV0 (d' := 0) (bc' := 0) (bs' := 0) rfl dL_law_1584 mvX12_thrown rfl lkL_118 (by first | assumption | rfl) rfl trivial (by decide) (by omega) (by omega) (Nat.le_of_ble_eq_true rfl) ?_
    refine e_X12_thrown ?_
    rw [mx.2.1]
    refine Go_ild6 dL_law_1587 ?_
    refine Go_icmp_eq (tgt := 1594) dL_law_1589 (by decide) (by constructor <;> omega) (by constructor <;> omega) (fun h1589 => ?_) (fun h1589 => by omega)
    refine Go_ild6 dL_law_1594 ?_
    refine Go_if_ne (tgt := 1611) dL_law_1596 (by decide) (by constructor <;> omega) (fun h1596 => ?_) (fun h1596 => by omega)
    refine Go_goto (tgt := 2106) dL_law_1611 (by decide) ?_
    exact Go_more (by omega) (by omega) (Go_forget (by repeat' (first | exact Or.inl rfl | exact Or.inr rfl | exact Or.inr (lcg (by omega)) | exact trivial | constructor)) (kn w2 _ _ _ _ (c2.frm mx.2.2 (by decide +kernel)) mx.1))
  refine Go_ald1 dL_law_1558 ?_
  refine Go_ald0 dL_law_1559 ?_
  refine Go_ild5 dL_law_1560 ?_
  refine Go_iconst dL_law_1562 ?_
  refine Go_iadd dL_law_1563 ?_
  refine Go_xld (j := i + 1) dL_law_1564 (by omega) (by omega) hL ?_
  refine Go_ald3 dL_law_1565 ?_
  refine Go_cSW (d' := 8) (bc' := 1) (bs' := 6) (as := [vr 1, vi (sx G (i + 1)), vr 84]) rfl dL_law_1566 msL_free rfl lkL_196 rfl rfl (Nat.le_of_ble_eq_true rfl) (by decide) (by omega) (by omega) ?_
  refine e_L_free h (sx_in G _) q_k q_x3
theorem l_law_ways (hi : i + 4 ≤ GL G) (hL : GL G < 2147483648) (h : CI w s sv g tx) (hm : MInv w s sv g tx) (kn : ∀ v s sv g tx, CI v s sv g tx → MInv v s sv g tx → Go G cL_law (mL_law tb) none 18 bn sn 2106 [some (vr 1000), some (vr 1), some (vr 68), some (vr 84), some (vr 85), some (vi (i : Int)), none, none, none, none] [] v K X) : Go G cL_law (mL_law tb) none 18 (bn + 8) (sn + 48) 1614 [some (vr 1000), some (vr 1), some (vr 68), some (vr 84), some (vr 85), some (vi (i : Int)), none, none, none, none] [] w K X := by
  have q_k : ∀ w' (p n : Nat), (sx G (i + 1)) = p → p < s.1.length → (sx G (i + 2)) = n → n ≤ 6 → CI w' s sv g tx → frm w w' ccs → Go G cL_law (mL_law tb) none 18 (bn + 8 - 2) (sn + 48 - 12) 1631 [some (vr 1000), some (vr 1), some (vr 68), some (vr 84), some (vr 85), some (vi (i : Int)), none, none, none, none] [vi 0] (up w' 84 0 (nz (wy n (tkB s.1) (hdL (pth s.1 p))))) K X := fun w1 p n a1 a2 a3 a4 c1 fr1 => by
    have hm1 : MInv (up w1 84 0 (nz (wy n (tkB s.1) (hdL (pth s.1 p))))) s sv g tx := (hm.out fr1 (by decide +kernel)).out (A := [84]) (frm.rfl.up (by simp)) (by decide)
    have c2 : CI (up w1 84 0 (nz (wy n (tkB s.1) (hdL (pth s.1 p))))) _ _ _ _ := c1.frm (A := [84]) (frm.rfl.up (by simp)) (by decide)
    refine Go_ist6 dL_law_1631 rfl ?_
    refine Go_ald2 dL_law_1633 ?_
    refine Go_ald0 dL_law_1634 ?_
    refine Go_ild5 dL_law_1635 ?_
    refine Go_iconst dL_law_1637 ?_
    refine Go_iadd dL_law_1638 ?_
    refine Go_xld (j := i + 1) dL_law_1639 (by omega) (by omega) hL ?_
    refine Go_ald0 dL_law_1640 ?_
    refine Go_ild5 dL_law_1641 ?_
    refine Go_iconst dL_law_1643 ?_
    refine Go_iadd dL_law_1644 ?_
    refine Go_xld (j := i + 2) dL_law_1645 (by omega) (by omega) hL ?_
    refine Go_cV2 (d' := 3) (bc' := 0) (bs' := 0) rfl dL_law_1646 mvX12_ways rfl lkL_201 (by first | assumption | rfl) rfl trivial (by decide) (by omega) (by omega) (Nat.le_of_ble_eq_true rfl) ?_
    refine e_X12_ways hm1 (sx_in G _) (sx_in G _) (fun w2 p_2 n_2 b1 b2 b3 b4 mx => ?_) (fun w2 b1 mx => by (exfalso; first | omega | (first | omega | exact b1 ⟨a1, a2⟩ | exact b1 ⟨a2, a3⟩ | exact b1 ⟨a3, a4⟩))) (fun w2 b1 b2 b3 mx => by (exfalso; first | omega | (first | omega | exact b3 ⟨a1, a2⟩ | exact b3 ⟨a2, a3⟩ | exact b3 ⟨a3, a4⟩)))
    have e_p_2 : p_2 = p := (by omega)
    subst e_p_2
    have e_n_2 : n_2 = n := (by omega)
    subst e_n_2
    refine Go_ist7 dL_law_1649 rfl ?_
    refine Go_ald2 dL_law_1651 ?_
    refine Go_cV0 (d' := 0) (bc' := 0) (bs' := 0) rfl dL_law_1652 mvX12_thrown rfl lkL_118 (by first | assumption | rfl) rfl trivial (by decide) (by omega) (by omega) (Nat.le_of_ble_eq_true rfl) ?_
    refine e_X12_thrown ?_
    rw [mx.2.1]
    refine Go_ild6 dL_law_1655 ?_
    refine Go_icmp_eq (tgt := 1662) dL_law_1657 (by decide) (by constructor <;> omega) (by constructor <;> omega) (fun h1657 => ?_) (fun h1657 => by omega)
    refine Go_ild6 dL_law_1662 ?_
    refine Go_if_ne (tgt := 1679) dL_law_1664 (by decide) (by constructor <;> omega) (fun h1664 => by omega) (fun h1664 => ?_)
    refine Go_ald3 dL_law_1667 ?_
    refine Go_iconst dL_law_1668 ?_
    refine Go_lald dL_law_1669 (by first | assumption | rfl) trivial (by omega) (by omega) (by decide) ?_
    rw [show (0 : Int).toNat = 0 from rfl, mx.2.2.at (by decide), up_s]
    refine Go_ild7 dL_law_1670 ?_
    refine Go_i2lN dL_law_1672 ?_
    refine Go_lcmp_same dL_law_1673 ?_
    refine Go_if_eq (tgt := 1679) dL_law_1674 (by decide) (by constructor <;> omega) (fun h1674 => ?_) (fun h1674 => by omega)
    refine Go_goto (tgt := 2106) dL_law_1679 (by decide) ?_
    exact Go_more (by omega) (by omega) (Go_forget (by repeat' (first | exact Or.inl rfl | exact Or.inr rfl | exact Or.inr (lcg (by omega)) | exact trivial | constructor)) (kn w2 _ _ _ _ (c2.frm mx.2.2 (by decide +kernel)) mx.1))
  have q_x1 : ¬ (0 ≤ (sx G (i + 1)) ∧ (sx G (i + 1)) < s.1.length) → Go G cL_law (mL_law tb) none 18 (bn + 8 - 2) (sn + 48 - 12) 1631 [some (vr 1000), some (vr 1), some (vr 68), some (vr 84), some (vr 85), some (vi (i : Int)), none, none, none, none] [vi 1] (w) K X := fun a1 => by
    have c1 := h
    have hm1 := hm
    have c2 := c1
    refine Go_ist6 dL_law_1631 rfl ?_
    refine Go_ald2 dL_law_1633 ?_
    refine Go_ald0 dL_law_1634 ?_
    refine Go_ild5 dL_law_1635 ?_
    refine Go_iconst dL_law_1637 ?_
    refine Go_iadd dL_law_1638 ?_
    refine Go_xld (j := i + 1) dL_law_1639 (by omega) (by omega) hL ?_
    refine Go_ald0 dL_law_1640 ?_
    refine Go_ild5 dL_law_1641 ?_
    refine Go_iconst dL_law_1643 ?_
    refine Go_iadd dL_law_1644 ?_
    refine Go_xld (j := i + 2) dL_law_1645 (by omega) (by omega) hL ?_
    refine Go_cV2 (d' := 3) (bc' := 0) (bs' := 0) rfl dL_law_1646 mvX12_ways rfl lkL_201 (by first | assumption | rfl) rfl trivial (by decide) (by omega) (by omega) (Nat.le_of_ble_eq_true rfl) ?_
    refine e_X12_ways hm1 (sx_in G _) (sx_in G _) (fun w2 p_2 n_2 b1 b2 b3 b4 mx => by (exfalso; first | omega | (first | omega | exact a1 ⟨b1, b2⟩ | exact a1 ⟨b2, b3⟩ | exact a1 ⟨b3, b4⟩ | exact a1 ⟨b1, b2, b3, b4⟩))) (fun w2 b1 mx => ?_) (fun w2 b1 b2 b3 mx => by (exfalso; first | omega | (first | omega | exact a1 ⟨b1, b2⟩ | exact a1 ⟨b2, b3⟩)))
    refine Go_ist7 dL_law_1649 rfl ?_
    refine Go_ald2 dL_law_1651 ?_
    refine Go_cV0 (d' := 0) (bc' := 0) (bs' := 0) rfl dL_law_1652 mvX12_thrown rfl lkL_118 (by first | assumption | rfl) rfl trivial (by decide) (by omega) (by omega) (Nat.le_of_ble_eq_true rfl) ?_
    refine e_X12_thrown ?_
    rw [mx.2.1]
    refine Go_ild6 dL_law_1655 ?_
    refine Go_icmp_eq (tgt := 1662) dL_law_1657 (by decide) (by constructor <;> omega) (by constructor <;> omega) (fun h1657 => ?_) (fun h1657 => by omega)
    refine Go_ild6 dL_law_1662 ?_
    refine Go_if_ne (tgt := 1679) dL_law_1664 (by decide) (by constructor <;> omega) (fun h1664 => ?_) (fun h1664 => by omega)
    refine Go_goto (tgt := 2106) dL_law_1679 (by decide) ?_
    exact Go_more (by omega) (by omega) (Go_forget (by repeat' (first | exact Or.inl rfl | exact Or.inr rfl | exact Or.inr (lcg (by omega)) | exact trivial | constructor)) (kn w2 _ _ _ _ (c2.frm mx.2.2 (by decide +kernel)) mx.1))
  have q_x3 : 0 ≤ (sx G (i + 1)) → (sx G (i + 1)) < s.1.length → ¬ (0 ≤ (sx G (i + 2)) ∧ (sx G (i + 2)) ≤ 6) → Go G cL_law (mL_law tb) none 18 (bn + 8 - 2) (sn + 48 - 12) 1631 [some (vr 1000), some (vr 1), some (vr 68), some (vr 84), some (vr 85), some (vi (i : Int)), none, none, none, none] [vi 2] (w) K X := fun a1 a2 a3 => by
    have c1 := h
    have hm1 := hm
    have c2 := c1
    refine Go_ist6 dL_law_1631 rfl ?_
    refine Go_ald2 dL_law_1633 ?_
    refine Go_ald0 dL_law_1634 ?_
    refine Go_ild5 dL_law_1635 ?_
    refine Go_iconst dL_law_1637 ?_
    refine Go_iadd dL_law_1638 ?_
    refine Go_xld (j := i + 1) dL_law_1639 (by omega) (by omega) hL ?_
    refine Go_ald0 dL_law_1640 ?_
    refine Go_ild5 dL_law_1641 ?_
    refine Go_iconst dL_law_1643 ?_
    refine Go_iadd dL_law_1644 ?_
    refine Go_xld (j := i + 2) dL_law_1645 (by omega) (by omega) hL ?_
    refine Go_cV2 (d' := 3) (bc' := 0) (bs' := 0) rfl dL_law_1646 mvX12_ways rfl lkL_201 (by first | assumption | rfl) rfl trivial (by decide) (by omega) (by omega) (Nat.le_of_ble_eq_true rfl) ?_
    refine e_X12_ways hm1 (sx_in G _) (sx_in G _) (fun w2 p_2 n_2 b1 b2 b3 b4 mx => by (exfalso; first | omega | (first | omega | exact a3 ⟨b1, b2⟩ | exact a3 ⟨b2, b3⟩ | exact a3 ⟨b3, b4⟩ | exact a3 ⟨b1, b2, b3, b4⟩))) (fun w2 b1 mx => by (exfalso; first | omega | (first | omega | exact b1 ⟨a1, a2⟩ | exact b1 ⟨a2, a3⟩))) (fun w2 b1 b2 b3 mx => ?_)
    refine Go_ist7 dL_law_1649 rfl ?_
    refine Go_ald2 dL_law_1651 ?_
    refine Go_cV0 (d' := 0) (bc' := 0) (bs' := 0) rfl dL_law_1652 mvX12_thrown rfl lkL_118 (by first | assumption | rfl) rfl trivial (by decide) (by omega) (by omega) (Nat.le_of_ble_eq_true rfl) ?_
    refine e_X12_thrown ?_
    rw [mx.2.1]
    refine Go_ild6 dL_law_1655 ?_
    refine Go_icmp_eq (tgt := 1662) dL_law_1657 (by decide) (by constructor <;> omega) (by constructor <;> omega) (fun h1657 => ?_) (fun h1657 => by omega)
    refine Go_ild6 dL_law_1662 ?_
    refine Go_if_ne (tgt := 1679) dL_law_1664 (by decide) (by constructor <;> omega) (fun h1664 => ?_) (fun h1664 => by omega)
    refine Go_goto (tgt := 2106) dL_law_1679 (by decide) ?_
    exact Go_more (by omega) (by omega) (Go_forget (by repeat' (first | exact Or.inl rfl | exact Or.inr rfl | exact Or.inr (lcg (by omega)) | exact trivial | constructor)) (kn w2 _ _ _ _ (c2.frm mx.2.2 (by decide +kernel)) mx.1))
  refine Go_ald1 dL_law_1614 ?_
  refine Go_ald0 dL_law_1615 ?_
  refine Go_ild5 dL_law_1616 ?_
  refine Go_iconst dL_law_1618 ?_
  refine Go_iadd dL_law_1619 ?_
  refine Go_xld (j := i + 1) dL_law_1620 (by omega) (by omega) hL ?_
  refine Go_ald0 dL_law_1621 ?_
  refine Go_ild5 dL_law_1622 ?_
  refine Go_iconst dL_law_1624 ?_
  refine Go_iadd dL_law_1625 ?_
  refine Go_xld (j := i + 2) dL_law_1626 (by omega) (by omega) hL ?_
  refine Go_ald3 dL_law_1627 ?_
  refine Go_cSW (d' := 17) (bc' := 2) (bs' := 12) (as := [vr 1, vi (sx G (i + 1)), vi (sx G (i + 2)), vr 84]) rfl dL_law_1628 msL_ways rfl lkL_199 rfl rfl (Nat.le_of_ble_eq_true rfl) (by decide) (by omega) (by omega) ?_
  refine e_L_ways h (sx_in G _) (sx_in G _) q_k q_x1 q_x3
theorem l_law_bestStep (hi : i + 4 ≤ GL G) (hL : GL G < 2147483648) (h : CI w s sv g tx) (hm : MInv w s sv g tx) (kn : ∀ v s sv g tx, CI v s sv g tx → MInv v s sv g tx → Go G cL_law (mL_law tb) none 18 bn sn 2106 [some (vr 1000), some (vr 1), some (vr 68), some (vr 84), some (vr 85), some (vi (i : Int)), none, none, none, none] [] v K X) : Go G cL_law (mL_law tb) none 18 (bn + 8) (sn + 48) 1682 [some (vr 1000), some (vr 1), some (vr 68), some (vr 84), some (vr 85), some (vi (i : Int)), none, none, none, none] [] w K X := by
  have q_k : ∀ w' (p : Nat), (sx G (i + 1)) = p → p < s.1.length → CI w' s sv g tx → frm w w' ccs → Go G cL_law (mL_law tb) none 18 (bn + 8 - 1) (sn + 48 - 6) 1693 [some (vr 1000), some (vr 1), some (vr 68), some (vr 84), some (vr 85), some (vi (i : Int)), none, none, none, none] [vi 0] (up w' 84 0 (nz (bstD s.1 (hdL (pth s.1 p))))) K X := fun w1 p a1 a2 c1 fr1 => by
    have hm1 : MInv (up w1 84 0 (nz (bstD s.1 (hdL (pth s.1 p))))) s sv g tx := (hm.out fr1 (by decide +kernel)).out (A := [84]) (frm.rfl.up (by simp)) (by decide)
    have c2 : CI (up w1 84 0 (nz (bstD s.1 (hdL (pth s.1 p))))) _ _ _ _ := c1.frm (A := [84]) (frm.rfl.up (by simp)) (by decide)
    refine Go_ist6 dL_law_1693 rfl ?_
    refine Go_ald2 dL_law_1695 ?_
    refine Go_ald0 dL_law_1696 ?_
    refine Go_ild5 dL_law_1697 ?_
    refine Go_iconst dL_law_1699 ?_
    refine Go_iadd dL_law_1700 ?_
    refine Go_xld (j := i + 1) dL_law_1701 (by omega) (by omega) hL ?_
    refine Go_cV1 (d' := 3) (bc' := 0) (bs' := 0) rfl dL_law_1702 mvX12_bestStep rfl lkL_204 (by first | assumption | rfl) rfl trivial (by decide) (by omega) (by omega) (Nat.le_of_ble_eq_true rfl) ?_
    refine e_X12_bestStep hm1 (sx_in G _) (fun w2 p_2 b1 b2 mx => ?_) (fun w2 b1 mx => by (exfalso; first | omega | (first | omega | exact b1 ⟨a1, a2⟩)))
    have e_p_2 : p_2 = p := (by omega)
    subst e_p_2
    refine Go_ist7 dL_law_1705 rfl ?_
    refine Go_ald2 dL_law_1707 ?_
    refine Go_cV0 (d' := 0) (bc' := 0) (bs' := 0) rfl dL_law_1708 mvX12_thrown rfl lkL_118 (by first | assumption | rfl) rfl trivial (by decide) (by omega) (by omega) (Nat.le_of_ble_eq_true rfl) ?_
    refine e_X12_thrown ?_
    rw [mx.2.1]
    refine Go_ild6 dL_law_1711 ?_
    refine Go_icmp_eq (tgt := 1718) dL_law_1713 (by decide) (by constructor <;> omega) (by constructor <;> omega) (fun h1713 => ?_) (fun h1713 => by omega)
    refine Go_ild6 dL_law_1718 ?_
    refine Go_if_ne (tgt := 1735) dL_law_1720 (by decide) (by constructor <;> omega) (fun h1720 => by omega) (fun h1720 => ?_)
    refine Go_ald3 dL_law_1723 ?_
    refine Go_iconst dL_law_1724 ?_
    refine Go_lald dL_law_1725 (by first | assumption | rfl) trivial (by omega) (by omega) (by decide) ?_
    rw [show (0 : Int).toNat = 0 from rfl, mx.2.2.at (by decide), up_s]
    refine Go_ild7 dL_law_1726 ?_
    refine Go_i2lN dL_law_1728 ?_
    refine Go_lcmp_same dL_law_1729 ?_
    refine Go_if_eq (tgt := 1735) dL_law_1730 (by decide) (by constructor <;> omega) (fun h1730 => ?_) (fun h1730 => by omega)
    refine Go_goto (tgt := 2106) dL_law_1735 (by decide) ?_
    exact Go_more (by omega) (by omega) (Go_forget (by repeat' (first | exact Or.inl rfl | exact Or.inr rfl | exact Or.inr (lcg (by omega)) | exact trivial | constructor)) (kn w2 _ _ _ _ (c2.frm mx.2.2 (by decide +kernel)) mx.1))
  have q_x1 : ¬ (0 ≤ (sx G (i + 1)) ∧ (sx G (i + 1)) < s.1.length) → Go G cL_law (mL_law tb) none 18 (bn + 8 - 1) (sn + 48 - 6) 1693 [some (vr 1000), some (vr 1), some (vr 68), some (vr 84), some (vr 85), some (vi (i : Int)), none, none, none, none] [vi 1] (w) K X := fun a1 => by
    have c1 := h
    have hm1 := hm
    have c2 := c1
    refine Go_ist6 dL_law_1693 rfl ?_
    refine Go_ald2 dL_law_1695 ?_
    refine Go_ald0 dL_law_1696 ?_
    refine Go_ild5 dL_law_1697 ?_
    refine Go_iconst dL_law_1699 ?_
    refine Go_iadd dL_law_1700 ?_
    refine Go_xld (j := i + 1) dL_law_1701 (by omega) (by omega) hL ?_
    refine Go_cV1 (d' := 3) (bc' := 0) (bs' := 0) rfl dL_law_1702 mvX12_bestStep rfl lkL_204 (by first | assumption | rfl) rfl trivial (by decide) (by omega) (by omega) (Nat.le_of_ble_eq_true rfl) ?_
    refine e_X12_bestStep hm1 (sx_in G _) (fun w2 p_2 b1 b2 mx => by (exfalso; first | omega | (first | omega | exact a1 ⟨b1, b2⟩))) (fun w2 b1 mx => ?_)
    refine Go_ist7 dL_law_1705 rfl ?_
    refine Go_ald2 dL_law_1707 ?_
    refine Go_cV0 (d' := 0) (bc' := 0) (bs' := 0) rfl dL_law_1708 mvX12_thrown rfl lkL_118 (by first | assumption | rfl) rfl trivial (by decide) (by omega) (by omega) (Nat.le_of_ble_eq_true rfl) ?_
    refine e_X12_thrown ?_
    rw [mx.2.1]
    refine Go_ild6 dL_law_1711 ?_
    refine Go_icmp_eq (tgt := 1718) dL_law_1713 (by decide) (by constructor <;> omega) (by constructor <;> omega) (fun h1713 => ?_) (fun h1713 => by omega)
    refine Go_ild6 dL_law_1718 ?_
    refine Go_if_ne (tgt := 1735) dL_law_1720 (by decide) (by constructor <;> omega) (fun h1720 => ?_) (fun h1720 => by omega)
    refine Go_goto (tgt := 2106) dL_law_1735 (by decide) ?_
    exact Go_more (by omega) (by omega) (Go_forget (by repeat' (first | exact Or.inl rfl | exact Or.inr rfl | exact Or.inr (lcg (by omega)) | exact trivial | constructor)) (kn w2 _ _ _ _ (c2.frm mx.2.2 (by decide +kernel)) mx.1))
  refine Go_ald1 dL_law_1682 ?_
  refine Go_ald0 dL_law_1683 ?_
  refine Go_ild5 dL_law_1684 ?_
  refine Go_iconst dL_law_1686 ?_
  refine Go_iadd dL_law_1687 ?_
  refine Go_xld (j := i + 1) dL_law_1688 (by omega) (by omega) hL ?_
  refine Go_ald3 dL_law_1689 ?_
  refine Go_cSW (d' := 16) (bc' := 1) (bs' := 6) (as := [vr 1, vi (sx G (i + 1)), vr 84]) rfl dL_law_1690 msL_bestStep rfl lkL_202 rfl rfl (Nat.le_of_ble_eq_true rfl) (by decide) (by omega) (by omega) ?_
  refine e_L_bestStep h (sx_in G _) q_k q_x1
end Law
