def goodP (w : Cond) : Bool := goodWord w
/-- the good words of the tables -/
def GW : List Cond := lw_tbl.filter goodWord
theorem inG {w : Cond} (h : w ∈ lw_tbl) (g : goodWord w = true) : w ∈ GW := List.mem_filter.mpr ⟨h, g⟩
theorem GW_good {w : Cond} (h : w ∈ GW) : goodWord w = true := (List.mem_filter.mp h).2
theorem GW_tbl {w : Cond} (h : w ∈ GW) : w ∈ lw_tbl := (List.mem_filter.mp h).1
theorem mp_ {w : Cond} (h : w ∈ k2_sels lw_privs) : w ∈ lw_tbl := List.mem_append_left _ h
theorem mt1 {w : Cond} (h : w ∈ tables_1_1) : w ∈ lw_tbl := List.mem_append_right _ (List.mem_append_left _ h)
theorem mt2 {w : Cond} (h : w ∈ tables_1_2) : w ∈ lw_tbl := List.mem_append_right _ (List.mem_append_right _ (List.mem_append_left _ h))
theorem mt3 {w : Cond} (h : w ∈ tables_1_3) : w ∈ lw_tbl := List.mem_append_right _ (List.mem_append_right _ (List.mem_append_right _ (List.mem_append_left _ h)))
theorem mt4 {w : Cond} (h : w ∈ tables_1_4) : w ∈ lw_tbl := List.mem_append_right _ (List.mem_append_right _ (List.mem_append_right _ (List.mem_append_right _ (List.mem_append_left _ h))))
theorem mt5 {w : Cond} (h : w ∈ tables_1_5) : w ∈ lw_tbl := List.mem_append_right _ (List.mem_append_right _ (List.mem_append_right _ (List.mem_append_right _ (List.mem_append_right _ (List.mem_append_left _ h)))))
theorem mt6 {w : Cond} (h : w ∈ tables_1_6) : w ∈ lw_tbl := List.mem_append_right _ (List.mem_append_right _ (List.mem_append_right _ (List.mem_append_right _ (List.mem_append_right _ (List.mem_append_right _ (List.mem_append_left _ h))))))
theorem mt7 {w : Cond} (h : w ∈ tables_1_7) : w ∈ lw_tbl := List.mem_append_right _ (List.mem_append_right _ (List.mem_append_right _ (List.mem_append_right _ (List.mem_append_right _ (List.mem_append_right _ (List.mem_append_right _ h))))))
abbrev Mt : Type := Option FieldType × String × Bool × List (Nat × Nat × Nat × Nat)
def codeW (y : MethodName) (cc : ByteArray) (nl : Nat) (mt : Mt) : Cond := match mt.2.2.2 with
  | [] => Cond.code y cc nl mt.1
  | t :: ts => Cond.codeWith y cc nl mt.1 (t :: ts)
/-- a method that can be called: on an object, and without one -/
def MB (y : MethodName) (cc : ByteArray) (nl : Nat) (mt : Mt) (n : Nat) : Prop := codeW y cc nl mt ∈ GW ∧ Cond.initialized y.cls ∈ GW ∧ (y.cls ≠ "java/lang/invoke/MethodHandle" ∧ y.cls ≠ "java/lang/invoke/VarHandle") ∧ (parseMethodDescriptor y.desc).map (fun d => d.parameters.length) = some n ∧ plainName y.cls = true ∧ nl ≤ 21 ∧ n ≤ nl
def MV (y : MethodName) (cc : ByteArray) (nl : Nat) (mt : Mt) (n : Nat) : Prop := MB y cc nl mt n ∧ Cond.instanceMethod y ∈ GW ∧ Cond.selects y.cls y y ∈ GW
def MS (y : MethodName) (cc : ByteArray) (nl : Nat) (mt : Mt) (n : Nat) : Prop := MB y cc nl mt n ∧ Cond.static y ∈ GW
def MI (y : MethodName) (cc : ByteArray) (nl : Nat) (mt : Mt) (n : Nat) : Prop := MB y cc nl mt n ∧ Cond.instanceMethod y ∈ GW ∧ y.name = "<init>" 
set_option maxRecDepth 20000 in
theorem gi_RX0 : Cond.initialized RX0 ∈ GW := inG (mt1 (List.mem_of_getElem? (i := 2) rfl)) rfl
set_option maxRecDepth 20000 in
theorem gi_RX1 : Cond.initialized RX1 ∈ GW := inG (mt1 (List.mem_of_getElem? (i := 5) rfl)) rfl
set_option maxRecDepth 20000 in
theorem gi_RX2 : Cond.initialized RX2 ∈ GW := inG (mt1 (List.mem_of_getElem? (i := 14) rfl)) rfl
set_option maxRecDepth 20000 in
theorem gi_RX3 : Cond.initialized RX3 ∈ GW := inG (mt1 (List.mem_of_getElem? (i := 8) rfl)) rfl
set_option maxRecDepth 20000 in
theorem gi_RX4 : Cond.initialized RX4 ∈ GW := inG (mt1 (List.mem_of_getElem? (i := 11) rfl)) rfl
set_option maxRecDepth 20000 in
theorem gi_RX5 : Cond.initialized RX5 ∈ GW := inG (mt1 (List.mem_of_getElem? (i := 6) rfl)) rfl
set_option maxRecDepth 20000 in
theorem gi_RX6 : Cond.initialized RX6 ∈ GW := inG (mt1 (List.mem_of_getElem? (i := 10) rfl)) rfl
set_option maxRecDepth 20000 in
theorem gi_RX7 : Cond.initialized RX7 ∈ GW := inG (mt1 (List.mem_of_getElem? (i := 12) rfl)) rfl
set_option maxRecDepth 20000 in
theorem gi_RX8 : Cond.initialized RX8 ∈ GW := inG (mt1 (List.mem_of_getElem? (i := 7) rfl)) rfl
set_option maxRecDepth 20000 in
theorem gi_RX9 : Cond.initialized RX9 ∈ GW := inG (mt1 (List.mem_of_getElem? (i := 3) rfl)) rfl
set_option maxRecDepth 20000 in
theorem gi_RX10 : Cond.initialized RX10 ∈ GW := inG (mt1 (List.mem_of_getElem? (i := 9) rfl)) rfl
set_option maxRecDepth 20000 in
theorem gi_RX11 : Cond.initialized RX11 ∈ GW := inG (mt1 (List.mem_of_getElem? (i := 1) rfl)) rfl
set_option maxRecDepth 20000 in
theorem gi_RX12 : Cond.initialized RX12 ∈ GW := inG (mt1 (List.mem_of_getElem? (i := 13) rfl)) rfl
set_option maxRecDepth 20000 in
theorem gi_RJ11 : Cond.initialized RJ11 ∈ GW := inG (mt1 (List.mem_of_getElem? (i := 26) rfl)) rfl
set_option maxRecDepth 20000 in
theorem gi_RJ9 : Cond.initialized RJ9 ∈ GW := inG (mt1 (List.mem_of_getElem? (i := 23) rfl)) rfl
set_option maxRecDepth 20000 in
theorem gi_RJ0 : Cond.initialized RJ0 ∈ GW := inG (mt1 (List.mem_of_getElem? (i := 21) rfl)) rfl
set_option maxRecDepth 20000 in
theorem gi_RJ1 : Cond.initialized RJ1 ∈ GW := inG (mt1 (List.mem_of_getElem? (i := 22) rfl)) rfl
set_option maxRecDepth 20000 in
theorem gi_RJ2 : Cond.initialized RJ2 ∈ GW := inG (mt1 (List.mem_of_getElem? (i := 24) rfl)) rfl
set_option maxRecDepth 20000 in
theorem gi_RJ10 : Cond.initialized RJ10 ∈ GW := inG (mt1 (List.mem_of_getElem? (i := 27) rfl)) rfl
set_option maxRecDepth 20000 in
theorem gi_RJ7 : Cond.initialized RJ7 ∈ GW := inG (mt1 (List.mem_of_getElem? (i := 4) rfl)) rfl
set_option maxRecDepth 20000 in
theorem gi_RJ3 : Cond.initialized RJ3 ∈ GW := inG (mt1 (List.mem_of_getElem? (i := 25) rfl)) rfl
set_option maxRecDepth 20000 in
theorem gi_RL : Cond.initialized RL ∈ GW := inG (mt1 (List.mem_of_getElem? (i := 0) rfl)) rfl
abbrev mX11_init : Mt := (none, RX11, true, [])
set_option maxRecDepth 20000 in
theorem miX11_init : MI yX11_init cX11_init 1 mX11_init 0 := ⟨⟨inG (mt1 (List.mem_of_getElem? (i := 32) rfl)) rfl, gi_RX11, ⟨by decide +kernel, by decide +kernel⟩, by decide +kernel, by decide +kernel, by decide, by decide⟩, inG (mt1 (List.mem_of_getElem? (i := 31) rfl)) rfl, rfl⟩
abbrev mX0_init : Mt := (none, RX0, true, [])
set_option maxRecDepth 20000 in
theorem miX0_init : MI yX0_init cX0_init 2 mX0_init 0 := ⟨⟨inG (mt1 (List.mem_of_getElem? (i := 40) rfl)) rfl, gi_RX0, ⟨by decide +kernel, by decide +kernel⟩, by decide +kernel, by decide +kernel, by decide, by decide⟩, inG (mt1 (List.mem_of_getElem? (i := 39) rfl)) rfl, rfl⟩
abbrev mX9_init : Mt := (none, RX9, true, [])
set_option maxRecDepth 20000 in
theorem miX9_init : MI yX9_init cX9_init 1 mX9_init 0 := ⟨⟨inG (mt1 (List.mem_of_getElem? (i := 47) rfl)) rfl, gi_RX9, ⟨by decide +kernel, by decide +kernel⟩, by decide +kernel, by decide +kernel, by decide, by decide⟩, inG (mt1 (List.mem_of_getElem? (i := 46) rfl)) rfl, rfl⟩
abbrev mJ7_fill_53178 : Mt := (none, RJ7, false, [])
set_option maxRecDepth 20000 in
theorem msJ7_fill_53178 : MS yJ7_fill_53178 cJ7_fill_53178 4 mJ7_fill_53178 2 := ⟨⟨inG (mt1 (List.mem_of_getElem? (i := 59) rfl)) rfl, gi_RJ7, ⟨by decide +kernel, by decide +kernel⟩, by decide +kernel, by decide +kernel, by decide, by decide⟩, inG (mt1 (List.mem_of_getElem? (i := 58) rfl)) rfl⟩
abbrev mX1_init : Mt := (none, RX1, true, [])
set_option maxRecDepth 20000 in
theorem miX1_init : MI yX1_init cX1_init 2 mX1_init 0 := ⟨⟨inG (mt1 (List.mem_of_getElem? (i := 94) rfl)) rfl, gi_RX1, ⟨by decide +kernel, by decide +kernel⟩, by decide +kernel, by decide +kernel, by decide, by decide⟩, inG (mt1 (List.mem_of_getElem? (i := 93) rfl)) rfl, rfl⟩
abbrev mX5_init : Mt := (none, RX5, true, [])
set_option maxRecDepth 20000 in
theorem miX5_init : MI yX5_init cX5_init 1 mX5_init 0 := ⟨⟨inG (mt1 (List.mem_of_getElem? (i := 101) rfl)) rfl, gi_RX5, ⟨by decide +kernel, by decide +kernel⟩, by decide +kernel, by decide +kernel, by decide, by decide⟩, inG (mt1 (List.mem_of_getElem? (i := 100) rfl)) rfl, rfl⟩
abbrev mX8_init : Mt := (none, RX8, true, [])
set_option maxRecDepth 20000 in
theorem miX8_init : MI yX8_init cX8_init 2 mX8_init 0 := ⟨⟨inG (mt1 (List.mem_of_getElem? (i := 136) rfl)) rfl, gi_RX8, ⟨by decide +kernel, by decide +kernel⟩, by decide +kernel, by decide +kernel, by decide, by decide⟩, inG (mt1 (List.mem_of_getElem? (i := 135) rfl)) rfl, rfl⟩
abbrev mX3_init : Mt := (none, RX3, true, [])
set_option maxRecDepth 20000 in
theorem miX3_init : MI yX3_init cX3_init 1 mX3_init 0 := ⟨⟨inG (mt1 (List.mem_of_getElem? (i := 152) rfl)) rfl, gi_RX3, ⟨by decide +kernel, by decide +kernel⟩, by decide +kernel, by decide +kernel, by decide, by decide⟩, inG (mt1 (List.mem_of_getElem? (i := 151) rfl)) rfl, rfl⟩
abbrev mX10_init : Mt := (none, RX10, true, [])
set_option maxRecDepth 20000 in
theorem miX10_init : MI yX10_init cX10_init 1 mX10_init 0 := ⟨⟨inG (mt1 (List.mem_of_getElem? (i := 168) rfl)) rfl, gi_RX10, ⟨by decide +kernel, by decide +kernel⟩, by decide +kernel, by decide +kernel, by decide, by decide⟩, inG (mt1 (List.mem_of_getElem? (i := 167) rfl)) rfl, rfl⟩
abbrev mX6_init : Mt := (none, RX6, true, [])
set_option maxRecDepth 20000 in
theorem miX6_init : MI yX6_init cX6_init 1 mX6_init 0 := ⟨⟨inG (mt1 (List.mem_of_getElem? (i := 178) rfl)) rfl, gi_RX6, ⟨by decide +kernel, by decide +kernel⟩, by decide +kernel, by decide +kernel, by decide, by decide⟩, inG (mt1 (List.mem_of_getElem? (i := 177) rfl)) rfl, rfl⟩
abbrev mX4_init : Mt := (none, RX4, true, [])
set_option maxRecDepth 20000 in
theorem miX4_init : MI yX4_init cX4_init 1 mX4_init 0 := ⟨⟨inG (mt1 (List.mem_of_getElem? (i := 188) rfl)) rfl, gi_RX4, ⟨by decide +kernel, by decide +kernel⟩, by decide +kernel, by decide +kernel, by decide, by decide⟩, inG (mt1 (List.mem_of_getElem? (i := 187) rfl)) rfl, rfl⟩
abbrev mX7_init : Mt := (none, RX7, true, [])
set_option maxRecDepth 20000 in
theorem miX7_init : MI yX7_init cX7_init 1 mX7_init 0 := ⟨⟨inG (mt1 (List.mem_of_getElem? (i := 210) rfl)) rfl, gi_RX7, ⟨by decide +kernel, by decide +kernel⟩, by decide +kernel, by decide +kernel, by decide, by decide⟩, inG (mt1 (List.mem_of_getElem? (i := 209) rfl)) rfl, rfl⟩
abbrev mX12_init : Mt := (none, RX12, true, [])
set_option maxRecDepth 20000 in
theorem miX12_init : MI yX12_init cX12_init 1 mX12_init 0 := ⟨⟨inG (mt5 (List.mem_of_getElem? (i := 233) rfl)) rfl, gi_RX12, ⟨by decide +kernel, by decide +kernel⟩, by decide +kernel, by decide +kernel, by decide, by decide⟩, inG (mt5 (List.mem_of_getElem? (i := 232) rfl)) rfl, rfl⟩
abbrev mL_start : Mt := ((some .int), RL, false, [(0, 10, 13, 13), (0, 10, 17, 15)])
set_option maxRecDepth 20000 in
theorem msL_start : MS yL_start cL_start 5 mL_start 4 := ⟨⟨inG (mt2 (List.mem_of_getElem? (i := 192) rfl)) rfl, gi_RL, ⟨by decide +kernel, by decide +kernel⟩, by decide +kernel, by decide +kernel, by decide, by decide⟩, inG (mt2 (List.mem_of_getElem? (i := 191) rfl)) rfl⟩
abbrev mX11_start : Mt := ((some .int), RX11, false, [])
set_option maxRecDepth 20000 in
theorem mvX11_start : MV yX11_start cX11_start 4 mX11_start 2 := ⟨⟨inG (mt2 (List.mem_of_getElem? (i := 198) rfl)) rfl, gi_RX11, ⟨by decide +kernel, by decide +kernel⟩, by decide +kernel, by decide +kernel, by decide, by decide⟩, inG (mt2 (List.mem_of_getElem? (i := 196) rfl)) rfl, inG (mt2 (List.mem_of_getElem? (i := 197) rfl)) rfl⟩
abbrev mX11_checkedSite : Mt := ((some .int), RX11, false, [])
set_option maxRecDepth 20000 in
theorem msX11_checkedSite : MS yX11_checkedSite cX11_checkedSite 3 mX11_checkedSite 2 := ⟨⟨inG (mt2 (List.mem_of_getElem? (i := 201) rfl)) rfl, gi_RX11, ⟨by decide +kernel, by decide +kernel⟩, by decide +kernel, by decide +kernel, by decide, by decide⟩, inG (mt2 (List.mem_of_getElem? (i := 200) rfl)) rfl⟩
abbrev mX2_number : Mt := ((some .int), RX2, false, [])
set_option maxRecDepth 20000 in
theorem msX2_number : MS yX2_number cX2_number 2 mX2_number 2 := ⟨⟨inG (mt2 (List.mem_of_getElem? (i := 173) rfl)) rfl, gi_RX2, ⟨by decide +kernel, by decide +kernel⟩, by decide +kernel, by decide +kernel, by decide, by decide⟩, inG (mt2 (List.mem_of_getElem? (i := 172) rfl)) rfl⟩
abbrev mX0_isFree : Mt := ((some .boolean), RX0, false, [])
set_option maxRecDepth 20000 in
theorem mvX0_isFree : MV yX0_isFree cX0_isFree 2 mX0_isFree 1 := ⟨⟨inG (mt2 (List.mem_of_getElem? (i := 177) rfl)) rfl, gi_RX0, ⟨by decide +kernel, by decide +kernel⟩, by decide +kernel, by decide +kernel, by decide, by decide⟩, inG (mt2 (List.mem_of_getElem? (i := 175) rfl)) rfl, inG (mt2 (List.mem_of_getElem? (i := 176) rfl)) rfl⟩
abbrev mX2_isSite : Mt := ((some .boolean), RX2, false, [])
set_option maxRecDepth 20000 in
theorem msX2_isSite : MS yX2_isSite cX2_isSite 1 mX2_isSite 1 := ⟨⟨inG (mt2 (List.mem_of_getElem? (i := 180) rfl)) rfl, gi_RX2, ⟨by decide +kernel, by decide +kernel⟩, by decide +kernel, by decide +kernel, by decide, by decide⟩, inG (mt2 (List.mem_of_getElem? (i := 179) rfl)) rfl⟩
abbrev mX0_isFull : Mt := ((some .boolean), RX0, false, [])
set_option maxRecDepth 20000 in
theorem mvX0_isFull : MV yX0_isFull cX0_isFull 1 mX0_isFull 0 := ⟨⟨inG (mt3 (List.mem_of_getElem? (i := 34) rfl)) rfl, gi_RX0, ⟨by decide +kernel, by decide +kernel⟩, by decide +kernel, by decide +kernel, by decide, by decide⟩, inG (mt3 (List.mem_of_getElem? (i := 32) rfl)) rfl, inG (mt3 (List.mem_of_getElem? (i := 33) rfl)) rfl⟩
abbrev mX1_save : Mt := (none, RX1, false, [])
set_option maxRecDepth 20000 in
theorem mvX1_save : MV yX1_save cX1_save 2 mX1_save 1 := ⟨⟨inG (mt3 (List.mem_of_getElem? (i := 54) rfl)) rfl, gi_RX1, ⟨by decide +kernel, by decide +kernel⟩, by decide +kernel, by decide +kernel, by decide, by decide⟩, inG (mt3 (List.mem_of_getElem? (i := 52) rfl)) rfl, inG (mt3 (List.mem_of_getElem? (i := 53) rfl)) rfl⟩
abbrev mX5_take : Mt := (none, RX5, false, [])
set_option maxRecDepth 20000 in
theorem mvX5_take : MV yX5_take cX5_take 6 mX5_take 1 := ⟨⟨inG (mt3 (List.mem_of_getElem? (i := 58) rfl)) rfl, gi_RX5, ⟨by decide +kernel, by decide +kernel⟩, by decide +kernel, by decide +kernel, by decide, by decide⟩, inG (mt3 (List.mem_of_getElem? (i := 56) rfl)) rfl, inG (mt3 (List.mem_of_getElem? (i := 57) rfl)) rfl⟩
abbrev mX9_length : Mt := ((some .int), RX9, false, [])
set_option maxRecDepth 20000 in
theorem mvX9_length : MV yX9_length cX9_length 1 mX9_length 0 := ⟨⟨inG (mt3 (List.mem_of_getElem? (i := 62) rfl)) rfl, gi_RX9, ⟨by decide +kernel, by decide +kernel⟩, by decide +kernel, by decide +kernel, by decide, by decide⟩, inG (mt3 (List.mem_of_getElem? (i := 60) rfl)) rfl, inG (mt3 (List.mem_of_getElem? (i := 61) rfl)) rfl⟩
abbrev mX9_at : Mt := ((some .int), RX9, false, [])
set_option maxRecDepth 20000 in
theorem mvX9_at : MV yX9_at cX9_at 2 mX9_at 1 := ⟨⟨inG (mt2 (List.mem_of_getElem? (i := 149) rfl)) rfl, gi_RX9, ⟨by decide +kernel, by decide +kernel⟩, by decide +kernel, by decide +kernel, by decide, by decide⟩, inG (mt2 (List.mem_of_getElem? (i := 147) rfl)) rfl, inG (mt2 (List.mem_of_getElem? (i := 148) rfl)) rfl⟩
abbrev mX9_has : Mt := ((some .boolean), RX9, false, [])
set_option maxRecDepth 20000 in
theorem mvX9_has : MV yX9_has cX9_has 2 mX9_has 1 := ⟨⟨inG (mt2 (List.mem_of_getElem? (i := 153) rfl)) rfl, gi_RX9, ⟨by decide +kernel, by decide +kernel⟩, by decide +kernel, by decide +kernel, by decide, by decide⟩, inG (mt2 (List.mem_of_getElem? (i := 151) rfl)) rfl, inG (mt2 (List.mem_of_getElem? (i := 152) rfl)) rfl⟩
abbrev mX9_begin : Mt := (none, RX9, false, [])
set_option maxRecDepth 20000 in
theorem mvX9_begin : MV yX9_begin cX9_begin 2 mX9_begin 1 := ⟨⟨inG (mt3 (List.mem_of_getElem? (i := 67) rfl)) rfl, gi_RX9, ⟨by decide +kernel, by decide +kernel⟩, by decide +kernel, by decide +kernel, by decide, by decide⟩, inG (mt3 (List.mem_of_getElem? (i := 65) rfl)) rfl, inG (mt3 (List.mem_of_getElem? (i := 66) rfl)) rfl⟩
abbrev mX9_clear : Mt := (none, RX9, false, [])
set_option maxRecDepth 20000 in
theorem mvX9_clear : MV yX9_clear cX9_clear 1 mX9_clear 0 := ⟨⟨inG (mt3 (List.mem_of_getElem? (i := 71) rfl)) rfl, gi_RX9, ⟨by decide +kernel, by decide +kernel⟩, by decide +kernel, by decide +kernel, by decide, by decide⟩, inG (mt3 (List.mem_of_getElem? (i := 69) rfl)) rfl, inG (mt3 (List.mem_of_getElem? (i := 70) rfl)) rfl⟩
abbrev mX9_push : Mt := (none, RX9, false, [])
set_option maxRecDepth 20000 in
theorem mvX9_push : MV yX9_push cX9_push 2 mX9_push 1 := ⟨⟨inG (mt3 (List.mem_of_getElem? (i := 75) rfl)) rfl, gi_RX9, ⟨by decide +kernel, by decide +kernel⟩, by decide +kernel, by decide +kernel, by decide, by decide⟩, inG (mt3 (List.mem_of_getElem? (i := 73) rfl)) rfl, inG (mt3 (List.mem_of_getElem? (i := 74) rfl)) rfl⟩
abbrev mX9_isFull : Mt := ((some .boolean), RX9, false, [])
set_option maxRecDepth 20000 in
theorem mvX9_isFull : MV yX9_isFull cX9_isFull 1 mX9_isFull 0 := ⟨⟨inG (mt3 (List.mem_of_getElem? (i := 79) rfl)) rfl, gi_RX9, ⟨by decide +kernel, by decide +kernel⟩, by decide +kernel, by decide +kernel, by decide, by decide⟩, inG (mt3 (List.mem_of_getElem? (i := 77) rfl)) rfl, inG (mt3 (List.mem_of_getElem? (i := 78) rfl)) rfl⟩
abbrev mX0_add : Mt := ((some .int), RX0, false, [])
set_option maxRecDepth 20000 in
theorem mvX0_add : MV yX0_add cX0_add 3 mX0_add 1 := ⟨⟨inG (mt3 (List.mem_of_getElem? (i := 83) rfl)) rfl, gi_RX0, ⟨by decide +kernel, by decide +kernel⟩, by decide +kernel, by decide +kernel, by decide, by decide⟩, inG (mt3 (List.mem_of_getElem? (i := 81) rfl)) rfl, inG (mt3 (List.mem_of_getElem? (i := 82) rfl)) rfl⟩
abbrev mX9_copyFrom : Mt := (none, RX9, false, [])
set_option maxRecDepth 20000 in
theorem mvX9_copyFrom : MV yX9_copyFrom cX9_copyFrom 4 mX9_copyFrom 2 := ⟨⟨inG (mt3 (List.mem_of_getElem? (i := 87) rfl)) rfl, gi_RX9, ⟨by decide +kernel, by decide +kernel⟩, by decide +kernel, by decide +kernel, by decide, by decide⟩, inG (mt3 (List.mem_of_getElem? (i := 85) rfl)) rfl, inG (mt3 (List.mem_of_getElem? (i := 86) rfl)) rfl⟩
abbrev mX0_markSites : Mt := (none, RX0, false, [])
set_option maxRecDepth 20000 in
theorem mvX0_markSites : MV yX0_markSites cX0_markSites 4 mX0_markSites 0 := ⟨⟨inG (mt3 (List.mem_of_getElem? (i := 91) rfl)) rfl, gi_RX0, ⟨by decide +kernel, by decide +kernel⟩, by decide +kernel, by decide +kernel, by decide, by decide⟩, inG (mt3 (List.mem_of_getElem? (i := 89) rfl)) rfl, inG (mt3 (List.mem_of_getElem? (i := 90) rfl)) rfl⟩
abbrev mX0_mark : Mt := (none, RX0, false, [])
set_option maxRecDepth 20000 in
theorem mvX0_mark : MV yX0_mark cX0_mark 4 mX0_mark 3 := ⟨⟨inG (mt3 (List.mem_of_getElem? (i := 97) rfl)) rfl, gi_RX0, ⟨by decide +kernel, by decide +kernel⟩, by decide +kernel, by decide +kernel, by decide, by decide⟩, inG (mt3 (List.mem_of_getElem? (i := 96) rfl)) rfl, inG (mp_ (List.mem_of_getElem? (i := 1) rfl)) rfl⟩
abbrev mX12_start : Mt := ((some .int), RX12, false, [])
set_option maxRecDepth 20000 in
theorem mvX12_start : MV yX12_start cX12_start 3 mX12_start 2 := ⟨⟨inG (mt6 (List.mem_of_getElem? (i := 86) rfl)) rfl, gi_RX12, ⟨by decide +kernel, by decide +kernel⟩, by decide +kernel, by decide +kernel, by decide, by decide⟩, inG (mt6 (List.mem_of_getElem? (i := 84) rfl)) rfl, inG (mt6 (List.mem_of_getElem? (i := 85) rfl)) rfl⟩
abbrev mX12_within : Mt := ((some .boolean), RX12, false, [])
set_option maxRecDepth 20000 in
theorem msX12_within : MS yX12_within cX12_within 3 mX12_within 3 := ⟨⟨inG (mt6 (List.mem_of_getElem? (i := 74) rfl)) rfl, gi_RX12, ⟨by decide +kernel, by decide +kernel⟩, by decide +kernel, by decide +kernel, by decide, by decide⟩, inG (mt6 (List.mem_of_getElem? (i := 73) rfl)) rfl⟩
abbrev mX12_fails : Mt := ((some .int), RX12, false, [])
set_option maxRecDepth 20000 in
theorem mvX12_fails : MV yX12_fails cX12_fails 2 mX12_fails 1 := ⟨⟨inG (mt6 (List.mem_of_getElem? (i := 67) rfl)) rfl, gi_RX12, ⟨by decide +kernel, by decide +kernel⟩, by decide +kernel, by decide +kernel, by decide, by decide⟩, inG (mt6 (List.mem_of_getElem? (i := 66) rfl)) rfl, inG (mp_ (List.mem_of_getElem? (i := 15) rfl)) rfl⟩
abbrev mX12_lay : Mt := (none, RX12, false, [])
set_option maxRecDepth 20000 in
theorem mvX12_lay : MV yX12_lay cX12_lay 3 mX12_lay 0 := ⟨⟨inG (mt6 (List.mem_of_getElem? (i := 90) rfl)) rfl, gi_RX12, ⟨by decide +kernel, by decide +kernel⟩, by decide +kernel, by decide +kernel, by decide, by decide⟩, inG (mt6 (List.mem_of_getElem? (i := 89) rfl)) rfl, inG (mp_ (List.mem_of_getElem? (i := 17) rfl)) rfl⟩
abbrev mX12_lengthOf : Mt := ((some .int), RX12, false, [])
set_option maxRecDepth 20000 in
theorem mvX12_lengthOf : MV yX12_lengthOf cX12_lengthOf 2 mX12_lengthOf 1 := ⟨⟨inG (mt6 (List.mem_of_getElem? (i := 94) rfl)) rfl, gi_RX12, ⟨by decide +kernel, by decide +kernel⟩, by decide +kernel, by decide +kernel, by decide, by decide⟩, inG (mt6 (List.mem_of_getElem? (i := 93) rfl)) rfl, inG (mp_ (List.mem_of_getElem? (i := 18) rfl)) rfl⟩
abbrev mX12_siteOf : Mt := ((some .int), RX12, false, [])
set_option maxRecDepth 20000 in
theorem mvX12_siteOf : MV yX12_siteOf cX12_siteOf 3 mX12_siteOf 2 := ⟨⟨inG (mt6 (List.mem_of_getElem? (i := 98) rfl)) rfl, gi_RX12, ⟨by decide +kernel, by decide +kernel⟩, by decide +kernel, by decide +kernel, by decide, by decide⟩, inG (mt6 (List.mem_of_getElem? (i := 97) rfl)) rfl, inG (mp_ (List.mem_of_getElem? (i := 19) rfl)) rfl⟩
abbrev mX12_save : Mt := (none, RX12, false, [])
set_option maxRecDepth 20000 in
theorem mvX12_save : MV yX12_save cX12_save 2 mX12_save 0 := ⟨⟨inG (mt6 (List.mem_of_getElem? (i := 82) rfl)) rfl, gi_RX12, ⟨by decide +kernel, by decide +kernel⟩, by decide +kernel, by decide +kernel, by decide, by decide⟩, inG (mt6 (List.mem_of_getElem? (i := 81) rfl)) rfl, inG (mp_ (List.mem_of_getElem? (i := 16) rfl)) rfl⟩
abbrev mX12_addPath : Mt := ((some .int), RX12, false, [])
set_option maxRecDepth 20000 in
theorem mvX12_addPath : MV yX12_addPath cX12_addPath 3 mX12_addPath 0 := ⟨⟨inG (mt6 (List.mem_of_getElem? (i := 102) rfl)) rfl, gi_RX12, ⟨by decide +kernel, by decide +kernel⟩, by decide +kernel, by decide +kernel, by decide, by decide⟩, inG (mt6 (List.mem_of_getElem? (i := 101) rfl)) rfl, inG (mp_ (List.mem_of_getElem? (i := 20) rfl)) rfl⟩
abbrev mX12_setSite : Mt := (none, RX12, false, [])
set_option maxRecDepth 20000 in
theorem mvX12_setSite : MV yX12_setSite cX12_setSite 4 mX12_setSite 3 := ⟨⟨inG (mt6 (List.mem_of_getElem? (i := 106) rfl)) rfl, gi_RX12, ⟨by decide +kernel, by decide +kernel⟩, by decide +kernel, by decide +kernel, by decide, by decide⟩, inG (mt6 (List.mem_of_getElem? (i := 105) rfl)) rfl, inG (mp_ (List.mem_of_getElem? (i := 21) rfl)) rfl⟩
abbrev mX12_thrown : Mt := ((some .int), RX12, false, [])
set_option maxRecDepth 20000 in
theorem mvX12_thrown : MV yX12_thrown cX12_thrown 1 mX12_thrown 0 := ⟨⟨inG (mt6 (List.mem_of_getElem? (i := 59) rfl)) rfl, gi_RX12, ⟨by decide +kernel, by decide +kernel⟩, by decide +kernel, by decide +kernel, by decide, by decide⟩, inG (mt6 (List.mem_of_getElem? (i := 57) rfl)) rfl, inG (mt6 (List.mem_of_getElem? (i := 58) rfl)) rfl⟩
abbrev mL_step : Mt := ((some .int), RL, false, [(0, 10, 13, 13), (0, 10, 17, 20)])
set_option maxRecDepth 20000 in
theorem msL_step : MS yL_step cL_step 5 mL_step 4 := ⟨⟨inG (mt3 (List.mem_of_getElem? (i := 100) rfl)) rfl, gi_RL, ⟨by decide +kernel, by decide +kernel⟩, by decide +kernel, by decide +kernel, by decide, by decide⟩, inG (mt3 (List.mem_of_getElem? (i := 99) rfl)) rfl⟩
abbrev mX11_step : Mt := ((some .int), RX11, false, [])
set_option maxRecDepth 20000 in
theorem mvX11_step : MV yX11_step cX11_step 3 mX11_step 2 := ⟨⟨inG (mt3 (List.mem_of_getElem? (i := 105) rfl)) rfl, gi_RX11, ⟨by decide +kernel, by decide +kernel⟩, by decide +kernel, by decide +kernel, by decide, by decide⟩, inG (mt3 (List.mem_of_getElem? (i := 103) rfl)) rfl, inG (mt3 (List.mem_of_getElem? (i := 104) rfl)) rfl⟩
abbrev mX11_checkPath : Mt := (none, RX11, false, [])
set_option maxRecDepth 20000 in
theorem mvX11_checkPath : MV yX11_checkPath cX11_checkPath 2 mX11_checkPath 1 := ⟨⟨inG (mt3 (List.mem_of_getElem? (i := 109) rfl)) rfl, gi_RX11, ⟨by decide +kernel, by decide +kernel⟩, by decide +kernel, by decide +kernel, by decide, by decide⟩, inG (mt3 (List.mem_of_getElem? (i := 108) rfl)) rfl, inG (mp_ (List.mem_of_getElem? (i := 2) rfl)) rfl⟩
abbrev mX0_pathCount : Mt := ((some .int), RX0, false, [])
set_option maxRecDepth 20000 in
theorem mvX0_pathCount : MV yX0_pathCount cX0_pathCount 1 mX0_pathCount 0 := ⟨⟨inG (mt2 (List.mem_of_getElem? (i := 137) rfl)) rfl, gi_RX0, ⟨by decide +kernel, by decide +kernel⟩, by decide +kernel, by decide +kernel, by decide, by decide⟩, inG (mt2 (List.mem_of_getElem? (i := 135) rfl)) rfl, inG (mt2 (List.mem_of_getElem? (i := 136) rfl)) rfl⟩
abbrev mX11_checkDirection : Mt := (none, RX11, false, [])
set_option maxRecDepth 20000 in
theorem msX11_checkDirection : MS yX11_checkDirection cX11_checkDirection 1 mX11_checkDirection 1 := ⟨⟨inG (mt3 (List.mem_of_getElem? (i := 113) rfl)) rfl, gi_RX11, ⟨by decide +kernel, by decide +kernel⟩, by decide +kernel, by decide +kernel, by decide, by decide⟩, inG (mt3 (List.mem_of_getElem? (i := 112) rfl)) rfl⟩
abbrev mX11_checkRange : Mt := (none, RX11, false, [])
set_option maxRecDepth 20000 in
theorem msX11_checkRange : MS yX11_checkRange cX11_checkRange 3 mX11_checkRange 3 := ⟨⟨inG (mt3 (List.mem_of_getElem? (i := 116) rfl)) rfl, gi_RX11, ⟨by decide +kernel, by decide +kernel⟩, by decide +kernel, by decide +kernel, by decide, by decide⟩, inG (mt3 (List.mem_of_getElem? (i := 115) rfl)) rfl⟩
abbrev mX0_lengthen : Mt := ((some .int), RX0, false, [])
set_option maxRecDepth 20000 in
theorem mvX0_lengthen : MV yX0_lengthen cX0_lengthen 6 mX0_lengthen 2 := ⟨⟨inG (mt3 (List.mem_of_getElem? (i := 136) rfl)) rfl, gi_RX0, ⟨by decide +kernel, by decide +kernel⟩, by decide +kernel, by decide +kernel, by decide, by decide⟩, inG (mt3 (List.mem_of_getElem? (i := 134) rfl)) rfl, inG (mt3 (List.mem_of_getElem? (i := 135) rfl)) rfl⟩
abbrev mX9_head : Mt := ((some .int), RX9, false, [])
set_option maxRecDepth 20000 in
theorem mvX9_head : MV yX9_head cX9_head 1 mX9_head 0 := ⟨⟨inG (mt2 (List.mem_of_getElem? (i := 145) rfl)) rfl, gi_RX9, ⟨by decide +kernel, by decide +kernel⟩, by decide +kernel, by decide +kernel, by decide, by decide⟩, inG (mt2 (List.mem_of_getElem? (i := 143) rfl)) rfl, inG (mt2 (List.mem_of_getElem? (i := 144) rfl)) rfl⟩
abbrev mX2_neighbour : Mt := ((some .int), RX2, false, [])
set_option maxRecDepth 20000 in
theorem msX2_neighbour : MS yX2_neighbour cX2_neighbour 2 mX2_neighbour 2 := ⟨⟨inG (mt2 (List.mem_of_getElem? (i := 160) rfl)) rfl, gi_RX2, ⟨by decide +kernel, by decide +kernel⟩, by decide +kernel, by decide +kernel, by decide, by decide⟩, inG (mt2 (List.mem_of_getElem? (i := 159) rfl)) rfl⟩
abbrev mX2_column : Mt := ((some .int), RX2, false, [])
set_option maxRecDepth 20000 in
theorem msX2_column : MS yX2_column cX2_column 1 mX2_column 1 := ⟨⟨inG (mt2 (List.mem_of_getElem? (i := 163) rfl)) rfl, gi_RX2, ⟨by decide +kernel, by decide +kernel⟩, by decide +kernel, by decide +kernel, by decide, by decide⟩, inG (mt2 (List.mem_of_getElem? (i := 162) rfl)) rfl⟩
abbrev mX2_row : Mt := ((some .int), RX2, false, [])
set_option maxRecDepth 20000 in
theorem msX2_row : MS yX2_row cX2_row 1 mX2_row 1 := ⟨⟨inG (mt2 (List.mem_of_getElem? (i := 168) rfl)) rfl, gi_RX2, ⟨by decide +kernel, by decide +kernel⟩, by decide +kernel, by decide +kernel, by decide, by decide⟩, inG (mt2 (List.mem_of_getElem? (i := 167) rfl)) rfl⟩
abbrev mX0_refusalAt : Mt := ((some .int), RX0, false, [])
set_option maxRecDepth 20000 in
theorem mvX0_refusalAt : MV yX0_refusalAt cX0_refusalAt 3 mX0_refusalAt 2 := ⟨⟨inG (mt3 (List.mem_of_getElem? (i := 141) rfl)) rfl, gi_RX0, ⟨by decide +kernel, by decide +kernel⟩, by decide +kernel, by decide +kernel, by decide, by decide⟩, inG (mt3 (List.mem_of_getElem? (i := 140) rfl)) rfl, inG (mp_ (List.mem_of_getElem? (i := 3) rfl)) rfl⟩
abbrev mX0_pathAt : Mt := ((some .int), RX0, false, [])
set_option maxRecDepth 20000 in
theorem mvX0_pathAt : MV yX0_pathAt cX0_pathAt 2 mX0_pathAt 1 := ⟨⟨inG (mt3 (List.mem_of_getElem? (i := 145) rfl)) rfl, gi_RX0, ⟨by decide +kernel, by decide +kernel⟩, by decide +kernel, by decide +kernel, by decide, by decide⟩, inG (mt3 (List.mem_of_getElem? (i := 143) rfl)) rfl, inG (mt3 (List.mem_of_getElem? (i := 144) rfl)) rfl⟩
abbrev mX0_noteStep : Mt := (none, RX0, false, [])
set_option maxRecDepth 20000 in
theorem mvX0_noteStep : MV yX0_noteStep cX0_noteStep 2 mX0_noteStep 1 := ⟨⟨inG (mt3 (List.mem_of_getElem? (i := 151) rfl)) rfl, gi_RX0, ⟨by decide +kernel, by decide +kernel⟩, by decide +kernel, by decide +kernel, by decide, by decide⟩, inG (mt3 (List.mem_of_getElem? (i := 150) rfl)) rfl, inG (mp_ (List.mem_of_getElem? (i := 4) rfl)) rfl⟩
abbrev mX12_step : Mt := ((some .int), RX12, false, [])
set_option maxRecDepth 20000 in
theorem mvX12_step : MV yX12_step cX12_step 5 mX12_step 2 := ⟨⟨inG (mt6 (List.mem_of_getElem? (i := 110) rfl)) rfl, gi_RX12, ⟨by decide +kernel, by decide +kernel⟩, by decide +kernel, by decide +kernel, by decide, by decide⟩, inG (mt6 (List.mem_of_getElem? (i := 108) rfl)) rfl, inG (mt6 (List.mem_of_getElem? (i := 109) rfl)) rfl⟩
abbrev mX12_isPath : Mt := ((some .boolean), RX12, false, [])
set_option maxRecDepth 20000 in
theorem mvX12_isPath : MV yX12_isPath cX12_isPath 2 mX12_isPath 1 := ⟨⟨inG (mt6 (List.mem_of_getElem? (i := 114) rfl)) rfl, gi_RX12, ⟨by decide +kernel, by decide +kernel⟩, by decide +kernel, by decide +kernel, by decide, by decide⟩, inG (mt6 (List.mem_of_getElem? (i := 113) rfl)) rfl, inG (mp_ (List.mem_of_getElem? (i := 22) rfl)) rfl⟩
abbrev mX12_headOf : Mt := ((some .int), RX12, false, [])
set_option maxRecDepth 20000 in
theorem mvX12_headOf : MV yX12_headOf cX12_headOf 2 mX12_headOf 1 := ⟨⟨inG (mt6 (List.mem_of_getElem? (i := 118) rfl)) rfl, gi_RX12, ⟨by decide +kernel, by decide +kernel⟩, by decide +kernel, by decide +kernel, by decide, by decide⟩, inG (mt6 (List.mem_of_getElem? (i := 117) rfl)) rfl, inG (mp_ (List.mem_of_getElem? (i := 23) rfl)) rfl⟩
abbrev mX12_next : Mt := ((some .int), RX12, false, [])
set_option maxRecDepth 20000 in
theorem msX12_next : MS yX12_next cX12_next 4 mX12_next 2 := ⟨⟨inG (mt6 (List.mem_of_getElem? (i := 121) rfl)) rfl, gi_RX12, ⟨by decide +kernel, by decide +kernel⟩, by decide +kernel, by decide +kernel, by decide, by decide⟩, inG (mt6 (List.mem_of_getElem? (i := 120) rfl)) rfl⟩
abbrev mX12_reason : Mt := ((some .int), RX12, false, [])
set_option maxRecDepth 20000 in
theorem mvX12_reason : MV yX12_reason cX12_reason 3 mX12_reason 2 := ⟨⟨inG (mt6 (List.mem_of_getElem? (i := 125) rfl)) rfl, gi_RX12, ⟨by decide +kernel, by decide +kernel⟩, by decide +kernel, by decide +kernel, by decide, by decide⟩, inG (mt6 (List.mem_of_getElem? (i := 124) rfl)) rfl, inG (mp_ (List.mem_of_getElem? (i := 24) rfl)) rfl⟩
abbrev mL_back : Mt := ((some .int), RL, false, [(0, 9, 12, 13), (0, 9, 15, 15)])
set_option maxRecDepth 20000 in
theorem msL_back : MS yL_back cL_back 4 mL_back 3 := ⟨⟨inG (mt3 (List.mem_of_getElem? (i := 154) rfl)) rfl, gi_RL, ⟨by decide +kernel, by decide +kernel⟩, by decide +kernel, by decide +kernel, by decide, by decide⟩, inG (mt3 (List.mem_of_getElem? (i := 153) rfl)) rfl⟩
abbrev mX11_back : Mt := ((some .int), RX11, false, [])
set_option maxRecDepth 20000 in
theorem mvX11_back : MV yX11_back cX11_back 2 mX11_back 1 := ⟨⟨inG (mt3 (List.mem_of_getElem? (i := 158) rfl)) rfl, gi_RX11, ⟨by decide +kernel, by decide +kernel⟩, by decide +kernel, by decide +kernel, by decide, by decide⟩, inG (mt3 (List.mem_of_getElem? (i := 156) rfl)) rfl, inG (mt3 (List.mem_of_getElem? (i := 157) rfl)) rfl⟩
abbrev mX0_trail : Mt := ((some (.object "LatticePaths$Trail")), RX0, false, [])
set_option maxRecDepth 20000 in
theorem mvX0_trail : MV yX0_trail cX0_trail 2 mX0_trail 1 := ⟨⟨inG (mt2 (List.mem_of_getElem? (i := 141) rfl)) rfl, gi_RX0, ⟨by decide +kernel, by decide +kernel⟩, by decide +kernel, by decide +kernel, by decide, by decide⟩, inG (mt2 (List.mem_of_getElem? (i := 139) rfl)) rfl, inG (mt2 (List.mem_of_getElem? (i := 140) rfl)) rfl⟩
abbrev mX0_shorten : Mt := ((some .int), RX0, false, [])
set_option maxRecDepth 20000 in
theorem mvX0_shorten : MV yX0_shorten cX0_shorten 3 mX0_shorten 1 := ⟨⟨inG (mt3 (List.mem_of_getElem? (i := 164) rfl)) rfl, gi_RX0, ⟨by decide +kernel, by decide +kernel⟩, by decide +kernel, by decide +kernel, by decide, by decide⟩, inG (mt3 (List.mem_of_getElem? (i := 162) rfl)) rfl, inG (mt3 (List.mem_of_getElem? (i := 163) rfl)) rfl⟩
abbrev mX9_endAt : Mt := (none, RX9, false, [])
set_option maxRecDepth 20000 in
theorem mvX9_endAt : MV yX9_endAt cX9_endAt 2 mX9_endAt 1 := ⟨⟨inG (mt3 (List.mem_of_getElem? (i := 168) rfl)) rfl, gi_RX9, ⟨by decide +kernel, by decide +kernel⟩, by decide +kernel, by decide +kernel, by decide, by decide⟩, inG (mt3 (List.mem_of_getElem? (i := 166) rfl)) rfl, inG (mt3 (List.mem_of_getElem? (i := 167) rfl)) rfl⟩
abbrev mX12_back : Mt := ((some .int), RX12, false, [])
set_option maxRecDepth 20000 in
theorem mvX12_back : MV yX12_back cX12_back 2 mX12_back 1 := ⟨⟨inG (mt6 (List.mem_of_getElem? (i := 129) rfl)) rfl, gi_RX12, ⟨by decide +kernel, by decide +kernel⟩, by decide +kernel, by decide +kernel, by decide, by decide⟩, inG (mt6 (List.mem_of_getElem? (i := 127) rfl)) rfl, inG (mt6 (List.mem_of_getElem? (i := 128) rfl)) rfl⟩
abbrev mL_slither : Mt := ((some .int), RL, false, [(0, 10, 13, 13), (0, 10, 17, 20)])
set_option maxRecDepth 20000 in
theorem msL_slither : MS yL_slither cL_slither 5 mL_slither 4 := ⟨⟨inG (mt3 (List.mem_of_getElem? (i := 171) rfl)) rfl, gi_RL, ⟨by decide +kernel, by decide +kernel⟩, by decide +kernel, by decide +kernel, by decide, by decide⟩, inG (mt3 (List.mem_of_getElem? (i := 170) rfl)) rfl⟩
abbrev mX11_slither : Mt := ((some .int), RX11, false, [])
set_option maxRecDepth 20000 in
theorem mvX11_slither : MV yX11_slither cX11_slither 3 mX11_slither 2 := ⟨⟨inG (mt3 (List.mem_of_getElem? (i := 175) rfl)) rfl, gi_RX11, ⟨by decide +kernel, by decide +kernel⟩, by decide +kernel, by decide +kernel, by decide, by decide⟩, inG (mt3 (List.mem_of_getElem? (i := 173) rfl)) rfl, inG (mt3 (List.mem_of_getElem? (i := 174) rfl)) rfl⟩
abbrev mX0_creep : Mt := ((some .int), RX0, false, [])
set_option maxRecDepth 20000 in
theorem mvX0_creep : MV yX0_creep cX0_creep 6 mX0_creep 2 := ⟨⟨inG (mt3 (List.mem_of_getElem? (i := 179) rfl)) rfl, gi_RX0, ⟨by decide +kernel, by decide +kernel⟩, by decide +kernel, by decide +kernel, by decide, by decide⟩, inG (mt3 (List.mem_of_getElem? (i := 177) rfl)) rfl, inG (mt3 (List.mem_of_getElem? (i := 178) rfl)) rfl⟩
abbrev mX9_tail : Mt := ((some .int), RX9, false, [])
set_option maxRecDepth 20000 in
theorem mvX9_tail : MV yX9_tail cX9_tail 1 mX9_tail 0 := ⟨⟨inG (mt3 (List.mem_of_getElem? (i := 183) rfl)) rfl, gi_RX9, ⟨by decide +kernel, by decide +kernel⟩, by decide +kernel, by decide +kernel, by decide, by decide⟩, inG (mt3 (List.mem_of_getElem? (i := 181) rfl)) rfl, inG (mt3 (List.mem_of_getElem? (i := 182) rfl)) rfl⟩
abbrev mX9_advanceTo : Mt := (none, RX9, false, [])
set_option maxRecDepth 20000 in
theorem mvX9_advanceTo : MV yX9_advanceTo cX9_advanceTo 3 mX9_advanceTo 1 := ⟨⟨inG (mt3 (List.mem_of_getElem? (i := 187) rfl)) rfl, gi_RX9, ⟨by decide +kernel, by decide +kernel⟩, by decide +kernel, by decide +kernel, by decide, by decide⟩, inG (mt3 (List.mem_of_getElem? (i := 185) rfl)) rfl, inG (mt3 (List.mem_of_getElem? (i := 186) rfl)) rfl⟩
abbrev mX9_put : Mt := (none, RX9, false, [])
set_option maxRecDepth 20000 in
theorem mvX9_put : MV yX9_put cX9_put 3 mX9_put 2 := ⟨⟨inG (mt3 (List.mem_of_getElem? (i := 191) rfl)) rfl, gi_RX9, ⟨by decide +kernel, by decide +kernel⟩, by decide +kernel, by decide +kernel, by decide, by decide⟩, inG (mt3 (List.mem_of_getElem? (i := 189) rfl)) rfl, inG (mt3 (List.mem_of_getElem? (i := 190) rfl)) rfl⟩
abbrev mX12_slither : Mt := ((some .int), RX12, false, [])
set_option maxRecDepth 20000 in
theorem mvX12_slither : MV yX12_slither cX12_slither 6 mX12_slither 2 := ⟨⟨inG (mt6 (List.mem_of_getElem? (i := 133) rfl)) rfl, gi_RX12, ⟨by decide +kernel, by decide +kernel⟩, by decide +kernel, by decide +kernel, by decide, by decide⟩, inG (mt6 (List.mem_of_getElem? (i := 131) rfl)) rfl, inG (mt6 (List.mem_of_getElem? (i := 132) rfl)) rfl⟩
abbrev mX12_takeRow : Mt := (none, RX12, false, [])
set_option maxRecDepth 20000 in
theorem mvX12_takeRow : MV yX12_takeRow cX12_takeRow 3 mX12_takeRow 1 := ⟨⟨inG (mt6 (List.mem_of_getElem? (i := 137) rfl)) rfl, gi_RX12, ⟨by decide +kernel, by decide +kernel⟩, by decide +kernel, by decide +kernel, by decide, by decide⟩, inG (mt6 (List.mem_of_getElem? (i := 136) rfl)) rfl, inG (mp_ (List.mem_of_getElem? (i := 25) rfl)) rfl⟩
abbrev mX12_giveRow : Mt := (none, RX12, false, [])
set_option maxRecDepth 20000 in
theorem mvX12_giveRow : MV yX12_giveRow cX12_giveRow 3 mX12_giveRow 1 := ⟨⟨inG (mt6 (List.mem_of_getElem? (i := 141) rfl)) rfl, gi_RX12, ⟨by decide +kernel, by decide +kernel⟩, by decide +kernel, by decide +kernel, by decide, by decide⟩, inG (mt6 (List.mem_of_getElem? (i := 140) rfl)) rfl, inG (mp_ (List.mem_of_getElem? (i := 26) rfl)) rfl⟩
abbrev mL_turn : Mt := ((some .int), RL, false, [(0, 12, 15, 13), (0, 12, 19, 20)])
set_option maxRecDepth 20000 in
theorem msL_turn : MS yL_turn cL_turn 6 mL_turn 5 := ⟨⟨inG (mt3 (List.mem_of_getElem? (i := 194) rfl)) rfl, gi_RL, ⟨by decide +kernel, by decide +kernel⟩, by decide +kernel, by decide +kernel, by decide, by decide⟩, inG (mt3 (List.mem_of_getElem? (i := 193) rfl)) rfl⟩
abbrev mX11_turn : Mt := ((some .int), RX11, false, [])
set_option maxRecDepth 20000 in
theorem mvX11_turn : MV yX11_turn cX11_turn 5 mX11_turn 3 := ⟨⟨inG (mt3 (List.mem_of_getElem? (i := 198) rfl)) rfl, gi_RX11, ⟨by decide +kernel, by decide +kernel⟩, by decide +kernel, by decide +kernel, by decide, by decide⟩, inG (mt3 (List.mem_of_getElem? (i := 196) rfl)) rfl, inG (mt3 (List.mem_of_getElem? (i := 197) rfl)) rfl⟩
abbrev mX11_checkPlace : Mt := (none, RX11, false, [])
set_option maxRecDepth 20000 in
theorem mvX11_checkPlace : MV yX11_checkPlace cX11_checkPlace 3 mX11_checkPlace 2 := ⟨⟨inG (mt3 (List.mem_of_getElem? (i := 202) rfl)) rfl, gi_RX11, ⟨by decide +kernel, by decide +kernel⟩, by decide +kernel, by decide +kernel, by decide, by decide⟩, inG (mt3 (List.mem_of_getElem? (i := 201) rfl)) rfl, inG (mp_ (List.mem_of_getElem? (i := 5) rfl)) rfl⟩
abbrev mX11_checkQuarters : Mt := (none, RX11, false, [])
set_option maxRecDepth 20000 in
theorem msX11_checkQuarters : MS yX11_checkQuarters cX11_checkQuarters 1 mX11_checkQuarters 1 := ⟨⟨inG (mt3 (List.mem_of_getElem? (i := 207) rfl)) rfl, gi_RX11, ⟨by decide +kernel, by decide +kernel⟩, by decide +kernel, by decide +kernel, by decide, by decide⟩, inG (mt3 (List.mem_of_getElem? (i := 206) rfl)) rfl⟩
abbrev mX10_refusal : Mt := ((some .int), RX10, false, [])
set_option maxRecDepth 20000 in
theorem mvX10_refusal : MV yX10_refusal cX10_refusal 9 mX10_refusal 4 := ⟨⟨inG (mt3 (List.mem_of_getElem? (i := 211) rfl)) rfl, gi_RX10, ⟨by decide +kernel, by decide +kernel⟩, by decide +kernel, by decide +kernel, by decide, by decide⟩, inG (mt3 (List.mem_of_getElem? (i := 209) rfl)) rfl, inG (mt3 (List.mem_of_getElem? (i := 210) rfl)) rfl⟩
abbrev mX10_land : Mt := ((some .boolean), RX10, false, [])
set_option maxRecDepth 20000 in
theorem mvX10_land : MV yX10_land cX10_land 6 mX10_land 3 := ⟨⟨inG (mt3 (List.mem_of_getElem? (i := 216) rfl)) rfl, gi_RX10, ⟨by decide +kernel, by decide +kernel⟩, by decide +kernel, by decide +kernel, by decide, by decide⟩, inG (mt3 (List.mem_of_getElem? (i := 215) rfl)) rfl, inG (mp_ (List.mem_of_getElem? (i := 6) rfl)) rfl⟩
abbrev mX10_swung : Mt := ((some .int), RX10, false, [])
set_option maxRecDepth 20000 in
theorem msX10_swung : MS yX10_swung cX10_swung 7 mX10_swung 3 := ⟨⟨inG (mt3 (List.mem_of_getElem? (i := 221) rfl)) rfl, gi_RX10, ⟨by decide +kernel, by decide +kernel⟩, by decide +kernel, by decide +kernel, by decide, by decide⟩, inG (mt3 (List.mem_of_getElem? (i := 220) rfl)) rfl⟩
abbrev mX0_placeAt : Mt := ((some .int), RX0, false, [])
set_option maxRecDepth 20000 in
theorem mvX0_placeAt : MV yX0_placeAt cX0_placeAt 2 mX0_placeAt 1 := ⟨⟨inG (mt3 (List.mem_of_getElem? (i := 229) rfl)) rfl, gi_RX0, ⟨by decide +kernel, by decide +kernel⟩, by decide +kernel, by decide +kernel, by decide, by decide⟩, inG (mt3 (List.mem_of_getElem? (i := 227) rfl)) rfl, inG (mt3 (List.mem_of_getElem? (i := 228) rfl)) rfl⟩
abbrev mX0_noteTurn : Mt := (none, RX0, false, [])
set_option maxRecDepth 20000 in
theorem mvX0_noteTurn : MV yX0_noteTurn cX0_noteTurn 2 mX0_noteTurn 1 := ⟨⟨inG (mt3 (List.mem_of_getElem? (i := 233) rfl)) rfl, gi_RX0, ⟨by decide +kernel, by decide +kernel⟩, by decide +kernel, by decide +kernel, by decide, by decide⟩, inG (mt3 (List.mem_of_getElem? (i := 231) rfl)) rfl, inG (mt3 (List.mem_of_getElem? (i := 232) rfl)) rfl⟩
abbrev mX10_moveSites : Mt := (none, RX10, false, [])
set_option maxRecDepth 20000 in
theorem mvX10_moveSites : MV yX10_moveSites cX10_moveSites 6 mX10_moveSites 3 := ⟨⟨inG (mt3 (List.mem_of_getElem? (i := 237) rfl)) rfl, gi_RX10, ⟨by decide +kernel, by decide +kernel⟩, by decide +kernel, by decide +kernel, by decide, by decide⟩, inG (mt3 (List.mem_of_getElem? (i := 235) rfl)) rfl, inG (mt3 (List.mem_of_getElem? (i := 236) rfl)) rfl⟩
abbrev mX12_turn : Mt := ((some .int), RX12, false, [])
set_option maxRecDepth 20000 in
theorem mvX12_turn : MV yX12_turn cX12_turn 6 mX12_turn 3 := ⟨⟨inG (mt6 (List.mem_of_getElem? (i := 145) rfl)) rfl, gi_RX12, ⟨by decide +kernel, by decide +kernel⟩, by decide +kernel, by decide +kernel, by decide, by decide⟩, inG (mt6 (List.mem_of_getElem? (i := 143) rfl)) rfl, inG (mt6 (List.mem_of_getElem? (i := 144) rfl)) rfl⟩
abbrev mX12_isSite : Mt := ((some .boolean), RX12, false, [])
set_option maxRecDepth 20000 in
theorem mvX12_isSite : MV yX12_isSite cX12_isSite 3 mX12_isSite 2 := ⟨⟨inG (mt6 (List.mem_of_getElem? (i := 149) rfl)) rfl, gi_RX12, ⟨by decide +kernel, by decide +kernel⟩, by decide +kernel, by decide +kernel, by decide, by decide⟩, inG (mt6 (List.mem_of_getElem? (i := 148) rfl)) rfl, inG (mp_ (List.mem_of_getElem? (i := 27) rfl)) rfl⟩
abbrev mX12_whyNotTurned : Mt := ((some .int), RX12, false, [])
set_option maxRecDepth 20000 in
theorem mvX12_whyNotTurned : MV yX12_whyNotTurned cX12_whyNotTurned 8 mX12_whyNotTurned 3 := ⟨⟨inG (mt6 (List.mem_of_getElem? (i := 153) rfl)) rfl, gi_RX12, ⟨by decide +kernel, by decide +kernel⟩, by decide +kernel, by decide +kernel, by decide, by decide⟩, inG (mt6 (List.mem_of_getElem? (i := 152) rfl)) rfl, inG (mp_ (List.mem_of_getElem? (i := 28) rfl)) rfl⟩
abbrev mX12_turned : Mt := ((some .int), RX12, false, [])
set_option maxRecDepth 20000 in
theorem msX12_turned : MS yX12_turned cX12_turned 7 mX12_turned 3 := ⟨⟨inG (mt6 (List.mem_of_getElem? (i := 156) rfl)) rfl, gi_RX12, ⟨by decide +kernel, by decide +kernel⟩, by decide +kernel, by decide +kernel, by decide, by decide⟩, inG (mt6 (List.mem_of_getElem? (i := 155) rfl)) rfl⟩
abbrev mL_reverse : Mt := ((some .int), RL, false, [(0, 9, 12, 13)])
set_option maxRecDepth 20000 in
theorem msL_reverse : MS yL_reverse cL_reverse 4 mL_reverse 3 := ⟨⟨inG (mt4 (List.mem_of_getElem? (i := 2) rfl)) rfl, gi_RL, ⟨by decide +kernel, by decide +kernel⟩, by decide +kernel, by decide +kernel, by decide, by decide⟩, inG (mt4 (List.mem_of_getElem? (i := 1) rfl)) rfl⟩
abbrev mX11_reverse : Mt := ((some .int), RX11, false, [])
set_option maxRecDepth 20000 in
theorem mvX11_reverse : MV yX11_reverse cX11_reverse 2 mX11_reverse 1 := ⟨⟨inG (mt4 (List.mem_of_getElem? (i := 6) rfl)) rfl, gi_RX11, ⟨by decide +kernel, by decide +kernel⟩, by decide +kernel, by decide +kernel, by decide, by decide⟩, inG (mt4 (List.mem_of_getElem? (i := 4) rfl)) rfl, inG (mt4 (List.mem_of_getElem? (i := 5) rfl)) rfl⟩
abbrev mX0_flip : Mt := ((some .int), RX0, false, [])
set_option maxRecDepth 20000 in
theorem mvX0_flip : MV yX0_flip cX0_flip 2 mX0_flip 1 := ⟨⟨inG (mt4 (List.mem_of_getElem? (i := 10) rfl)) rfl, gi_RX0, ⟨by decide +kernel, by decide +kernel⟩, by decide +kernel, by decide +kernel, by decide, by decide⟩, inG (mt4 (List.mem_of_getElem? (i := 8) rfl)) rfl, inG (mt4 (List.mem_of_getElem? (i := 9) rfl)) rfl⟩
abbrev mX9_flip : Mt := (none, RX9, false, [])
set_option maxRecDepth 20000 in
theorem mvX9_flip : MV yX9_flip cX9_flip 4 mX9_flip 0 := ⟨⟨inG (mt4 (List.mem_of_getElem? (i := 14) rfl)) rfl, gi_RX9, ⟨by decide +kernel, by decide +kernel⟩, by decide +kernel, by decide +kernel, by decide, by decide⟩, inG (mt4 (List.mem_of_getElem? (i := 12) rfl)) rfl, inG (mt4 (List.mem_of_getElem? (i := 13) rfl)) rfl⟩
abbrev mX12_reverse : Mt := ((some .int), RX12, false, [])
set_option maxRecDepth 20000 in
theorem mvX12_reverse : MV yX12_reverse cX12_reverse 2 mX12_reverse 1 := ⟨⟨inG (mt6 (List.mem_of_getElem? (i := 160) rfl)) rfl, gi_RX12, ⟨by decide +kernel, by decide +kernel⟩, by decide +kernel, by decide +kernel, by decide, by decide⟩, inG (mt6 (List.mem_of_getElem? (i := 158) rfl)) rfl, inG (mt6 (List.mem_of_getElem? (i := 159) rfl)) rfl⟩
abbrev mX12_reverseRow : Mt := (none, RX12, false, [])
set_option maxRecDepth 20000 in
theorem mvX12_reverseRow : MV yX12_reverseRow cX12_reverseRow 3 mX12_reverseRow 0 := ⟨⟨inG (mt6 (List.mem_of_getElem? (i := 164) rfl)) rfl, gi_RX12, ⟨by decide +kernel, by decide +kernel⟩, by decide +kernel, by decide +kernel, by decide, by decide⟩, inG (mt6 (List.mem_of_getElem? (i := 163) rfl)) rfl, inG (mp_ (List.mem_of_getElem? (i := 29) rfl)) rfl⟩
abbrev mL_join : Mt := ((some .int), RL, false, [(0, 10, 13, 13), (0, 10, 17, 20), (0, 10, 21, 15)])
set_option maxRecDepth 20000 in
theorem msL_join : MS yL_join cL_join 5 mL_join 4 := ⟨⟨inG (mt4 (List.mem_of_getElem? (i := 17) rfl)) rfl, gi_RL, ⟨by decide +kernel, by decide +kernel⟩, by decide +kernel, by decide +kernel, by decide, by decide⟩, inG (mt4 (List.mem_of_getElem? (i := 16) rfl)) rfl⟩
abbrev mX11_join : Mt := ((some .int), RX11, false, [])
set_option maxRecDepth 20000 in
theorem mvX11_join : MV yX11_join cX11_join 5 mX11_join 2 := ⟨⟨inG (mt4 (List.mem_of_getElem? (i := 21) rfl)) rfl, gi_RX11, ⟨by decide +kernel, by decide +kernel⟩, by decide +kernel, by decide +kernel, by decide, by decide⟩, inG (mt4 (List.mem_of_getElem? (i := 19) rfl)) rfl, inG (mt4 (List.mem_of_getElem? (i := 20) rfl)) rfl⟩
abbrev mX11_checkTwoPaths : Mt := (none, RX11, false, [])
set_option maxRecDepth 20000 in
theorem mvX11_checkTwoPaths : MV yX11_checkTwoPaths cX11_checkTwoPaths 3 mX11_checkTwoPaths 2 := ⟨⟨inG (mt4 (List.mem_of_getElem? (i := 25) rfl)) rfl, gi_RX11, ⟨by decide +kernel, by decide +kernel⟩, by decide +kernel, by decide +kernel, by decide, by decide⟩, inG (mt4 (List.mem_of_getElem? (i := 24) rfl)) rfl, inG (mp_ (List.mem_of_getElem? (i := 7) rfl)) rfl⟩
abbrev mX2_areNeighbours : Mt := ((some .boolean), RX2, false, [])
set_option maxRecDepth 20000 in
theorem msX2_areNeighbours : MS yX2_areNeighbours cX2_areNeighbours 2 mX2_areNeighbours 2 := ⟨⟨inG (mt4 (List.mem_of_getElem? (i := 29) rfl)) rfl, gi_RX2, ⟨by decide +kernel, by decide +kernel⟩, by decide +kernel, by decide +kernel, by decide, by decide⟩, inG (mt4 (List.mem_of_getElem? (i := 28) rfl)) rfl⟩
abbrev mX2_squaredDistance : Mt := ((some .int), RX2, false, [])
set_option maxRecDepth 20000 in
theorem msX2_squaredDistance : MS yX2_squaredDistance cX2_squaredDistance 4 mX2_squaredDistance 2 := ⟨⟨inG (mt4 (List.mem_of_getElem? (i := 32) rfl)) rfl, gi_RX2, ⟨by decide +kernel, by decide +kernel⟩, by decide +kernel, by decide +kernel, by decide, by decide⟩, inG (mt4 (List.mem_of_getElem? (i := 31) rfl)) rfl⟩
abbrev mX0_weld : Mt := ((some .int), RX0, false, [])
set_option maxRecDepth 20000 in
theorem mvX0_weld : MV yX0_weld cX0_weld 6 mX0_weld 2 := ⟨⟨inG (mt4 (List.mem_of_getElem? (i := 37) rfl)) rfl, gi_RX0, ⟨by decide +kernel, by decide +kernel⟩, by decide +kernel, by decide +kernel, by decide, by decide⟩, inG (mt4 (List.mem_of_getElem? (i := 35) rfl)) rfl, inG (mt4 (List.mem_of_getElem? (i := 36) rfl)) rfl⟩
abbrev mX0_drop : Mt := (none, RX0, false, [])
set_option maxRecDepth 20000 in
theorem mvX0_drop : MV yX0_drop cX0_drop 4 mX0_drop 1 := ⟨⟨inG (mt4 (List.mem_of_getElem? (i := 41) rfl)) rfl, gi_RX0, ⟨by decide +kernel, by decide +kernel⟩, by decide +kernel, by decide +kernel, by decide, by decide⟩, inG (mt4 (List.mem_of_getElem? (i := 39) rfl)) rfl, inG (mt4 (List.mem_of_getElem? (i := 40) rfl)) rfl⟩
abbrev mX12_join : Mt := ((some .int), RX12, false, [])
set_option maxRecDepth 20000 in
theorem mvX12_join : MV yX12_join cX12_join 6 mX12_join 2 := ⟨⟨inG (mt6 (List.mem_of_getElem? (i := 168) rfl)) rfl, gi_RX12, ⟨by decide +kernel, by decide +kernel⟩, by decide +kernel, by decide +kernel, by decide, by decide⟩, inG (mt6 (List.mem_of_getElem? (i := 166) rfl)) rfl, inG (mt6 (List.mem_of_getElem? (i := 167) rfl)) rfl⟩
abbrev mX12_direction : Mt := ((some .int), RX12, false, [])
set_option maxRecDepth 20000 in
theorem msX12_direction : MS yX12_direction cX12_direction 3 mX12_direction 2 := ⟨⟨inG (mt6 (List.mem_of_getElem? (i := 171) rfl)) rfl, gi_RX12, ⟨by decide +kernel, by decide +kernel⟩, by decide +kernel, by decide +kernel, by decide, by decide⟩, inG (mt6 (List.mem_of_getElem? (i := 170) rfl)) rfl⟩
abbrev mX12_dropPath : Mt := (none, RX12, false, [])
set_option maxRecDepth 20000 in
theorem mvX12_dropPath : MV yX12_dropPath cX12_dropPath 3 mX12_dropPath 1 := ⟨⟨inG (mt6 (List.mem_of_getElem? (i := 175) rfl)) rfl, gi_RX12, ⟨by decide +kernel, by decide +kernel⟩, by decide +kernel, by decide +kernel, by decide, by decide⟩, inG (mt6 (List.mem_of_getElem? (i := 174) rfl)) rfl, inG (mp_ (List.mem_of_getElem? (i := 30) rfl)) rfl⟩
abbrev mL_split : Mt := ((some .int), RL, false, [(0, 10, 13, 13), (0, 10, 17, 15)])
set_option maxRecDepth 20000 in
theorem msL_split : MS yL_split cL_split 5 mL_split 4 := ⟨⟨inG (mt4 (List.mem_of_getElem? (i := 44) rfl)) rfl, gi_RL, ⟨by decide +kernel, by decide +kernel⟩, by decide +kernel, by decide +kernel, by decide, by decide⟩, inG (mt4 (List.mem_of_getElem? (i := 43) rfl)) rfl⟩
abbrev mX11_split : Mt := ((some .int), RX11, false, [])
set_option maxRecDepth 20000 in
theorem mvX11_split : MV yX11_split cX11_split 3 mX11_split 2 := ⟨⟨inG (mt4 (List.mem_of_getElem? (i := 48) rfl)) rfl, gi_RX11, ⟨by decide +kernel, by decide +kernel⟩, by decide +kernel, by decide +kernel, by decide, by decide⟩, inG (mt4 (List.mem_of_getElem? (i := 46) rfl)) rfl, inG (mt4 (List.mem_of_getElem? (i := 47) rfl)) rfl⟩
abbrev mX0_cut : Mt := ((some .int), RX0, false, [])
set_option maxRecDepth 20000 in
theorem mvX0_cut : MV yX0_cut cX0_cut 4 mX0_cut 2 := ⟨⟨inG (mt4 (List.mem_of_getElem? (i := 54) rfl)) rfl, gi_RX0, ⟨by decide +kernel, by decide +kernel⟩, by decide +kernel, by decide +kernel, by decide, by decide⟩, inG (mt4 (List.mem_of_getElem? (i := 52) rfl)) rfl, inG (mt4 (List.mem_of_getElem? (i := 53) rfl)) rfl⟩
abbrev mX12_split : Mt := ((some .int), RX12, false, [])
set_option maxRecDepth 20000 in
theorem mvX12_split : MV yX12_split cX12_split 4 mX12_split 2 := ⟨⟨inG (mt6 (List.mem_of_getElem? (i := 179) rfl)) rfl, gi_RX12, ⟨by decide +kernel, by decide +kernel⟩, by decide +kernel, by decide +kernel, by decide, by decide⟩, inG (mt6 (List.mem_of_getElem? (i := 177) rfl)) rfl, inG (mt6 (List.mem_of_getElem? (i := 178) rfl)) rfl⟩
abbrev mL_remove : Mt := ((some .int), RL, false, [(0, 9, 12, 13)])
set_option maxRecDepth 20000 in
theorem msL_remove : MS yL_remove cL_remove 4 mL_remove 3 := ⟨⟨inG (mt4 (List.mem_of_getElem? (i := 57) rfl)) rfl, gi_RL, ⟨by decide +kernel, by decide +kernel⟩, by decide +kernel, by decide +kernel, by decide, by decide⟩, inG (mt4 (List.mem_of_getElem? (i := 56) rfl)) rfl⟩
abbrev mX11_remove : Mt := ((some .int), RX11, false, [])
set_option maxRecDepth 20000 in
theorem mvX11_remove : MV yX11_remove cX11_remove 2 mX11_remove 1 := ⟨⟨inG (mt4 (List.mem_of_getElem? (i := 61) rfl)) rfl, gi_RX11, ⟨by decide +kernel, by decide +kernel⟩, by decide +kernel, by decide +kernel, by decide, by decide⟩, inG (mt4 (List.mem_of_getElem? (i := 59) rfl)) rfl, inG (mt4 (List.mem_of_getElem? (i := 60) rfl)) rfl⟩
abbrev mX12_remove : Mt := ((some .int), RX12, false, [])
set_option maxRecDepth 20000 in
theorem mvX12_remove : MV yX12_remove cX12_remove 2 mX12_remove 1 := ⟨⟨inG (mt6 (List.mem_of_getElem? (i := 183) rfl)) rfl, gi_RX12, ⟨by decide +kernel, by decide +kernel⟩, by decide +kernel, by decide +kernel, by decide, by decide⟩, inG (mt6 (List.mem_of_getElem? (i := 181) rfl)) rfl, inG (mt6 (List.mem_of_getElem? (i := 182) rfl)) rfl⟩
abbrev mL_append : Mt := ((some .int), RL, false, [(0, 9, 12, 20), (0, 9, 15, 15)])
set_option maxRecDepth 20000 in
theorem msL_append : MS yL_append cL_append 4 mL_append 3 := ⟨⟨inG (mt4 (List.mem_of_getElem? (i := 65) rfl)) rfl, gi_RL, ⟨by decide +kernel, by decide +kernel⟩, by decide +kernel, by decide +kernel, by decide, by decide⟩, inG (mt4 (List.mem_of_getElem? (i := 64) rfl)) rfl⟩
abbrev mX11_append : Mt := ((some .int), RX11, false, [])
set_option maxRecDepth 20000 in
theorem mvX11_append : MV yX11_append cX11_append 2 mX11_append 1 := ⟨⟨inG (mt4 (List.mem_of_getElem? (i := 69) rfl)) rfl, gi_RX11, ⟨by decide +kernel, by decide +kernel⟩, by decide +kernel, by decide +kernel, by decide, by decide⟩, inG (mt4 (List.mem_of_getElem? (i := 67) rfl)) rfl, inG (mt4 (List.mem_of_getElem? (i := 68) rfl)) rfl⟩
abbrev mX3_isFull : Mt := ((some .boolean), RX3, false, [])
set_option maxRecDepth 20000 in
theorem mvX3_isFull : MV yX3_isFull cX3_isFull 1 mX3_isFull 0 := ⟨⟨inG (mt4 (List.mem_of_getElem? (i := 73) rfl)) rfl, gi_RX3, ⟨by decide +kernel, by decide +kernel⟩, by decide +kernel, by decide +kernel, by decide, by decide⟩, inG (mt4 (List.mem_of_getElem? (i := 71) rfl)) rfl, inG (mt4 (List.mem_of_getElem? (i := 72) rfl)) rfl⟩
abbrev mX3_add : Mt := (none, RX3, false, [])
set_option maxRecDepth 20000 in
theorem mvX3_add : MV yX3_add cX3_add 2 mX3_add 1 := ⟨⟨inG (mt4 (List.mem_of_getElem? (i := 78) rfl)) rfl, gi_RX3, ⟨by decide +kernel, by decide +kernel⟩, by decide +kernel, by decide +kernel, by decide, by decide⟩, inG (mt4 (List.mem_of_getElem? (i := 76) rfl)) rfl, inG (mt4 (List.mem_of_getElem? (i := 77) rfl)) rfl⟩
abbrev mX3_length : Mt := ((some .int), RX3, false, [])
set_option maxRecDepth 20000 in
theorem mvX3_length : MV yX3_length cX3_length 1 mX3_length 0 := ⟨⟨inG (mt2 (List.mem_of_getElem? (i := 26) rfl)) rfl, gi_RX3, ⟨by decide +kernel, by decide +kernel⟩, by decide +kernel, by decide +kernel, by decide, by decide⟩, inG (mt2 (List.mem_of_getElem? (i := 24) rfl)) rfl, inG (mt2 (List.mem_of_getElem? (i := 25) rfl)) rfl⟩
abbrev mX12_append : Mt := ((some .int), RX12, false, [])
set_option maxRecDepth 20000 in
theorem mvX12_append : MV yX12_append cX12_append 2 mX12_append 1 := ⟨⟨inG (mt6 (List.mem_of_getElem? (i := 187) rfl)) rfl, gi_RX12, ⟨by decide +kernel, by decide +kernel⟩, by decide +kernel, by decide +kernel, by decide, by decide⟩, inG (mt6 (List.mem_of_getElem? (i := 185) rfl)) rfl, inG (mt6 (List.mem_of_getElem? (i := 186) rfl)) rfl⟩
abbrev mX11_clearBuffer : Mt := ((some .int), RX11, false, [])
set_option maxRecDepth 20000 in
theorem mvX11_clearBuffer : MV yX11_clearBuffer cX11_clearBuffer 2 mX11_clearBuffer 0 := ⟨⟨inG (mt2 (List.mem_of_getElem? (i := 22) rfl)) rfl, gi_RX11, ⟨by decide +kernel, by decide +kernel⟩, by decide +kernel, by decide +kernel, by decide, by decide⟩, inG (mt2 (List.mem_of_getElem? (i := 20) rfl)) rfl, inG (mt2 (List.mem_of_getElem? (i := 21) rfl)) rfl⟩
abbrev mX3_clear : Mt := (none, RX3, false, [])
set_option maxRecDepth 20000 in
theorem mvX3_clear : MV yX3_clear cX3_clear 1 mX3_clear 0 := ⟨⟨inG (mt2 (List.mem_of_getElem? (i := 30) rfl)) rfl, gi_RX3, ⟨by decide +kernel, by decide +kernel⟩, by decide +kernel, by decide +kernel, by decide, by decide⟩, inG (mt2 (List.mem_of_getElem? (i := 28) rfl)) rfl, inG (mt2 (List.mem_of_getElem? (i := 29) rfl)) rfl⟩
abbrev mX12_clearBuffer : Mt := ((some .int), RX12, false, [])
set_option maxRecDepth 20000 in
theorem mvX12_clearBuffer : MV yX12_clearBuffer cX12_clearBuffer 2 mX12_clearBuffer 0 := ⟨⟨inG (mt6 (List.mem_of_getElem? (i := 191) rfl)) rfl, gi_RX12, ⟨by decide +kernel, by decide +kernel⟩, by decide +kernel, by decide +kernel, by decide, by decide⟩, inG (mt6 (List.mem_of_getElem? (i := 189) rfl)) rfl, inG (mt6 (List.mem_of_getElem? (i := 190) rfl)) rfl⟩
abbrev mX11_firstError : Mt := ((some .int), RX11, false, [])
set_option maxRecDepth 20000 in
theorem mvX11_firstError : MV yX11_firstError cX11_firstError 1 mX11_firstError 0 := ⟨⟨inG (mt2 (List.mem_of_getElem? (i := 34) rfl)) rfl, gi_RX11, ⟨by decide +kernel, by decide +kernel⟩, by decide +kernel, by decide +kernel, by decide, by decide⟩, inG (mt2 (List.mem_of_getElem? (i := 32) rfl)) rfl, inG (mt2 (List.mem_of_getElem? (i := 33) rfl)) rfl⟩
abbrev mX3_errorIndex : Mt := ((some .int), RX3, false, [])
set_option maxRecDepth 20000 in
theorem mvX3_errorIndex : MV yX3_errorIndex cX3_errorIndex 2 mX3_errorIndex 0 := ⟨⟨inG (mt2 (List.mem_of_getElem? (i := 38) rfl)) rfl, gi_RX3, ⟨by decide +kernel, by decide +kernel⟩, by decide +kernel, by decide +kernel, by decide, by decide⟩, inG (mt2 (List.mem_of_getElem? (i := 36) rfl)) rfl, inG (mt2 (List.mem_of_getElem? (i := 37) rfl)) rfl⟩
abbrev mX3_fits : Mt := ((some .boolean), RX3, false, [])
set_option maxRecDepth 20000 in
theorem msX3_fits : MS yX3_fits cX3_fits 2 mX3_fits 2 := ⟨⟨inG (mt2 (List.mem_of_getElem? (i := 41) rfl)) rfl, gi_RX3, ⟨by decide +kernel, by decide +kernel⟩, by decide +kernel, by decide +kernel, by decide, by decide⟩, inG (mt2 (List.mem_of_getElem? (i := 40) rfl)) rfl⟩
abbrev mJ0_indexOf_0f7a4 : Mt := ((some .int), RJ0, false, [])
set_option maxRecDepth 20000 in
theorem mvJ0_indexOf_0f7a4 : MV yJ0_indexOf_0f7a4 cJ0_indexOf_0f7a4 2 mJ0_indexOf_0f7a4 1 := ⟨⟨inG (mt2 (List.mem_of_getElem? (i := 46) rfl)) rfl, gi_RJ0, ⟨by decide +kernel, by decide +kernel⟩, by decide +kernel, by decide +kernel, by decide, by decide⟩, inG (mt2 (List.mem_of_getElem? (i := 44) rfl)) rfl, inG (mt2 (List.mem_of_getElem? (i := 45) rfl)) rfl⟩
abbrev mJ0_indexOf_7cf53 : Mt := ((some .int), RJ0, false, [])
set_option maxRecDepth 20000 in
theorem mvJ0_indexOf_7cf53 : MV yJ0_indexOf_7cf53 cJ0_indexOf_7cf53 3 mJ0_indexOf_7cf53 2 := ⟨⟨inG (mt2 (List.mem_of_getElem? (i := 50) rfl)) rfl, gi_RJ0, ⟨by decide +kernel, by decide +kernel⟩, by decide +kernel, by decide +kernel, by decide, by decide⟩, inG (mt2 (List.mem_of_getElem? (i := 48) rfl)) rfl, inG (mt2 (List.mem_of_getElem? (i := 49) rfl)) rfl⟩
abbrev mJ0_isLatin1_aae02 : Mt := ((some .boolean), RJ0, false, [])
set_option maxRecDepth 20000 in
theorem mvJ0_isLatin1_aae02 : MV yJ0_isLatin1_aae02 cJ0_isLatin1_aae02 1 mJ0_isLatin1_aae02 0 := ⟨⟨inG (mt2 (List.mem_of_getElem? (i := 54) rfl)) rfl, gi_RJ0, ⟨by decide +kernel, by decide +kernel⟩, by decide +kernel, by decide +kernel, by decide, by decide⟩, inG (mt2 (List.mem_of_getElem? (i := 52) rfl)) rfl, inG (mt2 (List.mem_of_getElem? (i := 53) rfl)) rfl⟩
abbrev mJ0_length_8abf5 : Mt := ((some .int), RJ0, false, [])
set_option maxRecDepth 20000 in
theorem mvJ0_length_8abf5 : MV yJ0_length_8abf5 cJ0_length_8abf5 1 mJ0_length_8abf5 0 := ⟨⟨inG (mt2 (List.mem_of_getElem? (i := 60) rfl)) rfl, gi_RJ0, ⟨by decide +kernel, by decide +kernel⟩, by decide +kernel, by decide +kernel, by decide, by decide⟩, inG (mt2 (List.mem_of_getElem? (i := 58) rfl)) rfl, inG (mt2 (List.mem_of_getElem? (i := 59) rfl)) rfl⟩
abbrev mJ0_coder_7d493 : Mt := ((some .byte), RJ0, false, [])
set_option maxRecDepth 20000 in
theorem mvJ0_coder_7d493 : MV yJ0_coder_7d493 cJ0_coder_7d493 1 mJ0_coder_7d493 0 := ⟨⟨inG (mt2 (List.mem_of_getElem? (i := 64) rfl)) rfl, gi_RJ0, ⟨by decide +kernel, by decide +kernel⟩, by decide +kernel, by decide +kernel, by decide, by decide⟩, inG (mt2 (List.mem_of_getElem? (i := 62) rfl)) rfl, inG (mt2 (List.mem_of_getElem? (i := 63) rfl)) rfl⟩
abbrev mJ1_indexOf_4cfef : Mt := ((some .int), RJ1, false, [])
set_option maxRecDepth 20000 in
theorem msJ1_indexOf_4cfef : MS yJ1_indexOf_4cfef cJ1_indexOf_4cfef 4 mJ1_indexOf_4cfef 4 := ⟨⟨inG (mt2 (List.mem_of_getElem? (i := 67) rfl)) rfl, gi_RJ1, ⟨by decide +kernel, by decide +kernel⟩, by decide +kernel, by decide +kernel, by decide, by decide⟩, inG (mt2 (List.mem_of_getElem? (i := 66) rfl)) rfl⟩
abbrev mJ1_canEncode_9a6ad : Mt := ((some .boolean), RJ1, false, [])
set_option maxRecDepth 20000 in
theorem msJ1_canEncode_9a6ad : MS yJ1_canEncode_9a6ad cJ1_canEncode_9a6ad 1 mJ1_canEncode_9a6ad 1 := ⟨⟨inG (mt2 (List.mem_of_getElem? (i := 70) rfl)) rfl, gi_RJ1, ⟨by decide +kernel, by decide +kernel⟩, by decide +kernel, by decide +kernel, by decide, by decide⟩, inG (mt2 (List.mem_of_getElem? (i := 69) rfl)) rfl⟩
abbrev mJ1_indexOfChar_4cfef : Mt := ((some .int), RJ1, false, [])
set_option maxRecDepth 20000 in
theorem msJ1_indexOfChar_4cfef : MS yJ1_indexOfChar_4cfef cJ1_indexOfChar_4cfef 6 mJ1_indexOfChar_4cfef 4 := ⟨⟨inG (mt2 (List.mem_of_getElem? (i := 79) rfl)) rfl, gi_RJ1, ⟨by decide +kernel, by decide +kernel⟩, by decide +kernel, by decide +kernel, by decide, by decide⟩, inG (mt2 (List.mem_of_getElem? (i := 78) rfl)) rfl⟩
abbrev mJ2_indexOf_4cfef : Mt := ((some .int), RJ2, false, [])
set_option maxRecDepth 20000 in
theorem msJ2_indexOf_4cfef : MS yJ2_indexOf_4cfef cJ2_indexOf_4cfef 4 mJ2_indexOf_4cfef 4 := ⟨⟨inG (mt2 (List.mem_of_getElem? (i := 82) rfl)) rfl, gi_RJ2, ⟨by decide +kernel, by decide +kernel⟩, by decide +kernel, by decide +kernel, by decide, by decide⟩, inG (mt2 (List.mem_of_getElem? (i := 81) rfl)) rfl⟩
abbrev mJ2_indexOfChar_4cfef : Mt := ((some .int), RJ2, false, [])
set_option maxRecDepth 20000 in
theorem msJ2_indexOfChar_4cfef : MS yJ2_indexOfChar_4cfef cJ2_indexOfChar_4cfef 4 mJ2_indexOfChar_4cfef 4 := ⟨⟨inG (mt2 (List.mem_of_getElem? (i := 88) rfl)) rfl, gi_RJ2, ⟨by decide +kernel, by decide +kernel⟩, by decide +kernel, by decide +kernel, by decide, by decide⟩, inG (mt2 (List.mem_of_getElem? (i := 87) rfl)) rfl⟩
abbrev mJ2_checkBoundsBeginEnd_d044e : Mt := (none, RJ2, false, [])
set_option maxRecDepth 20000 in
theorem msJ2_checkBoundsBeginEnd_d044e : MS yJ2_checkBoundsBeginEnd_d044e cJ2_checkBoundsBeginEnd_d044e 3 mJ2_checkBoundsBeginEnd_d044e 3 := ⟨⟨inG (mt2 (List.mem_of_getElem? (i := 91) rfl)) rfl, gi_RJ2, ⟨by decide +kernel, by decide +kernel⟩, by decide +kernel, by decide +kernel, by decide, by decide⟩, inG (mt2 (List.mem_of_getElem? (i := 90) rfl)) rfl⟩
abbrev mJ2_length_9d52b : Mt := ((some .int), RJ2, false, [])
set_option maxRecDepth 20000 in
theorem msJ2_length_9d52b : MS yJ2_length_9d52b cJ2_length_9d52b 1 mJ2_length_9d52b 1 := ⟨⟨inG (mt2 (List.mem_of_getElem? (i := 94) rfl)) rfl, gi_RJ2, ⟨by decide +kernel, by decide +kernel⟩, by decide +kernel, by decide +kernel, by decide, by decide⟩, inG (mt2 (List.mem_of_getElem? (i := 93) rfl)) rfl⟩
abbrev mJ0_checkBoundsBeginEnd_23922 : Mt := (none, RJ0, false, [])
set_option maxRecDepth 20000 in
theorem msJ0_checkBoundsBeginEnd_23922 : MS yJ0_checkBoundsBeginEnd_23922 cJ0_checkBoundsBeginEnd_23922 3 mJ0_checkBoundsBeginEnd_23922 3 := ⟨⟨inG (mt2 (List.mem_of_getElem? (i := 97) rfl)) rfl, gi_RJ0, ⟨by decide +kernel, by decide +kernel⟩, by decide +kernel, by decide +kernel, by decide, by decide⟩, inG (mt2 (List.mem_of_getElem? (i := 96) rfl)) rfl⟩
abbrev mJ3_checkFromToIndex_8c36e : Mt := ((some .int), RJ3, false, [])
set_option maxRecDepth 20000 in
theorem msJ3_checkFromToIndex_8c36e : MS yJ3_checkFromToIndex_8c36e cJ3_checkFromToIndex_8c36e 4 mJ3_checkFromToIndex_8c36e 4 := ⟨⟨inG (mt2 (List.mem_of_getElem? (i := 102) rfl)) rfl, gi_RJ3, ⟨by decide +kernel, by decide +kernel⟩, by decide +kernel, by decide +kernel, by decide, by decide⟩, inG (mt2 (List.mem_of_getElem? (i := 101) rfl)) rfl⟩
abbrev mJ2_indexOfCharUnsafe_4cfef : Mt := ((some .int), RJ2, false, [])
set_option maxRecDepth 20000 in
theorem msJ2_indexOfCharUnsafe_4cfef : MS yJ2_indexOfCharUnsafe_4cfef cJ2_indexOfCharUnsafe_4cfef 5 mJ2_indexOfCharUnsafe_4cfef 4 := ⟨⟨inG (mt2 (List.mem_of_getElem? (i := 105) rfl)) rfl, gi_RJ2, ⟨by decide +kernel, by decide +kernel⟩, by decide +kernel, by decide +kernel, by decide, by decide⟩, inG (mt2 (List.mem_of_getElem? (i := 104) rfl)) rfl⟩
abbrev mJ2_getChar_3b067 : Mt := ((some .char), RJ2, false, [])
set_option maxRecDepth 20000 in
theorem msJ2_getChar_3b067 : MS yJ2_getChar_3b067 cJ2_getChar_3b067 2 mJ2_getChar_3b067 2 := ⟨⟨inG (mt2 (List.mem_of_getElem? (i := 108) rfl)) rfl, gi_RJ2, ⟨by decide +kernel, by decide +kernel⟩, by decide +kernel, by decide +kernel, by decide, by decide⟩, inG (mt2 (List.mem_of_getElem? (i := 107) rfl)) rfl⟩
abbrev mJ2_indexOfSupplementary_4cfef : Mt := ((some .int), RJ2, false, [])
set_option maxRecDepth 20000 in
theorem msJ2_indexOfSupplementary_4cfef : MS yJ2_indexOfSupplementary_4cfef cJ2_indexOfSupplementary_4cfef 7 mJ2_indexOfSupplementary_4cfef 4 := ⟨⟨inG (mt2 (List.mem_of_getElem? (i := 117) rfl)) rfl, gi_RJ2, ⟨by decide +kernel, by decide +kernel⟩, by decide +kernel, by decide +kernel, by decide, by decide⟩, inG (mt2 (List.mem_of_getElem? (i := 116) rfl)) rfl⟩
abbrev mJ11_isValidCodePoint_9a6ad : Mt := ((some .boolean), RJ11, false, [])
set_option maxRecDepth 20000 in
theorem msJ11_isValidCodePoint_9a6ad : MS yJ11_isValidCodePoint_9a6ad cJ11_isValidCodePoint_9a6ad 2 mJ11_isValidCodePoint_9a6ad 1 := ⟨⟨inG (mt2 (List.mem_of_getElem? (i := 120) rfl)) rfl, gi_RJ11, ⟨by decide +kernel, by decide +kernel⟩, by decide +kernel, by decide +kernel, by decide, by decide⟩, inG (mt2 (List.mem_of_getElem? (i := 119) rfl)) rfl⟩
abbrev mJ11_highSurrogate_5068e : Mt := ((some .char), RJ11, false, [])
set_option maxRecDepth 20000 in
theorem msJ11_highSurrogate_5068e : MS yJ11_highSurrogate_5068e cJ11_highSurrogate_5068e 1 mJ11_highSurrogate_5068e 1 := ⟨⟨inG (mt2 (List.mem_of_getElem? (i := 123) rfl)) rfl, gi_RJ11, ⟨by decide +kernel, by decide +kernel⟩, by decide +kernel, by decide +kernel, by decide, by decide⟩, inG (mt2 (List.mem_of_getElem? (i := 122) rfl)) rfl⟩
abbrev mJ11_lowSurrogate_5068e : Mt := ((some .char), RJ11, false, [])
set_option maxRecDepth 20000 in
theorem msJ11_lowSurrogate_5068e : MS yJ11_lowSurrogate_5068e cJ11_lowSurrogate_5068e 1 mJ11_lowSurrogate_5068e 1 := ⟨⟨inG (mt2 (List.mem_of_getElem? (i := 127) rfl)) rfl, gi_RJ11, ⟨by decide +kernel, by decide +kernel⟩, by decide +kernel, by decide +kernel, by decide, by decide⟩, inG (mt2 (List.mem_of_getElem? (i := 126) rfl)) rfl⟩
abbrev mX12_firstError : Mt := ((some .int), RX12, false, [])
set_option maxRecDepth 20000 in
theorem mvX12_firstError : MV yX12_firstError cX12_firstError 1 mX12_firstError 0 := ⟨⟨inG (mt6 (List.mem_of_getElem? (i := 195) rfl)) rfl, gi_RX12, ⟨by decide +kernel, by decide +kernel⟩, by decide +kernel, by decide +kernel, by decide, by decide⟩, inG (mt6 (List.mem_of_getElem? (i := 193) rfl)) rfl, inG (mt6 (List.mem_of_getElem? (i := 194) rfl)) rfl⟩
abbrev mX12_findError : Mt := ((some .int), RX12, false, [])
set_option maxRecDepth 20000 in
theorem mvX12_findError : MV yX12_findError cX12_findError 2 mX12_findError 0 := ⟨⟨inG (mt6 (List.mem_of_getElem? (i := 199) rfl)) rfl, gi_RX12, ⟨by decide +kernel, by decide +kernel⟩, by decide +kernel, by decide +kernel, by decide, by decide⟩, inG (mt6 (List.mem_of_getElem? (i := 198) rfl)) rfl, inG (mp_ (List.mem_of_getElem? (i := 31) rfl)) rfl⟩
abbrev mX12_isGood : Mt := ((some .boolean), RX12, false, [])
set_option maxRecDepth 20000 in
theorem mvX12_isGood : MV yX12_isGood cX12_isGood 3 mX12_isGood 1 := ⟨⟨inG (mt6 (List.mem_of_getElem? (i := 203) rfl)) rfl, gi_RX12, ⟨by decide +kernel, by decide +kernel⟩, by decide +kernel, by decide +kernel, by decide, by decide⟩, inG (mt6 (List.mem_of_getElem? (i := 202) rfl)) rfl, inG (mp_ (List.mem_of_getElem? (i := 32) rfl)) rfl⟩
abbrev mX12_directionOf : Mt := ((some .int), RX12, false, [])
set_option maxRecDepth 20000 in
theorem msX12_directionOf : MS yX12_directionOf cX12_directionOf 2 mX12_directionOf 1 := ⟨⟨inG (mt6 (List.mem_of_getElem? (i := 206) rfl)) rfl, gi_RX12, ⟨by decide +kernel, by decide +kernel⟩, by decide +kernel, by decide +kernel, by decide, by decide⟩, inG (mt6 (List.mem_of_getElem? (i := 205) rfl)) rfl⟩
abbrev mX12_letterOf : Mt := ((some .int), RX12, false, [])
set_option maxRecDepth 20000 in
theorem msX12_letterOf : MS yX12_letterOf cX12_letterOf 1 mX12_letterOf 1 := ⟨⟨inG (mt6 (List.mem_of_getElem? (i := 209) rfl)) rfl, gi_RX12, ⟨by decide +kernel, by decide +kernel⟩, by decide +kernel, by decide +kernel, by decide, by decide⟩, inG (mt6 (List.mem_of_getElem? (i := 208) rfl)) rfl⟩
abbrev mL_draw : Mt := ((some .int), RL, false, [(0, 8, 11, 20), (0, 8, 14, 15)])
set_option maxRecDepth 20000 in
theorem msL_draw : MS yL_draw cL_draw 3 mL_draw 2 := ⟨⟨inG (mt4 (List.mem_of_getElem? (i := 82) rfl)) rfl, gi_RL, ⟨by decide +kernel, by decide +kernel⟩, by decide +kernel, by decide +kernel, by decide, by decide⟩, inG (mt4 (List.mem_of_getElem? (i := 81) rfl)) rfl⟩
abbrev mX11_draw : Mt := ((some .int), RX11, false, [])
set_option maxRecDepth 20000 in
theorem mvX11_draw : MV yX11_draw cX11_draw 1 mX11_draw 0 := ⟨⟨inG (mt4 (List.mem_of_getElem? (i := 86) rfl)) rfl, gi_RX11, ⟨by decide +kernel, by decide +kernel⟩, by decide +kernel, by decide +kernel, by decide, by decide⟩, inG (mt4 (List.mem_of_getElem? (i := 84) rfl)) rfl, inG (mt4 (List.mem_of_getElem? (i := 85) rfl)) rfl⟩
abbrev mX3_isComplete : Mt := ((some .boolean), RX3, false, [])
set_option maxRecDepth 20000 in
theorem mvX3_isComplete : MV yX3_isComplete cX3_isComplete 1 mX3_isComplete 0 := ⟨⟨inG (mt4 (List.mem_of_getElem? (i := 90) rfl)) rfl, gi_RX3, ⟨by decide +kernel, by decide +kernel⟩, by decide +kernel, by decide +kernel, by decide, by decide⟩, inG (mt4 (List.mem_of_getElem? (i := 88) rfl)) rfl, inG (mt4 (List.mem_of_getElem? (i := 89) rfl)) rfl⟩
abbrev mX3_layOut : Mt := ((some .boolean), RX3, false, [])
set_option maxRecDepth 20000 in
theorem mvX3_layOut : MV yX3_layOut cX3_layOut 5 mX3_layOut 2 := ⟨⟨inG (mt4 (List.mem_of_getElem? (i := 96) rfl)) rfl, gi_RX3, ⟨by decide +kernel, by decide +kernel⟩, by decide +kernel, by decide +kernel, by decide, by decide⟩, inG (mt4 (List.mem_of_getElem? (i := 94) rfl)) rfl, inG (mt4 (List.mem_of_getElem? (i := 95) rfl)) rfl⟩
abbrev mX9_covers : Mt := ((some .boolean), RX9, false, [])
set_option maxRecDepth 20000 in
theorem mvX9_covers : MV yX9_covers cX9_covers 3 mX9_covers 1 := ⟨⟨inG (mt4 (List.mem_of_getElem? (i := 104) rfl)) rfl, gi_RX9, ⟨by decide +kernel, by decide +kernel⟩, by decide +kernel, by decide +kernel, by decide, by decide⟩, inG (mt4 (List.mem_of_getElem? (i := 102) rfl)) rfl, inG (mt4 (List.mem_of_getElem? (i := 103) rfl)) rfl⟩
abbrev mX12_draw : Mt := ((some .int), RX12, false, [])
set_option maxRecDepth 20000 in
theorem mvX12_draw : MV yX12_draw cX12_draw 1 mX12_draw 0 := ⟨⟨inG (mt6 (List.mem_of_getElem? (i := 213) rfl)) rfl, gi_RX12, ⟨by decide +kernel, by decide +kernel⟩, by decide +kernel, by decide +kernel, by decide, by decide⟩, inG (mt6 (List.mem_of_getElem? (i := 211) rfl)) rfl, inG (mt6 (List.mem_of_getElem? (i := 212) rfl)) rfl⟩
abbrev mX12_readsRow : Mt := ((some .boolean), RX12, false, [])
set_option maxRecDepth 20000 in
theorem mvX12_readsRow : MV yX12_readsRow cX12_readsRow 4 mX12_readsRow 0 := ⟨⟨inG (mt6 (List.mem_of_getElem? (i := 217) rfl)) rfl, gi_RX12, ⟨by decide +kernel, by decide +kernel⟩, by decide +kernel, by decide +kernel, by decide, by decide⟩, inG (mt6 (List.mem_of_getElem? (i := 216) rfl)) rfl, inG (mp_ (List.mem_of_getElem? (i := 33) rfl)) rfl⟩
abbrev mX12_isFree : Mt := ((some .boolean), RX12, false, [])
set_option maxRecDepth 20000 in
theorem mvX12_isFree : MV yX12_isFree cX12_isFree 2 mX12_isFree 1 := ⟨⟨inG (mt6 (List.mem_of_getElem? (i := 221) rfl)) rfl, gi_RX12, ⟨by decide +kernel, by decide +kernel⟩, by decide +kernel, by decide +kernel, by decide, by decide⟩, inG (mt6 (List.mem_of_getElem? (i := 220) rfl)) rfl, inG (mp_ (List.mem_of_getElem? (i := 34) rfl)) rfl⟩
abbrev mL_write : Mt := ((some .int), RL, false, [(0, 9, 12, 13)])
set_option maxRecDepth 20000 in
theorem msL_write : MS yL_write cL_write 4 mL_write 3 := ⟨⟨inG (mt4 (List.mem_of_getElem? (i := 110) rfl)) rfl, gi_RL, ⟨by decide +kernel, by decide +kernel⟩, by decide +kernel, by decide +kernel, by decide, by decide⟩, inG (mt4 (List.mem_of_getElem? (i := 109) rfl)) rfl⟩
abbrev mX11_write : Mt := ((some .int), RX11, false, [])
set_option maxRecDepth 20000 in
theorem mvX11_write : MV yX11_write cX11_write 2 mX11_write 1 := ⟨⟨inG (mt4 (List.mem_of_getElem? (i := 114) rfl)) rfl, gi_RX11, ⟨by decide +kernel, by decide +kernel⟩, by decide +kernel, by decide +kernel, by decide, by decide⟩, inG (mt4 (List.mem_of_getElem? (i := 112) rfl)) rfl, inG (mt4 (List.mem_of_getElem? (i := 113) rfl)) rfl⟩
abbrev mX3_tell : Mt := (none, RX3, false, [])
set_option maxRecDepth 20000 in
theorem mvX3_tell : MV yX3_tell cX3_tell 3 mX3_tell 1 := ⟨⟨inG (mt4 (List.mem_of_getElem? (i := 118) rfl)) rfl, gi_RX3, ⟨by decide +kernel, by decide +kernel⟩, by decide +kernel, by decide +kernel, by decide, by decide⟩, inG (mt4 (List.mem_of_getElem? (i := 116) rfl)) rfl, inG (mt4 (List.mem_of_getElem? (i := 117) rfl)) rfl⟩
abbrev mX9_steps : Mt := ((some .int), RX9, false, [])
set_option maxRecDepth 20000 in
theorem mvX9_steps : MV yX9_steps cX9_steps 1 mX9_steps 0 := ⟨⟨inG (mt4 (List.mem_of_getElem? (i := 127) rfl)) rfl, gi_RX9, ⟨by decide +kernel, by decide +kernel⟩, by decide +kernel, by decide +kernel, by decide, by decide⟩, inG (mt4 (List.mem_of_getElem? (i := 125) rfl)) rfl, inG (mt4 (List.mem_of_getElem? (i := 126) rfl)) rfl⟩
abbrev mX9_stepAt : Mt := ((some .int), RX9, false, [])
set_option maxRecDepth 20000 in
theorem mvX9_stepAt : MV yX9_stepAt cX9_stepAt 2 mX9_stepAt 1 := ⟨⟨inG (mt4 (List.mem_of_getElem? (i := 131) rfl)) rfl, gi_RX9, ⟨by decide +kernel, by decide +kernel⟩, by decide +kernel, by decide +kernel, by decide, by decide⟩, inG (mt4 (List.mem_of_getElem? (i := 129) rfl)) rfl, inG (mt4 (List.mem_of_getElem? (i := 130) rfl)) rfl⟩
abbrev mX2_direction : Mt := ((some .int), RX2, false, [])
set_option maxRecDepth 20000 in
theorem msX2_direction : MS yX2_direction cX2_direction 3 mX2_direction 2 := ⟨⟨inG (mt4 (List.mem_of_getElem? (i := 134) rfl)) rfl, gi_RX2, ⟨by decide +kernel, by decide +kernel⟩, by decide +kernel, by decide +kernel, by decide, by decide⟩, inG (mt4 (List.mem_of_getElem? (i := 133) rfl)) rfl⟩
abbrev mJ0_charAt_5068e : Mt := ((some .char), RJ0, false, [])
set_option maxRecDepth 20000 in
theorem mvJ0_charAt_5068e : MV yJ0_charAt_5068e cJ0_charAt_5068e 2 mJ0_charAt_5068e 1 := ⟨⟨inG (mt4 (List.mem_of_getElem? (i := 139) rfl)) rfl, gi_RJ0, ⟨by decide +kernel, by decide +kernel⟩, by decide +kernel, by decide +kernel, by decide, by decide⟩, inG (mt4 (List.mem_of_getElem? (i := 137) rfl)) rfl, inG (mt4 (List.mem_of_getElem? (i := 138) rfl)) rfl⟩
abbrev mJ1_charAt_3b067 : Mt := ((some .char), RJ1, false, [])
set_option maxRecDepth 20000 in
theorem msJ1_charAt_3b067 : MS yJ1_charAt_3b067 cJ1_charAt_3b067 2 mJ1_charAt_3b067 2 := ⟨⟨inG (mt4 (List.mem_of_getElem? (i := 142) rfl)) rfl, gi_RJ1, ⟨by decide +kernel, by decide +kernel⟩, by decide +kernel, by decide +kernel, by decide, by decide⟩, inG (mt4 (List.mem_of_getElem? (i := 141) rfl)) rfl⟩
abbrev mJ0_checkIndex_df160 : Mt := (none, RJ0, false, [])
set_option maxRecDepth 20000 in
theorem msJ0_checkIndex_df160 : MS yJ0_checkIndex_df160 cJ0_checkIndex_df160 2 mJ0_checkIndex_df160 2 := ⟨⟨inG (mt4 (List.mem_of_getElem? (i := 145) rfl)) rfl, gi_RJ0, ⟨by decide +kernel, by decide +kernel⟩, by decide +kernel, by decide +kernel, by decide, by decide⟩, inG (mt4 (List.mem_of_getElem? (i := 144) rfl)) rfl⟩
abbrev mJ3_checkIndex_8e157 : Mt := ((some .int), RJ3, false, [])
set_option maxRecDepth 20000 in
theorem msJ3_checkIndex_8e157 : MS yJ3_checkIndex_8e157 cJ3_checkIndex_8e157 3 mJ3_checkIndex_8e157 3 := ⟨⟨inG (mt4 (List.mem_of_getElem? (i := 148) rfl)) rfl, gi_RJ3, ⟨by decide +kernel, by decide +kernel⟩, by decide +kernel, by decide +kernel, by decide, by decide⟩, inG (mt4 (List.mem_of_getElem? (i := 147) rfl)) rfl⟩
abbrev mJ2_charAt_3b067 : Mt := ((some .char), RJ2, false, [])
set_option maxRecDepth 20000 in
theorem msJ2_charAt_3b067 : MS yJ2_charAt_3b067 cJ2_charAt_3b067 2 mJ2_charAt_3b067 2 := ⟨⟨inG (mt4 (List.mem_of_getElem? (i := 151) rfl)) rfl, gi_RJ2, ⟨by decide +kernel, by decide +kernel⟩, by decide +kernel, by decide +kernel, by decide, by decide⟩, inG (mt4 (List.mem_of_getElem? (i := 150) rfl)) rfl⟩
abbrev mJ2_checkIndex_2214a : Mt := (none, RJ2, false, [])
set_option maxRecDepth 20000 in
theorem msJ2_checkIndex_2214a : MS yJ2_checkIndex_2214a cJ2_checkIndex_2214a 2 mJ2_checkIndex_2214a 2 := ⟨⟨inG (mt4 (List.mem_of_getElem? (i := 154) rfl)) rfl, gi_RJ2, ⟨by decide +kernel, by decide +kernel⟩, by decide +kernel, by decide +kernel, by decide, by decide⟩, inG (mt4 (List.mem_of_getElem? (i := 153) rfl)) rfl⟩
abbrev mX12_write : Mt := ((some .int), RX12, false, [])
set_option maxRecDepth 20000 in
theorem mvX12_write : MV yX12_write cX12_write 4 mX12_write 1 := ⟨⟨inG (mt6 (List.mem_of_getElem? (i := 225) rfl)) rfl, gi_RX12, ⟨by decide +kernel, by decide +kernel⟩, by decide +kernel, by decide +kernel, by decide, by decide⟩, inG (mt6 (List.mem_of_getElem? (i := 223) rfl)) rfl, inG (mt6 (List.mem_of_getElem? (i := 224) rfl)) rfl⟩
abbrev mL_undo : Mt := ((some .int), RL, false, [(0, 8, 11, 15)])
set_option maxRecDepth 20000 in
theorem msL_undo : MS yL_undo cL_undo 3 mL_undo 2 := ⟨⟨inG (mt4 (List.mem_of_getElem? (i := 158) rfl)) rfl, gi_RL, ⟨by decide +kernel, by decide +kernel⟩, by decide +kernel, by decide +kernel, by decide, by decide⟩, inG (mt4 (List.mem_of_getElem? (i := 157) rfl)) rfl⟩
abbrev mX11_undo : Mt := ((some .int), RX11, false, [])
set_option maxRecDepth 20000 in
theorem mvX11_undo : MV yX11_undo cX11_undo 1 mX11_undo 0 := ⟨⟨inG (mt4 (List.mem_of_getElem? (i := 162) rfl)) rfl, gi_RX11, ⟨by decide +kernel, by decide +kernel⟩, by decide +kernel, by decide +kernel, by decide, by decide⟩, inG (mt4 (List.mem_of_getElem? (i := 160) rfl)) rfl, inG (mt4 (List.mem_of_getElem? (i := 161) rfl)) rfl⟩
abbrev mX1_size : Mt := ((some .int), RX1, false, [])
set_option maxRecDepth 20000 in
theorem mvX1_size : MV yX1_size cX1_size 1 mX1_size 0 := ⟨⟨inG (mt4 (List.mem_of_getElem? (i := 166) rfl)) rfl, gi_RX1, ⟨by decide +kernel, by decide +kernel⟩, by decide +kernel, by decide +kernel, by decide, by decide⟩, inG (mt4 (List.mem_of_getElem? (i := 164) rfl)) rfl, inG (mt4 (List.mem_of_getElem? (i := 165) rfl)) rfl⟩
abbrev mX1_restoreLast : Mt := (none, RX1, false, [])
set_option maxRecDepth 20000 in
theorem mvX1_restoreLast : MV yX1_restoreLast cX1_restoreLast 2 mX1_restoreLast 1 := ⟨⟨inG (mt4 (List.mem_of_getElem? (i := 171) rfl)) rfl, gi_RX1, ⟨by decide +kernel, by decide +kernel⟩, by decide +kernel, by decide +kernel, by decide, by decide⟩, inG (mt4 (List.mem_of_getElem? (i := 169) rfl)) rfl, inG (mt4 (List.mem_of_getElem? (i := 170) rfl)) rfl⟩
abbrev mX5_putInto : Mt := (none, RX5, false, [])
set_option maxRecDepth 20000 in
theorem mvX5_putInto : MV yX5_putInto cX5_putInto 6 mX5_putInto 1 := ⟨⟨inG (mt4 (List.mem_of_getElem? (i := 175) rfl)) rfl, gi_RX5, ⟨by decide +kernel, by decide +kernel⟩, by decide +kernel, by decide +kernel, by decide, by decide⟩, inG (mt4 (List.mem_of_getElem? (i := 173) rfl)) rfl, inG (mt4 (List.mem_of_getElem? (i := 174) rfl)) rfl⟩
abbrev mX12_undo : Mt := ((some .int), RX12, false, [])
set_option maxRecDepth 20000 in
theorem mvX12_undo : MV yX12_undo cX12_undo 2 mX12_undo 0 := ⟨⟨inG (mt6 (List.mem_of_getElem? (i := 63) rfl)) rfl, gi_RX12, ⟨by decide +kernel, by decide +kernel⟩, by decide +kernel, by decide +kernel, by decide, by decide⟩, inG (mt6 (List.mem_of_getElem? (i := 61) rfl)) rfl, inG (mt6 (List.mem_of_getElem? (i := 62) rfl)) rfl⟩
abbrev mL_keep : Mt := ((some .int), RL, false, [(0, 9, 12, 20)])
set_option maxRecDepth 20000 in
theorem msL_keep : MS yL_keep cL_keep 4 mL_keep 3 := ⟨⟨inG (mt4 (List.mem_of_getElem? (i := 181) rfl)) rfl, gi_RL, ⟨by decide +kernel, by decide +kernel⟩, by decide +kernel, by decide +kernel, by decide, by decide⟩, inG (mt4 (List.mem_of_getElem? (i := 180) rfl)) rfl⟩
abbrev mX11_keep : Mt := ((some .int), RX11, false, [])
set_option maxRecDepth 20000 in
theorem mvX11_keep : MV yX11_keep cX11_keep 2 mX11_keep 1 := ⟨⟨inG (mt4 (List.mem_of_getElem? (i := 185) rfl)) rfl, gi_RX11, ⟨by decide +kernel, by decide +kernel⟩, by decide +kernel, by decide +kernel, by decide, by decide⟩, inG (mt4 (List.mem_of_getElem? (i := 183) rfl)) rfl, inG (mt4 (List.mem_of_getElem? (i := 184) rfl)) rfl⟩
abbrev mX8_take : Mt := (none, RX8, false, [])
set_option maxRecDepth 20000 in
theorem mvX8_take : MV yX8_take cX8_take 3 mX8_take 2 := ⟨⟨inG (mt4 (List.mem_of_getElem? (i := 189) rfl)) rfl, gi_RX8, ⟨by decide +kernel, by decide +kernel⟩, by decide +kernel, by decide +kernel, by decide, by decide⟩, inG (mt4 (List.mem_of_getElem? (i := 187) rfl)) rfl, inG (mt4 (List.mem_of_getElem? (i := 188) rfl)) rfl⟩
abbrev mX12_keep : Mt := ((some .int), RX12, false, [])
set_option maxRecDepth 20000 in
theorem mvX12_keep : MV yX12_keep cX12_keep 3 mX12_keep 1 := ⟨⟨inG (mt6 (List.mem_of_getElem? (i := 71) rfl)) rfl, gi_RX12, ⟨by decide +kernel, by decide +kernel⟩, by decide +kernel, by decide +kernel, by decide, by decide⟩, inG (mt6 (List.mem_of_getElem? (i := 69) rfl)) rfl, inG (mt6 (List.mem_of_getElem? (i := 70) rfl)) rfl⟩
abbrev mL_goBack : Mt := ((some .int), RL, false, [(0, 9, 12, 20), (0, 9, 15, 15)])
set_option maxRecDepth 20000 in
theorem msL_goBack : MS yL_goBack cL_goBack 4 mL_goBack 3 := ⟨⟨inG (mt4 (List.mem_of_getElem? (i := 193) rfl)) rfl, gi_RL, ⟨by decide +kernel, by decide +kernel⟩, by decide +kernel, by decide +kernel, by decide, by decide⟩, inG (mt4 (List.mem_of_getElem? (i := 192) rfl)) rfl⟩
abbrev mX11_goBack : Mt := ((some .int), RX11, false, [])
set_option maxRecDepth 20000 in
theorem mvX11_goBack : MV yX11_goBack cX11_goBack 2 mX11_goBack 1 := ⟨⟨inG (mt4 (List.mem_of_getElem? (i := 197) rfl)) rfl, gi_RX11, ⟨by decide +kernel, by decide +kernel⟩, by decide +kernel, by decide +kernel, by decide, by decide⟩, inG (mt4 (List.mem_of_getElem? (i := 195) rfl)) rfl, inG (mt4 (List.mem_of_getElem? (i := 196) rfl)) rfl⟩
abbrev mX8_isTaken : Mt := ((some .boolean), RX8, false, [])
set_option maxRecDepth 20000 in
theorem mvX8_isTaken : MV yX8_isTaken cX8_isTaken 2 mX8_isTaken 1 := ⟨⟨inG (mt4 (List.mem_of_getElem? (i := 201) rfl)) rfl, gi_RX8, ⟨by decide +kernel, by decide +kernel⟩, by decide +kernel, by decide +kernel, by decide, by decide⟩, inG (mt4 (List.mem_of_getElem? (i := 199) rfl)) rfl, inG (mt4 (List.mem_of_getElem? (i := 200) rfl)) rfl⟩
abbrev mX8_putInto : Mt := (none, RX8, false, [])
set_option maxRecDepth 20000 in
theorem mvX8_putInto : MV yX8_putInto cX8_putInto 3 mX8_putInto 2 := ⟨⟨inG (mt4 (List.mem_of_getElem? (i := 206) rfl)) rfl, gi_RX8, ⟨by decide +kernel, by decide +kernel⟩, by decide +kernel, by decide +kernel, by decide, by decide⟩, inG (mt4 (List.mem_of_getElem? (i := 204) rfl)) rfl, inG (mt4 (List.mem_of_getElem? (i := 205) rfl)) rfl⟩
abbrev mX12_goBack : Mt := ((some .int), RX12, false, [])
set_option maxRecDepth 20000 in
theorem mvX12_goBack : MV yX12_goBack cX12_goBack 3 mX12_goBack 1 := ⟨⟨inG (mt6 (List.mem_of_getElem? (i := 78) rfl)) rfl, gi_RX12, ⟨by decide +kernel, by decide +kernel⟩, by decide +kernel, by decide +kernel, by decide, by decide⟩, inG (mt6 (List.mem_of_getElem? (i := 76) rfl)) rfl, inG (mt6 (List.mem_of_getElem? (i := 77) rfl)) rfl⟩
abbrev mL_site : Mt := ((some .int), RL, false, [(0, 12, 15, 13), (0, 12, 19, 20)])
set_option maxRecDepth 20000 in
theorem msL_site : MS yL_site cL_site 6 mL_site 5 := ⟨⟨inG (mt4 (List.mem_of_getElem? (i := 210) rfl)) rfl, gi_RL, ⟨by decide +kernel, by decide +kernel⟩, by decide +kernel, by decide +kernel, by decide, by decide⟩, inG (mt4 (List.mem_of_getElem? (i := 209) rfl)) rfl⟩
abbrev mX11_site : Mt := ((some .int), RX11, false, [])
set_option maxRecDepth 20000 in
theorem mvX11_site : MV yX11_site cX11_site 5 mX11_site 3 := ⟨⟨inG (mt4 (List.mem_of_getElem? (i := 214) rfl)) rfl, gi_RX11, ⟨by decide +kernel, by decide +kernel⟩, by decide +kernel, by decide +kernel, by decide, by decide⟩, inG (mt4 (List.mem_of_getElem? (i := 212) rfl)) rfl, inG (mt4 (List.mem_of_getElem? (i := 213) rfl)) rfl⟩
abbrev mX0_freeDirections : Mt := ((some .int), RX0, false, [])
set_option maxRecDepth 20000 in
theorem mvX0_freeDirections : MV yX0_freeDirections cX0_freeDirections 4 mX0_freeDirections 1 := ⟨⟨inG (mt2 (List.mem_of_getElem? (i := 157) rfl)) rfl, gi_RX0, ⟨by decide +kernel, by decide +kernel⟩, by decide +kernel, by decide +kernel, by decide, by decide⟩, inG (mt2 (List.mem_of_getElem? (i := 155) rfl)) rfl, inG (mt2 (List.mem_of_getElem? (i := 156) rfl)) rfl⟩
abbrev mX12_site : Mt := ((some .int), RX12, false, [])
set_option maxRecDepth 20000 in
theorem mvX12_site : MV yX12_site cX12_site 5 mX12_site 3 := ⟨⟨inG (mt6 (List.mem_of_getElem? (i := 229) rfl)) rfl, gi_RX12, ⟨by decide +kernel, by decide +kernel⟩, by decide +kernel, by decide +kernel, by decide, by decide⟩, inG (mt6 (List.mem_of_getElem? (i := 227) rfl)) rfl, inG (mt6 (List.mem_of_getElem? (i := 228) rfl)) rfl⟩
abbrev mX12_freeAround : Mt := ((some .int), RX12, false, [])
set_option maxRecDepth 20000 in
theorem mvX12_freeAround : MV yX12_freeAround cX12_freeAround 4 mX12_freeAround 1 := ⟨⟨inG (mt6 (List.mem_of_getElem? (i := 233) rfl)) rfl, gi_RX12, ⟨by decide +kernel, by decide +kernel⟩, by decide +kernel, by decide +kernel, by decide, by decide⟩, inG (mt6 (List.mem_of_getElem? (i := 232) rfl)) rfl, inG (mp_ (List.mem_of_getElem? (i := 35) rfl)) rfl⟩
abbrev mL_place : Mt := ((some .int), RL, false, [(0, 10, 13, 13)])
set_option maxRecDepth 20000 in
theorem msL_place : MS yL_place cL_place 5 mL_place 4 := ⟨⟨inG (mt4 (List.mem_of_getElem? (i := 219) rfl)) rfl, gi_RL, ⟨by decide +kernel, by decide +kernel⟩, by decide +kernel, by decide +kernel, by decide, by decide⟩, inG (mt4 (List.mem_of_getElem? (i := 218) rfl)) rfl⟩
abbrev mX11_place : Mt := ((some .int), RX11, false, [])
set_option maxRecDepth 20000 in
theorem mvX11_place : MV yX11_place cX11_place 3 mX11_place 2 := ⟨⟨inG (mt4 (List.mem_of_getElem? (i := 223) rfl)) rfl, gi_RX11, ⟨by decide +kernel, by decide +kernel⟩, by decide +kernel, by decide +kernel, by decide, by decide⟩, inG (mt4 (List.mem_of_getElem? (i := 221) rfl)) rfl, inG (mt4 (List.mem_of_getElem? (i := 222) rfl)) rfl⟩
abbrev mX12_place : Mt := ((some .int), RX12, false, [])
set_option maxRecDepth 20000 in
theorem mvX12_place : MV yX12_place cX12_place 3 mX12_place 2 := ⟨⟨inG (mt6 (List.mem_of_getElem? (i := 237) rfl)) rfl, gi_RX12, ⟨by decide +kernel, by decide +kernel⟩, by decide +kernel, by decide +kernel, by decide, by decide⟩, inG (mt6 (List.mem_of_getElem? (i := 235) rfl)) rfl, inG (mt6 (List.mem_of_getElem? (i := 236) rfl)) rfl⟩
abbrev mL_path : Mt := ((some .int), RL, false, [(0, 10, 13, 13), (0, 10, 17, 20)])
set_option maxRecDepth 20000 in
theorem msL_path : MS yL_path cL_path 5 mL_path 4 := ⟨⟨inG (mt4 (List.mem_of_getElem? (i := 227) rfl)) rfl, gi_RL, ⟨by decide +kernel, by decide +kernel⟩, by decide +kernel, by decide +kernel, by decide, by decide⟩, inG (mt4 (List.mem_of_getElem? (i := 226) rfl)) rfl⟩
abbrev mX11_path : Mt := ((some .int), RX11, false, [])
set_option maxRecDepth 20000 in
theorem mvX11_path : MV yX11_path cX11_path 4 mX11_path 2 := ⟨⟨inG (mt4 (List.mem_of_getElem? (i := 231) rfl)) rfl, gi_RX11, ⟨by decide +kernel, by decide +kernel⟩, by decide +kernel, by decide +kernel, by decide, by decide⟩, inG (mt4 (List.mem_of_getElem? (i := 229) rfl)) rfl, inG (mt4 (List.mem_of_getElem? (i := 230) rfl)) rfl⟩
abbrev mX9_corners : Mt := ((some .int), RX9, false, [])
set_option maxRecDepth 20000 in
theorem mvX9_corners : MV yX9_corners cX9_corners 3 mX9_corners 0 := ⟨⟨inG (mt4 (List.mem_of_getElem? (i := 235) rfl)) rfl, gi_RX9, ⟨by decide +kernel, by decide +kernel⟩, by decide +kernel, by decide +kernel, by decide, by decide⟩, inG (mt4 (List.mem_of_getElem? (i := 233) rfl)) rfl, inG (mt4 (List.mem_of_getElem? (i := 234) rfl)) rfl⟩
abbrev mX0_contacts : Mt := ((some .int), RX0, false, [])
set_option maxRecDepth 20000 in
theorem mvX0_contacts : MV yX0_contacts cX0_contacts 7 mX0_contacts 1 := ⟨⟨inG (mt5 (List.mem_of_getElem? (i := 1) rfl)) rfl, gi_RX0, ⟨by decide +kernel, by decide +kernel⟩, by decide +kernel, by decide +kernel, by decide, by decide⟩, inG (mt4 (List.mem_of_getElem? (i := 239) rfl)) rfl, inG (mt5 (List.mem_of_getElem? (i := 0) rfl)) rfl⟩
abbrev mX9_width : Mt := ((some .int), RX9, false, [])
set_option maxRecDepth 20000 in
theorem mvX9_width : MV yX9_width cX9_width 4 mX9_width 0 := ⟨⟨inG (mt5 (List.mem_of_getElem? (i := 9) rfl)) rfl, gi_RX9, ⟨by decide +kernel, by decide +kernel⟩, by decide +kernel, by decide +kernel, by decide, by decide⟩, inG (mt5 (List.mem_of_getElem? (i := 7) rfl)) rfl, inG (mt5 (List.mem_of_getElem? (i := 8) rfl)) rfl⟩
abbrev mX9_height : Mt := ((some .int), RX9, false, [])
set_option maxRecDepth 20000 in
theorem mvX9_height : MV yX9_height cX9_height 4 mX9_height 0 := ⟨⟨inG (mt5 (List.mem_of_getElem? (i := 16) rfl)) rfl, gi_RX9, ⟨by decide +kernel, by decide +kernel⟩, by decide +kernel, by decide +kernel, by decide, by decide⟩, inG (mt5 (List.mem_of_getElem? (i := 14) rfl)) rfl, inG (mt5 (List.mem_of_getElem? (i := 15) rfl)) rfl⟩
abbrev mX9_moment : Mt := ((some .int), RX9, false, [])
set_option maxRecDepth 20000 in
theorem mvX9_moment : MV yX9_moment cX9_moment 7 mX9_moment 0 := ⟨⟨inG (mt5 (List.mem_of_getElem? (i := 23) rfl)) rfl, gi_RX9, ⟨by decide +kernel, by decide +kernel⟩, by decide +kernel, by decide +kernel, by decide, by decide⟩, inG (mt5 (List.mem_of_getElem? (i := 21) rfl)) rfl, inG (mt5 (List.mem_of_getElem? (i := 22) rfl)) rfl⟩
abbrev mX0_freeBorder : Mt := ((some .int), RX0, false, [])
set_option maxRecDepth 20000 in
theorem mvX0_freeBorder : MV yX0_freeBorder cX0_freeBorder 4 mX0_freeBorder 1 := ⟨⟨inG (mt5 (List.mem_of_getElem? (i := 27) rfl)) rfl, gi_RX0, ⟨by decide +kernel, by decide +kernel⟩, by decide +kernel, by decide +kernel, by decide, by decide⟩, inG (mt5 (List.mem_of_getElem? (i := 25) rfl)) rfl, inG (mt5 (List.mem_of_getElem? (i := 26) rfl)) rfl⟩
abbrev mX0_neighboursIn : Mt := ((some .int), RX0, false, [])
set_option maxRecDepth 20000 in
theorem mvX0_neighboursIn : MV yX0_neighboursIn cX0_neighboursIn 5 mX0_neighboursIn 2 := ⟨⟨inG (mt5 (List.mem_of_getElem? (i := 31) rfl)) rfl, gi_RX0, ⟨by decide +kernel, by decide +kernel⟩, by decide +kernel, by decide +kernel, by decide, by decide⟩, inG (mt5 (List.mem_of_getElem? (i := 30) rfl)) rfl, inG (mp_ (List.mem_of_getElem? (i := 8) rfl)) rfl⟩
abbrev mX12_path : Mt := ((some .int), RX12, false, [])
set_option maxRecDepth 20000 in
theorem mvX12_path : MV yX12_path cX12_path 3 mX12_path 2 := ⟨⟨inG (mt7 (List.mem_of_getElem? (i := 1) rfl)) rfl, gi_RX12, ⟨by decide +kernel, by decide +kernel⟩, by decide +kernel, by decide +kernel, by decide, by decide⟩, inG (mt6 (List.mem_of_getElem? (i := 239) rfl)) rfl, inG (mt7 (List.mem_of_getElem? (i := 0) rfl)) rfl⟩
abbrev mX12_tellsPath : Mt := ((some .int), RX12, false, [])
set_option maxRecDepth 20000 in
theorem mvX12_tellsPath : MV yX12_tellsPath cX12_tellsPath 3 mX12_tellsPath 2 := ⟨⟨inG (mt7 (List.mem_of_getElem? (i := 5) rfl)) rfl, gi_RX12, ⟨by decide +kernel, by decide +kernel⟩, by decide +kernel, by decide +kernel, by decide, by decide⟩, inG (mt7 (List.mem_of_getElem? (i := 4) rfl)) rfl, inG (mp_ (List.mem_of_getElem? (i := 36) rfl)) rfl⟩
abbrev mX12_corners : Mt := ((some .int), RX12, false, [])
set_option maxRecDepth 20000 in
theorem mvX12_corners : MV yX12_corners cX12_corners 4 mX12_corners 1 := ⟨⟨inG (mt7 (List.mem_of_getElem? (i := 9) rfl)) rfl, gi_RX12, ⟨by decide +kernel, by decide +kernel⟩, by decide +kernel, by decide +kernel, by decide, by decide⟩, inG (mt7 (List.mem_of_getElem? (i := 8) rfl)) rfl, inG (mp_ (List.mem_of_getElem? (i := 37) rfl)) rfl⟩
abbrev mX12_stepOf : Mt := ((some .int), RX12, false, [])
set_option maxRecDepth 20000 in
theorem mvX12_stepOf : MV yX12_stepOf cX12_stepOf 3 mX12_stepOf 2 := ⟨⟨inG (mt7 (List.mem_of_getElem? (i := 13) rfl)) rfl, gi_RX12, ⟨by decide +kernel, by decide +kernel⟩, by decide +kernel, by decide +kernel, by decide, by decide⟩, inG (mt7 (List.mem_of_getElem? (i := 12) rfl)) rfl, inG (mp_ (List.mem_of_getElem? (i := 38) rfl)) rfl⟩
abbrev mX12_contacts : Mt := ((some .int), RX12, false, [])
set_option maxRecDepth 20000 in
theorem mvX12_contacts : MV yX12_contacts cX12_contacts 5 mX12_contacts 1 := ⟨⟨inG (mt7 (List.mem_of_getElem? (i := 17) rfl)) rfl, gi_RX12, ⟨by decide +kernel, by decide +kernel⟩, by decide +kernel, by decide +kernel, by decide, by decide⟩, inG (mt7 (List.mem_of_getElem? (i := 16) rfl)) rfl, inG (mp_ (List.mem_of_getElem? (i := 39) rfl)) rfl⟩
abbrev mX12_span : Mt := ((some .int), RX12, false, [])
set_option maxRecDepth 20000 in
theorem mvX12_span : MV yX12_span cX12_span 7 mX12_span 2 := ⟨⟨inG (mt7 (List.mem_of_getElem? (i := 21) rfl)) rfl, gi_RX12, ⟨by decide +kernel, by decide +kernel⟩, by decide +kernel, by decide +kernel, by decide, by decide⟩, inG (mt7 (List.mem_of_getElem? (i := 20) rfl)) rfl, inG (mp_ (List.mem_of_getElem? (i := 40) rfl)) rfl⟩
abbrev mX12_squared : Mt := ((some .int), RX12, false, [])
set_option maxRecDepth 20000 in
theorem msX12_squared : MS yX12_squared cX12_squared 4 mX12_squared 2 := ⟨⟨inG (mt7 (List.mem_of_getElem? (i := 24) rfl)) rfl, gi_RX12, ⟨by decide +kernel, by decide +kernel⟩, by decide +kernel, by decide +kernel, by decide, by decide⟩, inG (mt7 (List.mem_of_getElem? (i := 23) rfl)) rfl⟩
abbrev mX12_moment : Mt := ((some .int), RX12, false, [])
set_option maxRecDepth 20000 in
theorem mvX12_moment : MV yX12_moment cX12_moment 7 mX12_moment 1 := ⟨⟨inG (mt7 (List.mem_of_getElem? (i := 28) rfl)) rfl, gi_RX12, ⟨by decide +kernel, by decide +kernel⟩, by decide +kernel, by decide +kernel, by decide, by decide⟩, inG (mt7 (List.mem_of_getElem? (i := 27) rfl)) rfl, inG (mp_ (List.mem_of_getElem? (i := 41) rfl)) rfl⟩
abbrev mX12_freeBeside : Mt := ((some .int), RX12, false, [])
set_option maxRecDepth 20000 in
theorem mvX12_freeBeside : MV yX12_freeBeside cX12_freeBeside 7 mX12_freeBeside 1 := ⟨⟨inG (mt7 (List.mem_of_getElem? (i := 32) rfl)) rfl, gi_RX12, ⟨by decide +kernel, by decide +kernel⟩, by decide +kernel, by decide +kernel, by decide, by decide⟩, inG (mt7 (List.mem_of_getElem? (i := 31) rfl)) rfl, inG (mp_ (List.mem_of_getElem? (i := 42) rfl)) rfl⟩
abbrev mX11_trapped : Mt := ((some .int), RX11, false, [])
set_option maxRecDepth 20000 in
theorem mvX11_trapped : MV yX11_trapped cX11_trapped 3 mX11_trapped 0 := ⟨⟨inG (mt2 (List.mem_of_getElem? (i := 133) rfl)) rfl, gi_RX11, ⟨by decide +kernel, by decide +kernel⟩, by decide +kernel, by decide +kernel, by decide, by decide⟩, inG (mt2 (List.mem_of_getElem? (i := 131) rfl)) rfl, inG (mt2 (List.mem_of_getElem? (i := 132) rfl)) rfl⟩
abbrev mX12_trapped : Mt := ((some .int), RX12, false, [])
set_option maxRecDepth 20000 in
theorem mvX12_trapped : MV yX12_trapped cX12_trapped 3 mX12_trapped 0 := ⟨⟨inG (mt7 (List.mem_of_getElem? (i := 36) rfl)) rfl, gi_RX12, ⟨by decide +kernel, by decide +kernel⟩, by decide +kernel, by decide +kernel, by decide, by decide⟩, inG (mt7 (List.mem_of_getElem? (i := 34) rfl)) rfl, inG (mt7 (List.mem_of_getElem? (i := 35) rfl)) rfl⟩
abbrev mL_touching : Mt := ((some .int), RL, false, [(0, 10, 13, 13), (0, 10, 17, 20)])
set_option maxRecDepth 20000 in
theorem msL_touching : MS yL_touching cL_touching 5 mL_touching 4 := ⟨⟨inG (mt5 (List.mem_of_getElem? (i := 34) rfl)) rfl, gi_RL, ⟨by decide +kernel, by decide +kernel⟩, by decide +kernel, by decide +kernel, by decide, by decide⟩, inG (mt5 (List.mem_of_getElem? (i := 33) rfl)) rfl⟩
abbrev mX11_touching : Mt := ((some .int), RX11, false, [])
set_option maxRecDepth 20000 in
theorem mvX11_touching : MV yX11_touching cX11_touching 3 mX11_touching 2 := ⟨⟨inG (mt5 (List.mem_of_getElem? (i := 38) rfl)) rfl, gi_RX11, ⟨by decide +kernel, by decide +kernel⟩, by decide +kernel, by decide +kernel, by decide, by decide⟩, inG (mt5 (List.mem_of_getElem? (i := 36) rfl)) rfl, inG (mt5 (List.mem_of_getElem? (i := 37) rfl)) rfl⟩
abbrev mX0_touchingPairs : Mt := ((some .int), RX0, false, [])
set_option maxRecDepth 20000 in
theorem mvX0_touchingPairs : MV yX0_touchingPairs cX0_touchingPairs 6 mX0_touchingPairs 2 := ⟨⟨inG (mt5 (List.mem_of_getElem? (i := 42) rfl)) rfl, gi_RX0, ⟨by decide +kernel, by decide +kernel⟩, by decide +kernel, by decide +kernel, by decide, by decide⟩, inG (mt5 (List.mem_of_getElem? (i := 40) rfl)) rfl, inG (mt5 (List.mem_of_getElem? (i := 41) rfl)) rfl⟩
abbrev mX12_touching : Mt := ((some .int), RX12, false, [])
set_option maxRecDepth 20000 in
theorem mvX12_touching : MV yX12_touching cX12_touching 6 mX12_touching 2 := ⟨⟨inG (mt7 (List.mem_of_getElem? (i := 40) rfl)) rfl, gi_RX12, ⟨by decide +kernel, by decide +kernel⟩, by decide +kernel, by decide +kernel, by decide, by decide⟩, inG (mt7 (List.mem_of_getElem? (i := 38) rfl)) rfl, inG (mt7 (List.mem_of_getElem? (i := 39) rfl)) rfl⟩
abbrev mL_shape : Mt := ((some .int), RL, false, [(0, 10, 13, 13), (0, 10, 17, 20)])
set_option maxRecDepth 20000 in
theorem msL_shape : MS yL_shape cL_shape 5 mL_shape 4 := ⟨⟨inG (mt5 (List.mem_of_getElem? (i := 45) rfl)) rfl, gi_RL, ⟨by decide +kernel, by decide +kernel⟩, by decide +kernel, by decide +kernel, by decide, by decide⟩, inG (mt5 (List.mem_of_getElem? (i := 44) rfl)) rfl⟩
abbrev mX11_shape : Mt := ((some .int), RX11, false, [])
set_option maxRecDepth 20000 in
theorem mvX11_shape : MV yX11_shape cX11_shape 3 mX11_shape 2 := ⟨⟨inG (mt5 (List.mem_of_getElem? (i := 49) rfl)) rfl, gi_RX11, ⟨by decide +kernel, by decide +kernel⟩, by decide +kernel, by decide +kernel, by decide, by decide⟩, inG (mt5 (List.mem_of_getElem? (i := 47) rfl)) rfl, inG (mt5 (List.mem_of_getElem? (i := 48) rfl)) rfl⟩
abbrev mX7_find : Mt := (none, RX7, false, [])
set_option maxRecDepth 20000 in
theorem mvX7_find : MV yX7_find cX7_find 3 mX7_find 1 := ⟨⟨inG (mt5 (List.mem_of_getElem? (i := 54) rfl)) rfl, gi_RX7, ⟨by decide +kernel, by decide +kernel⟩, by decide +kernel, by decide +kernel, by decide, by decide⟩, inG (mt5 (List.mem_of_getElem? (i := 52) rfl)) rfl, inG (mt5 (List.mem_of_getElem? (i := 53) rfl)) rfl⟩
abbrev mX7_turned : Mt := ((some .int), RX7, false, [])
set_option maxRecDepth 20000 in
theorem msX7_turned : MS yX7_turned cX7_turned 2 mX7_turned 2 := ⟨⟨inG (mt5 (List.mem_of_getElem? (i := 59) rfl)) rfl, gi_RX7, ⟨by decide +kernel, by decide +kernel⟩, by decide +kernel, by decide +kernel, by decide, by decide⟩, inG (mt5 (List.mem_of_getElem? (i := 58) rfl)) rfl⟩
abbrev mX7_consider : Mt := (none, RX7, false, [])
set_option maxRecDepth 20000 in
theorem mvX7_consider : MV yX7_consider cX7_consider 6 mX7_consider 3 := ⟨⟨inG (mt5 (List.mem_of_getElem? (i := 64) rfl)) rfl, gi_RX7, ⟨by decide +kernel, by decide +kernel⟩, by decide +kernel, by decide +kernel, by decide, by decide⟩, inG (mt5 (List.mem_of_getElem? (i := 63) rfl)) rfl, inG (mp_ (List.mem_of_getElem? (i := 9) rfl)) rfl⟩
abbrev mX7_mirrored : Mt := ((some .int), RX7, false, [])
set_option maxRecDepth 20000 in
theorem msX7_mirrored : MS yX7_mirrored cX7_mirrored 1 mX7_mirrored 1 := ⟨⟨inG (mt5 (List.mem_of_getElem? (i := 67) rfl)) rfl, gi_RX7, ⟨by decide +kernel, by decide +kernel⟩, by decide +kernel, by decide +kernel, by decide, by decide⟩, inG (mt5 (List.mem_of_getElem? (i := 66) rfl)) rfl⟩
abbrev mX7_isViewLess : Mt := ((some .boolean), RX7, false, [])
set_option maxRecDepth 20000 in
theorem mvX7_isViewLess : MV yX7_isViewLess cX7_isViewLess 2 mX7_isViewLess 0 := ⟨⟨inG (mt5 (List.mem_of_getElem? (i := 71) rfl)) rfl, gi_RX7, ⟨by decide +kernel, by decide +kernel⟩, by decide +kernel, by decide +kernel, by decide, by decide⟩, inG (mt5 (List.mem_of_getElem? (i := 70) rfl)) rfl, inG (mp_ (List.mem_of_getElem? (i := 10) rfl)) rfl⟩
abbrev mX7_stepAt : Mt := ((some .int), RX7, false, [])
set_option maxRecDepth 20000 in
theorem mvX7_stepAt : MV yX7_stepAt cX7_stepAt 2 mX7_stepAt 1 := ⟨⟨inG (mt5 (List.mem_of_getElem? (i := 78) rfl)) rfl, gi_RX7, ⟨by decide +kernel, by decide +kernel⟩, by decide +kernel, by decide +kernel, by decide, by decide⟩, inG (mt5 (List.mem_of_getElem? (i := 76) rfl)) rfl, inG (mt5 (List.mem_of_getElem? (i := 77) rfl)) rfl⟩
abbrev mX12_shape : Mt := ((some .int), RX12, false, [])
set_option maxRecDepth 20000 in
theorem mvX12_shape : MV yX12_shape cX12_shape 3 mX12_shape 2 := ⟨⟨inG (mt7 (List.mem_of_getElem? (i := 44) rfl)) rfl, gi_RX12, ⟨by decide +kernel, by decide +kernel⟩, by decide +kernel, by decide +kernel, by decide, by decide⟩, inG (mt7 (List.mem_of_getElem? (i := 42) rfl)) rfl, inG (mt7 (List.mem_of_getElem? (i := 43) rfl)) rfl⟩
abbrev mX12_layShape : Mt := (none, RX12, false, [])
set_option maxRecDepth 20000 in
theorem mvX12_layShape : MV yX12_layShape cX12_layShape 7 mX12_layShape 1 := ⟨⟨inG (mt7 (List.mem_of_getElem? (i := 48) rfl)) rfl, gi_RX12, ⟨by decide +kernel, by decide +kernel⟩, by decide +kernel, by decide +kernel, by decide, by decide⟩, inG (mt7 (List.mem_of_getElem? (i := 47) rfl)) rfl, inG (mp_ (List.mem_of_getElem? (i := 43) rfl)) rfl⟩
abbrev mX12_laySteps : Mt := (none, RX12, false, [])
set_option maxRecDepth 20000 in
theorem mvX12_laySteps : MV yX12_laySteps cX12_laySteps 6 mX12_laySteps 2 := ⟨⟨inG (mt7 (List.mem_of_getElem? (i := 52) rfl)) rfl, gi_RX12, ⟨by decide +kernel, by decide +kernel⟩, by decide +kernel, by decide +kernel, by decide, by decide⟩, inG (mt7 (List.mem_of_getElem? (i := 51) rfl)) rfl, inG (mp_ (List.mem_of_getElem? (i := 44) rfl)) rfl⟩
abbrev mL_isAlike : Mt := ((some .int), RL, false, [(0, 17, 20, 13)])
set_option maxRecDepth 20000 in
theorem msL_isAlike : MS yL_isAlike cL_isAlike 5 mL_isAlike 4 := ⟨⟨inG (mt5 (List.mem_of_getElem? (i := 81) rfl)) rfl, gi_RL, ⟨by decide +kernel, by decide +kernel⟩, by decide +kernel, by decide +kernel, by decide, by decide⟩, inG (mt5 (List.mem_of_getElem? (i := 80) rfl)) rfl⟩
abbrev mX11_isAlike : Mt := ((some .boolean), RX11, false, [])
set_option maxRecDepth 20000 in
theorem mvX11_isAlike : MV yX11_isAlike cX11_isAlike 3 mX11_isAlike 2 := ⟨⟨inG (mt5 (List.mem_of_getElem? (i := 85) rfl)) rfl, gi_RX11, ⟨by decide +kernel, by decide +kernel⟩, by decide +kernel, by decide +kernel, by decide, by decide⟩, inG (mt5 (List.mem_of_getElem? (i := 83) rfl)) rfl, inG (mt5 (List.mem_of_getElem? (i := 84) rfl)) rfl⟩
abbrev mX7_matches : Mt := ((some .boolean), RX7, false, [])
set_option maxRecDepth 20000 in
theorem mvX7_matches : MV yX7_matches cX7_matches 3 mX7_matches 1 := ⟨⟨inG (mt5 (List.mem_of_getElem? (i := 89) rfl)) rfl, gi_RX7, ⟨by decide +kernel, by decide +kernel⟩, by decide +kernel, by decide +kernel, by decide, by decide⟩, inG (mt5 (List.mem_of_getElem? (i := 87) rfl)) rfl, inG (mt5 (List.mem_of_getElem? (i := 88) rfl)) rfl⟩
abbrev mX12_isAlike : Mt := ((some .boolean), RX12, false, [])
set_option maxRecDepth 20000 in
theorem mvX12_isAlike : MV yX12_isAlike cX12_isAlike 3 mX12_isAlike 2 := ⟨⟨inG (mt7 (List.mem_of_getElem? (i := 56) rfl)) rfl, gi_RX12, ⟨by decide +kernel, by decide +kernel⟩, by decide +kernel, by decide +kernel, by decide, by decide⟩, inG (mt7 (List.mem_of_getElem? (i := 54) rfl)) rfl, inG (mt7 (List.mem_of_getElem? (i := 55) rfl)) rfl⟩
abbrev mX12_hasShapeOf : Mt := ((some .boolean), RX12, false, [])
set_option maxRecDepth 20000 in
theorem mvX12_hasShapeOf : MV yX12_hasShapeOf cX12_hasShapeOf 6 mX12_hasShapeOf 2 := ⟨⟨inG (mt7 (List.mem_of_getElem? (i := 60) rfl)) rfl, gi_RX12, ⟨by decide +kernel, by decide +kernel⟩, by decide +kernel, by decide +kernel, by decide, by decide⟩, inG (mt7 (List.mem_of_getElem? (i := 59) rfl)) rfl, inG (mp_ (List.mem_of_getElem? (i := 45) rfl)) rfl⟩
abbrev mL_free : Mt := ((some .int), RL, false, [(0, 9, 12, 20)])
set_option maxRecDepth 20000 in
theorem msL_free : MS yL_free cL_free 4 mL_free 3 := ⟨⟨inG (mt5 (List.mem_of_getElem? (i := 92) rfl)) rfl, gi_RL, ⟨by decide +kernel, by decide +kernel⟩, by decide +kernel, by decide +kernel, by decide, by decide⟩, inG (mt5 (List.mem_of_getElem? (i := 91) rfl)) rfl⟩
abbrev mX11_free : Mt := ((some .int), RX11, false, [])
set_option maxRecDepth 20000 in
theorem mvX11_free : MV yX11_free cX11_free 2 mX11_free 1 := ⟨⟨inG (mt5 (List.mem_of_getElem? (i := 96) rfl)) rfl, gi_RX11, ⟨by decide +kernel, by decide +kernel⟩, by decide +kernel, by decide +kernel, by decide, by decide⟩, inG (mt5 (List.mem_of_getElem? (i := 94) rfl)) rfl, inG (mt5 (List.mem_of_getElem? (i := 95) rfl)) rfl⟩
abbrev mX4_explore : Mt := (none, RX4, false, [])
set_option maxRecDepth 20000 in
theorem mvX4_explore : MV yX4_explore cX4_explore 3 mX4_explore 1 := ⟨⟨inG (mt5 (List.mem_of_getElem? (i := 100) rfl)) rfl, gi_RX4, ⟨by decide +kernel, by decide +kernel⟩, by decide +kernel, by decide +kernel, by decide, by decide⟩, inG (mt5 (List.mem_of_getElem? (i := 98) rfl)) rfl, inG (mt5 (List.mem_of_getElem? (i := 99) rfl)) rfl⟩
abbrev mX4_isUnseen : Mt := ((some .boolean), RX4, false, [])
set_option maxRecDepth 20000 in
theorem mvX4_isUnseen : MV yX4_isUnseen cX4_isUnseen 3 mX4_isUnseen 2 := ⟨⟨inG (mt5 (List.mem_of_getElem? (i := 105) rfl)) rfl, gi_RX4, ⟨by decide +kernel, by decide +kernel⟩, by decide +kernel, by decide +kernel, by decide, by decide⟩, inG (mt5 (List.mem_of_getElem? (i := 104) rfl)) rfl, inG (mp_ (List.mem_of_getElem? (i := 11) rfl)) rfl⟩
abbrev mX4_flood : Mt := ((some .int), RX4, false, [])
set_option maxRecDepth 20000 in
theorem mvX4_flood : MV yX4_flood cX4_flood 7 mX4_flood 2 := ⟨⟨inG (mt5 (List.mem_of_getElem? (i := 110) rfl)) rfl, gi_RX4, ⟨by decide +kernel, by decide +kernel⟩, by decide +kernel, by decide +kernel, by decide, by decide⟩, inG (mt5 (List.mem_of_getElem? (i := 109) rfl)) rfl, inG (mp_ (List.mem_of_getElem? (i := 12) rfl)) rfl⟩
abbrev mX0_takenSites : Mt := ((some .int), RX0, false, [])
set_option maxRecDepth 20000 in
theorem mvX0_takenSites : MV yX0_takenSites cX0_takenSites 1 mX0_takenSites 0 := ⟨⟨inG (mt2 (List.mem_of_getElem? (i := 188) rfl)) rfl, gi_RX0, ⟨by decide +kernel, by decide +kernel⟩, by decide +kernel, by decide +kernel, by decide, by decide⟩, inG (mt2 (List.mem_of_getElem? (i := 186) rfl)) rfl, inG (mt2 (List.mem_of_getElem? (i := 187) rfl)) rfl⟩
abbrev mX4_size : Mt := ((some .int), RX4, false, [])
set_option maxRecDepth 20000 in
theorem mvX4_size : MV yX4_size cX4_size 1 mX4_size 0 := ⟨⟨inG (mt5 (List.mem_of_getElem? (i := 115) rfl)) rfl, gi_RX4, ⟨by decide +kernel, by decide +kernel⟩, by decide +kernel, by decide +kernel, by decide, by decide⟩, inG (mt5 (List.mem_of_getElem? (i := 113) rfl)) rfl, inG (mt5 (List.mem_of_getElem? (i := 114) rfl)) rfl⟩
abbrev mX4_greatest : Mt := ((some .int), RX4, false, [])
set_option maxRecDepth 20000 in
theorem mvX4_greatest : MV yX4_greatest cX4_greatest 3 mX4_greatest 0 := ⟨⟨inG (mt5 (List.mem_of_getElem? (i := 119) rfl)) rfl, gi_RX4, ⟨by decide +kernel, by decide +kernel⟩, by decide +kernel, by decide +kernel, by decide, by decide⟩, inG (mt5 (List.mem_of_getElem? (i := 117) rfl)) rfl, inG (mt5 (List.mem_of_getElem? (i := 118) rfl)) rfl⟩
abbrev mX11_regionsAtHeads : Mt := ((some .int), RX11, false, [])
set_option maxRecDepth 20000 in
theorem mvX11_regionsAtHeads : MV yX11_regionsAtHeads cX11_regionsAtHeads 2 mX11_regionsAtHeads 0 := ⟨⟨inG (mt5 (List.mem_of_getElem? (i := 124) rfl)) rfl, gi_RX11, ⟨by decide +kernel, by decide +kernel⟩, by decide +kernel, by decide +kernel, by decide, by decide⟩, inG (mt5 (List.mem_of_getElem? (i := 123) rfl)) rfl, inG (mp_ (List.mem_of_getElem? (i := 13) rfl)) rfl⟩
abbrev mX4_chooseAround : Mt := (none, RX4, false, [])
set_option maxRecDepth 20000 in
theorem mvX4_chooseAround : MV yX4_chooseAround cX4_chooseAround 4 mX4_chooseAround 1 := ⟨⟨inG (mt5 (List.mem_of_getElem? (i := 128) rfl)) rfl, gi_RX4, ⟨by decide +kernel, by decide +kernel⟩, by decide +kernel, by decide +kernel, by decide, by decide⟩, inG (mt5 (List.mem_of_getElem? (i := 126) rfl)) rfl, inG (mt5 (List.mem_of_getElem? (i := 127) rfl)) rfl⟩
abbrev mX4_chosenRegions : Mt := ((some .int), RX4, false, [])
set_option maxRecDepth 20000 in
theorem mvX4_chosenRegions : MV yX4_chosenRegions cX4_chosenRegions 3 mX4_chosenRegions 0 := ⟨⟨inG (mt5 (List.mem_of_getElem? (i := 133) rfl)) rfl, gi_RX4, ⟨by decide +kernel, by decide +kernel⟩, by decide +kernel, by decide +kernel, by decide, by decide⟩, inG (mt5 (List.mem_of_getElem? (i := 131) rfl)) rfl, inG (mt5 (List.mem_of_getElem? (i := 132) rfl)) rfl⟩
abbrev mX12_free : Mt := ((some .int), RX12, false, [])
set_option maxRecDepth 20000 in
theorem mvX12_free : MV yX12_free cX12_free 4 mX12_free 1 := ⟨⟨inG (mt7 (List.mem_of_getElem? (i := 64) rfl)) rfl, gi_RX12, ⟨by decide +kernel, by decide +kernel⟩, by decide +kernel, by decide +kernel, by decide, by decide⟩, inG (mt7 (List.mem_of_getElem? (i := 62) rfl)) rfl, inG (mt7 (List.mem_of_getElem? (i := 63) rfl)) rfl⟩
abbrev mX12_findRegions : Mt := (none, RX12, false, [])
set_option maxRecDepth 20000 in
theorem mvX12_findRegions : MV yX12_findRegions cX12_findRegions 2 mX12_findRegions 0 := ⟨⟨inG (mt7 (List.mem_of_getElem? (i := 68) rfl)) rfl, gi_RX12, ⟨by decide +kernel, by decide +kernel⟩, by decide +kernel, by decide +kernel, by decide, by decide⟩, inG (mt7 (List.mem_of_getElem? (i := 67) rfl)) rfl, inG (mp_ (List.mem_of_getElem? (i := 46) rfl)) rfl⟩
abbrev mX12_growRegion : Mt := (none, RX12, false, [])
set_option maxRecDepth 20000 in
theorem mvX12_growRegion : MV yX12_growRegion cX12_growRegion 5 mX12_growRegion 1 := ⟨⟨inG (mt7 (List.mem_of_getElem? (i := 72) rfl)) rfl, gi_RX12, ⟨by decide +kernel, by decide +kernel⟩, by decide +kernel, by decide +kernel, by decide, by decide⟩, inG (mt7 (List.mem_of_getElem? (i := 71) rfl)) rfl, inG (mp_ (List.mem_of_getElem? (i := 47) rfl)) rfl⟩
abbrev mX12_isBeside : Mt := ((some .boolean), RX12, false, [])
set_option maxRecDepth 20000 in
theorem mvX12_isBeside : MV yX12_isBeside cX12_isBeside 6 mX12_isBeside 2 := ⟨⟨inG (mt7 (List.mem_of_getElem? (i := 76) rfl)) rfl, gi_RX12, ⟨by decide +kernel, by decide +kernel⟩, by decide +kernel, by decide +kernel, by decide, by decide⟩, inG (mt7 (List.mem_of_getElem? (i := 75) rfl)) rfl, inG (mp_ (List.mem_of_getElem? (i := 48) rfl)) rfl⟩
abbrev mX12_freeSites : Mt := ((some .int), RX12, false, [])
set_option maxRecDepth 20000 in
theorem mvX12_freeSites : MV yX12_freeSites cX12_freeSites 3 mX12_freeSites 0 := ⟨⟨inG (mt7 (List.mem_of_getElem? (i := 80) rfl)) rfl, gi_RX12, ⟨by decide +kernel, by decide +kernel⟩, by decide +kernel, by decide +kernel, by decide, by decide⟩, inG (mt7 (List.mem_of_getElem? (i := 79) rfl)) rfl, inG (mp_ (List.mem_of_getElem? (i := 49) rfl)) rfl⟩
abbrev mX12_greatestRegion : Mt := ((some .int), RX12, false, [])
set_option maxRecDepth 20000 in
theorem mvX12_greatestRegion : MV yX12_greatestRegion cX12_greatestRegion 3 mX12_greatestRegion 0 := ⟨⟨inG (mt7 (List.mem_of_getElem? (i := 84) rfl)) rfl, gi_RX12, ⟨by decide +kernel, by decide +kernel⟩, by decide +kernel, by decide +kernel, by decide, by decide⟩, inG (mt7 (List.mem_of_getElem? (i := 83) rfl)) rfl, inG (mp_ (List.mem_of_getElem? (i := 50) rfl)) rfl⟩
abbrev mX12_isBesideHead : Mt := ((some .boolean), RX12, false, [])
set_option maxRecDepth 20000 in
theorem mvX12_isBesideHead : MV yX12_isBesideHead cX12_isBesideHead 4 mX12_isBesideHead 1 := ⟨⟨inG (mt7 (List.mem_of_getElem? (i := 88) rfl)) rfl, gi_RX12, ⟨by decide +kernel, by decide +kernel⟩, by decide +kernel, by decide +kernel, by decide, by decide⟩, inG (mt7 (List.mem_of_getElem? (i := 87) rfl)) rfl, inG (mp_ (List.mem_of_getElem? (i := 51) rfl)) rfl⟩
abbrev mL_ways : Mt := ((some .int), RL, false, [(0, 10, 13, 13), (0, 10, 17, 20)])
set_option maxRecDepth 20000 in
theorem msL_ways : MS yL_ways cL_ways 5 mL_ways 4 := ⟨⟨inG (mt5 (List.mem_of_getElem? (i := 136) rfl)) rfl, gi_RL, ⟨by decide +kernel, by decide +kernel⟩, by decide +kernel, by decide +kernel, by decide, by decide⟩, inG (mt5 (List.mem_of_getElem? (i := 135) rfl)) rfl⟩
abbrev mX11_ways : Mt := ((some .int), RX11, false, [])
set_option maxRecDepth 20000 in
theorem mvX11_ways : MV yX11_ways cX11_ways 3 mX11_ways 2 := ⟨⟨inG (mt5 (List.mem_of_getElem? (i := 140) rfl)) rfl, gi_RX11, ⟨by decide +kernel, by decide +kernel⟩, by decide +kernel, by decide +kernel, by decide, by decide⟩, inG (mt5 (List.mem_of_getElem? (i := 138) rfl)) rfl, inG (mt5 (List.mem_of_getElem? (i := 139) rfl)) rfl⟩
abbrev mX6_rowsOfSteps : Mt := ((some .int), RX6, false, [])
set_option maxRecDepth 20000 in
theorem mvX6_rowsOfSteps : MV yX6_rowsOfSteps cX6_rowsOfSteps 4 mX6_rowsOfSteps 3 := ⟨⟨inG (mt5 (List.mem_of_getElem? (i := 144) rfl)) rfl, gi_RX6, ⟨by decide +kernel, by decide +kernel⟩, by decide +kernel, by decide +kernel, by decide, by decide⟩, inG (mt5 (List.mem_of_getElem? (i := 142) rfl)) rfl, inG (mt5 (List.mem_of_getElem? (i := 143) rfl)) rfl⟩
abbrev mX6_survey : Mt := (none, RX6, false, [])
set_option maxRecDepth 20000 in
theorem mvX6_survey : MV yX6_survey cX6_survey 3 mX6_survey 1 := ⟨⟨inG (mt5 (List.mem_of_getElem? (i := 148) rfl)) rfl, gi_RX6, ⟨by decide +kernel, by decide +kernel⟩, by decide +kernel, by decide +kernel, by decide, by decide⟩, inG (mt5 (List.mem_of_getElem? (i := 147) rfl)) rfl, inG (mp_ (List.mem_of_getElem? (i := 14) rfl)) rfl⟩
abbrev mX6_rowsFrom : Mt := ((some .int), RX6, false, [])
set_option maxRecDepth 20000 in
theorem msX6_rowsFrom : MS yX6_rowsFrom cX6_rowsFrom 5 mX6_rowsFrom 3 := ⟨⟨inG (mt5 (List.mem_of_getElem? (i := 154) rfl)) rfl, gi_RX6, ⟨by decide +kernel, by decide +kernel⟩, by decide +kernel, by decide +kernel, by decide, by decide⟩, inG (mt5 (List.mem_of_getElem? (i := 153) rfl)) rfl⟩
abbrev mX6_rowsThrough : Mt := ((some .int), RX6, false, [])
set_option maxRecDepth 20000 in
theorem msX6_rowsThrough : MS yX6_rowsThrough cX6_rowsThrough 4 mX6_rowsThrough 3 := ⟨⟨inG (mt5 (List.mem_of_getElem? (i := 158) rfl)) rfl, gi_RX6, ⟨by decide +kernel, by decide +kernel⟩, by decide +kernel, by decide +kernel, by decide, by decide⟩, inG (mt5 (List.mem_of_getElem? (i := 157) rfl)) rfl⟩
abbrev mX12_ways : Mt := ((some .int), RX12, false, [])
set_option maxRecDepth 20000 in
theorem mvX12_ways : MV yX12_ways cX12_ways 3 mX12_ways 2 := ⟨⟨inG (mt7 (List.mem_of_getElem? (i := 92) rfl)) rfl, gi_RX12, ⟨by decide +kernel, by decide +kernel⟩, by decide +kernel, by decide +kernel, by decide, by decide⟩, inG (mt7 (List.mem_of_getElem? (i := 90) rfl)) rfl, inG (mt7 (List.mem_of_getElem? (i := 91) rfl)) rfl⟩
abbrev mX12_waysFrom : Mt := ((some .int), RX12, false, [])
set_option maxRecDepth 20000 in
theorem mvX12_waysFrom : MV yX12_waysFrom cX12_waysFrom 6 mX12_waysFrom 2 := ⟨⟨inG (mt7 (List.mem_of_getElem? (i := 96) rfl)) rfl, gi_RX12, ⟨by decide +kernel, by decide +kernel⟩, by decide +kernel, by decide +kernel, by decide, by decide⟩, inG (mt7 (List.mem_of_getElem? (i := 95) rfl)) rfl, inG (mp_ (List.mem_of_getElem? (i := 52) rfl)) rfl⟩
abbrev mL_bestStep : Mt := ((some .int), RL, false, [(0, 9, 12, 13)])
set_option maxRecDepth 20000 in
theorem msL_bestStep : MS yL_bestStep cL_bestStep 4 mL_bestStep 3 := ⟨⟨inG (mt5 (List.mem_of_getElem? (i := 163) rfl)) rfl, gi_RL, ⟨by decide +kernel, by decide +kernel⟩, by decide +kernel, by decide +kernel, by decide, by decide⟩, inG (mt5 (List.mem_of_getElem? (i := 162) rfl)) rfl⟩
abbrev mX11_bestStep : Mt := ((some .int), RX11, false, [])
set_option maxRecDepth 20000 in
theorem mvX11_bestStep : MV yX11_bestStep cX11_bestStep 2 mX11_bestStep 1 := ⟨⟨inG (mt5 (List.mem_of_getElem? (i := 167) rfl)) rfl, gi_RX11, ⟨by decide +kernel, by decide +kernel⟩, by decide +kernel, by decide +kernel, by decide, by decide⟩, inG (mt5 (List.mem_of_getElem? (i := 165) rfl)) rfl, inG (mt5 (List.mem_of_getElem? (i := 166) rfl)) rfl⟩
abbrev mX6_bestDirection : Mt := ((some .int), RX6, false, [])
set_option maxRecDepth 20000 in
theorem mvX6_bestDirection : MV yX6_bestDirection cX6_bestDirection 8 mX6_bestDirection 2 := ⟨⟨inG (mt5 (List.mem_of_getElem? (i := 171) rfl)) rfl, gi_RX6, ⟨by decide +kernel, by decide +kernel⟩, by decide +kernel, by decide +kernel, by decide, by decide⟩, inG (mt5 (List.mem_of_getElem? (i := 169) rfl)) rfl, inG (mt5 (List.mem_of_getElem? (i := 170) rfl)) rfl⟩
abbrev mX12_bestStep : Mt := ((some .int), RX12, false, [])
set_option maxRecDepth 20000 in
theorem mvX12_bestStep : MV yX12_bestStep cX12_bestStep 7 mX12_bestStep 1 := ⟨⟨inG (mt7 (List.mem_of_getElem? (i := 100) rfl)) rfl, gi_RX12, ⟨by decide +kernel, by decide +kernel⟩, by decide +kernel, by decide +kernel, by decide, by decide⟩, inG (mt7 (List.mem_of_getElem? (i := 98) rfl)) rfl, inG (mt7 (List.mem_of_getElem? (i := 99) rfl)) rfl⟩
abbrev mL_reach : Mt := ((some .int), RL, false, [(0, 9, 12, 13)])
set_option maxRecDepth 20000 in
theorem msL_reach : MS yL_reach cL_reach 4 mL_reach 3 := ⟨⟨inG (mt5 (List.mem_of_getElem? (i := 174) rfl)) rfl, gi_RL, ⟨by decide +kernel, by decide +kernel⟩, by decide +kernel, by decide +kernel, by decide, by decide⟩, inG (mt5 (List.mem_of_getElem? (i := 173) rfl)) rfl⟩
abbrev mX11_reach : Mt := ((some .int), RX11, false, [])
set_option maxRecDepth 20000 in
theorem mvX11_reach : MV yX11_reach cX11_reach 2 mX11_reach 1 := ⟨⟨inG (mt5 (List.mem_of_getElem? (i := 178) rfl)) rfl, gi_RX11, ⟨by decide +kernel, by decide +kernel⟩, by decide +kernel, by decide +kernel, by decide, by decide⟩, inG (mt5 (List.mem_of_getElem? (i := 176) rfl)) rfl, inG (mt5 (List.mem_of_getElem? (i := 177) rfl)) rfl⟩
abbrev mX4_chosenSites : Mt := ((some .int), RX4, false, [])
set_option maxRecDepth 20000 in
theorem mvX4_chosenSites : MV yX4_chosenSites cX4_chosenSites 3 mX4_chosenSites 0 := ⟨⟨inG (mt5 (List.mem_of_getElem? (i := 182) rfl)) rfl, gi_RX4, ⟨by decide +kernel, by decide +kernel⟩, by decide +kernel, by decide +kernel, by decide, by decide⟩, inG (mt5 (List.mem_of_getElem? (i := 180) rfl)) rfl, inG (mt5 (List.mem_of_getElem? (i := 181) rfl)) rfl⟩
abbrev mX12_reach : Mt := ((some .int), RX12, false, [])
set_option maxRecDepth 20000 in
theorem mvX12_reach : MV yX12_reach cX12_reach 4 mX12_reach 1 := ⟨⟨inG (mt7 (List.mem_of_getElem? (i := 104) rfl)) rfl, gi_RX12, ⟨by decide +kernel, by decide +kernel⟩, by decide +kernel, by decide +kernel, by decide, by decide⟩, inG (mt7 (List.mem_of_getElem? (i := 102) rfl)) rfl, inG (mt7 (List.mem_of_getElem? (i := 103) rfl)) rfl⟩
abbrev mL_ifTurned : Mt := ((some .int), RL, false, [(0, 12, 15, 13), (0, 12, 19, 20)])
set_option maxRecDepth 20000 in
theorem msL_ifTurned : MS yL_ifTurned cL_ifTurned 6 mL_ifTurned 5 := ⟨⟨inG (mt5 (List.mem_of_getElem? (i := 185) rfl)) rfl, gi_RL, ⟨by decide +kernel, by decide +kernel⟩, by decide +kernel, by decide +kernel, by decide, by decide⟩, inG (mt5 (List.mem_of_getElem? (i := 184) rfl)) rfl⟩
abbrev mX11_ifTurned : Mt := ((some .int), RX11, false, [])
set_option maxRecDepth 20000 in
theorem mvX11_ifTurned : MV yX11_ifTurned cX11_ifTurned 4 mX11_ifTurned 3 := ⟨⟨inG (mt5 (List.mem_of_getElem? (i := 189) rfl)) rfl, gi_RX11, ⟨by decide +kernel, by decide +kernel⟩, by decide +kernel, by decide +kernel, by decide, by decide⟩, inG (mt5 (List.mem_of_getElem? (i := 187) rfl)) rfl, inG (mt5 (List.mem_of_getElem? (i := 188) rfl)) rfl⟩
abbrev mX12_ifTurned : Mt := ((some .int), RX12, false, [])
set_option maxRecDepth 20000 in
theorem mvX12_ifTurned : MV yX12_ifTurned cX12_ifTurned 4 mX12_ifTurned 3 := ⟨⟨inG (mt7 (List.mem_of_getElem? (i := 108) rfl)) rfl, gi_RX12, ⟨by decide +kernel, by decide +kernel⟩, by decide +kernel, by decide +kernel, by decide, by decide⟩, inG (mt7 (List.mem_of_getElem? (i := 106) rfl)) rfl, inG (mt7 (List.mem_of_getElem? (i := 107) rfl)) rfl⟩
abbrev mL_turnable : Mt := ((some .int), RL, false, [(0, 9, 12, 13)])
set_option maxRecDepth 20000 in
theorem msL_turnable : MS yL_turnable cL_turnable 4 mL_turnable 3 := ⟨⟨inG (mt5 (List.mem_of_getElem? (i := 192) rfl)) rfl, gi_RL, ⟨by decide +kernel, by decide +kernel⟩, by decide +kernel, by decide +kernel, by decide, by decide⟩, inG (mt5 (List.mem_of_getElem? (i := 191) rfl)) rfl⟩
abbrev mX11_turnable : Mt := ((some .int), RX11, false, [])
set_option maxRecDepth 20000 in
theorem mvX11_turnable : MV yX11_turnable cX11_turnable 2 mX11_turnable 1 := ⟨⟨inG (mt5 (List.mem_of_getElem? (i := 196) rfl)) rfl, gi_RX11, ⟨by decide +kernel, by decide +kernel⟩, by decide +kernel, by decide +kernel, by decide, by decide⟩, inG (mt5 (List.mem_of_getElem? (i := 194) rfl)) rfl, inG (mt5 (List.mem_of_getElem? (i := 195) rfl)) rfl⟩
abbrev mX10_possibleTurns : Mt := ((some .int), RX10, false, [])
set_option maxRecDepth 20000 in
theorem mvX10_possibleTurns : MV yX10_possibleTurns cX10_possibleTurns 6 mX10_possibleTurns 2 := ⟨⟨inG (mt5 (List.mem_of_getElem? (i := 200) rfl)) rfl, gi_RX10, ⟨by decide +kernel, by decide +kernel⟩, by decide +kernel, by decide +kernel, by decide, by decide⟩, inG (mt5 (List.mem_of_getElem? (i := 198) rfl)) rfl, inG (mt5 (List.mem_of_getElem? (i := 199) rfl)) rfl⟩
abbrev mX12_turnable : Mt := ((some .int), RX12, false, [])
set_option maxRecDepth 20000 in
theorem mvX12_turnable : MV yX12_turnable cX12_turnable 5 mX12_turnable 1 := ⟨⟨inG (mt7 (List.mem_of_getElem? (i := 112) rfl)) rfl, gi_RX12, ⟨by decide +kernel, by decide +kernel⟩, by decide +kernel, by decide +kernel, by decide, by decide⟩, inG (mt7 (List.mem_of_getElem? (i := 110) rfl)) rfl, inG (mt7 (List.mem_of_getElem? (i := 111) rfl)) rfl⟩
abbrev mL_count : Mt := ((some .int), RL, false, [(0, 9, 12, 20)])
set_option maxRecDepth 20000 in
theorem msL_count : MS yL_count cL_count 4 mL_count 3 := ⟨⟨inG (mt5 (List.mem_of_getElem? (i := 205) rfl)) rfl, gi_RL, ⟨by decide +kernel, by decide +kernel⟩, by decide +kernel, by decide +kernel, by decide, by decide⟩, inG (mt5 (List.mem_of_getElem? (i := 204) rfl)) rfl⟩
abbrev mX11_count : Mt := ((some .int), RX11, false, [])
set_option maxRecDepth 20000 in
theorem mvX11_count : MV yX11_count cX11_count 2 mX11_count 1 := ⟨⟨inG (mt5 (List.mem_of_getElem? (i := 209) rfl)) rfl, gi_RX11, ⟨by decide +kernel, by decide +kernel⟩, by decide +kernel, by decide +kernel, by decide, by decide⟩, inG (mt5 (List.mem_of_getElem? (i := 207) rfl)) rfl, inG (mt5 (List.mem_of_getElem? (i := 208) rfl)) rfl⟩
abbrev mX0_stepsMade : Mt := ((some .int), RX0, false, [])
set_option maxRecDepth 20000 in
theorem mvX0_stepsMade : MV yX0_stepsMade cX0_stepsMade 1 mX0_stepsMade 0 := ⟨⟨inG (mt5 (List.mem_of_getElem? (i := 213) rfl)) rfl, gi_RX0, ⟨by decide +kernel, by decide +kernel⟩, by decide +kernel, by decide +kernel, by decide, by decide⟩, inG (mt5 (List.mem_of_getElem? (i := 211) rfl)) rfl, inG (mt5 (List.mem_of_getElem? (i := 212) rfl)) rfl⟩
abbrev mX0_refusals : Mt := ((some .int), RX0, false, [])
set_option maxRecDepth 20000 in
theorem mvX0_refusals : MV yX0_refusals cX0_refusals 1 mX0_refusals 0 := ⟨⟨inG (mt5 (List.mem_of_getElem? (i := 217) rfl)) rfl, gi_RX0, ⟨by decide +kernel, by decide +kernel⟩, by decide +kernel, by decide +kernel, by decide, by decide⟩, inG (mt5 (List.mem_of_getElem? (i := 215) rfl)) rfl, inG (mt5 (List.mem_of_getElem? (i := 216) rfl)) rfl⟩
abbrev mX0_turnsMade : Mt := ((some .int), RX0, false, [])
set_option maxRecDepth 20000 in
theorem mvX0_turnsMade : MV yX0_turnsMade cX0_turnsMade 1 mX0_turnsMade 0 := ⟨⟨inG (mt5 (List.mem_of_getElem? (i := 221) rfl)) rfl, gi_RX0, ⟨by decide +kernel, by decide +kernel⟩, by decide +kernel, by decide +kernel, by decide, by decide⟩, inG (mt5 (List.mem_of_getElem? (i := 219) rfl)) rfl, inG (mt5 (List.mem_of_getElem? (i := 220) rfl)) rfl⟩
abbrev mX12_count : Mt := ((some .int), RX12, false, [])
set_option maxRecDepth 20000 in
theorem mvX12_count : MV yX12_count cX12_count 2 mX12_count 1 := ⟨⟨inG (mt7 (List.mem_of_getElem? (i := 116) rfl)) rfl, gi_RX12, ⟨by decide +kernel, by decide +kernel⟩, by decide +kernel, by decide +kernel, by decide, by decide⟩, inG (mt7 (List.mem_of_getElem? (i := 114) rfl)) rfl, inG (mt7 (List.mem_of_getElem? (i := 115) rfl)) rfl⟩
abbrev mX12_sitesInPaths : Mt := ((some .int), RX12, false, [])
set_option maxRecDepth 20000 in
theorem mvX12_sitesInPaths : MV yX12_sitesInPaths cX12_sitesInPaths 3 mX12_sitesInPaths 0 := ⟨⟨inG (mt7 (List.mem_of_getElem? (i := 120) rfl)) rfl, gi_RX12, ⟨by decide +kernel, by decide +kernel⟩, by decide +kernel, by decide +kernel, by decide, by decide⟩, inG (mt7 (List.mem_of_getElem? (i := 119) rfl)) rfl, inG (mp_ (List.mem_of_getElem? (i := 53) rfl)) rfl⟩
abbrev mL_spread : Mt := ((some .int), RL, false, [(0, 8, 11, 13)])
set_option maxRecDepth 20000 in
theorem msL_spread : MS yL_spread cL_spread 4 mL_spread 3 := ⟨⟨inG (mt5 (List.mem_of_getElem? (i := 224) rfl)) rfl, gi_RL, ⟨by decide +kernel, by decide +kernel⟩, by decide +kernel, by decide +kernel, by decide, by decide⟩, inG (mt5 (List.mem_of_getElem? (i := 223) rfl)) rfl⟩
abbrev mX11_spread : Mt := ((some .double), RX11, false, [])
set_option maxRecDepth 20000 in
theorem mvX11_spread : MV yX11_spread cX11_spread 5 mX11_spread 1 := ⟨⟨inG (mt5 (List.mem_of_getElem? (i := 228) rfl)) rfl, gi_RX11, ⟨by decide +kernel, by decide +kernel⟩, by decide +kernel, by decide +kernel, by decide, by decide⟩, inG (mt5 (List.mem_of_getElem? (i := 226) rfl)) rfl, inG (mt5 (List.mem_of_getElem? (i := 227) rfl)) rfl⟩
abbrev mX12_spread : Mt := ((some .double), RX12, false, [])
set_option maxRecDepth 20000 in
theorem mvX12_spread : MV yX12_spread cX12_spread 4 mX12_spread 1 := ⟨⟨inG (mt7 (List.mem_of_getElem? (i := 124) rfl)) rfl, gi_RX12, ⟨by decide +kernel, by decide +kernel⟩, by decide +kernel, by decide +kernel, by decide, by decide⟩, inG (mt7 (List.mem_of_getElem? (i := 122) rfl)) rfl, inG (mt7 (List.mem_of_getElem? (i := 123) rfl)) rfl⟩
abbrev mX11_share : Mt := ((some .float), RX11, false, [])
set_option maxRecDepth 20000 in
theorem mvX11_share : MV yX11_share cX11_share 1 mX11_share 0 := ⟨⟨inG (mt2 (List.mem_of_getElem? (i := 184) rfl)) rfl, gi_RX11, ⟨by decide +kernel, by decide +kernel⟩, by decide +kernel, by decide +kernel, by decide, by decide⟩, inG (mt2 (List.mem_of_getElem? (i := 182) rfl)) rfl, inG (mt2 (List.mem_of_getElem? (i := 183) rfl)) rfl⟩
abbrev mX12_share : Mt := ((some .float), RX12, false, [])
set_option maxRecDepth 20000 in
theorem mvX12_share : MV yX12_share cX12_share 1 mX12_share 0 := ⟨⟨inG (mt7 (List.mem_of_getElem? (i := 128) rfl)) rfl, gi_RX12, ⟨by decide +kernel, by decide +kernel⟩, by decide +kernel, by decide +kernel, by decide, by decide⟩, inG (mt7 (List.mem_of_getElem? (i := 126) rfl)) rfl, inG (mt7 (List.mem_of_getElem? (i := 127) rfl)) rfl⟩
set_option maxRecDepth 20000 in
theorem lkL_108 : Cond.methodLink RL 108 yX11_init ∈ GW := inG (mt1 (List.mem_of_getElem? (i := 30) rfl)) rfl
set_option maxRecDepth 20000 in
theorem lkX11_3 : Cond.methodLink RX11 3 objectInit ∈ GW := inG (mt1 (List.mem_of_getElem? (i := 33) rfl)) rfl
set_option maxRecDepth 20000 in
theorem lkX11_11 : Cond.methodLink RX11 11 yX0_init ∈ GW := inG (mt1 (List.mem_of_getElem? (i := 38) rfl)) rfl
set_option maxRecDepth 20000 in
theorem lkX0_3 : Cond.methodLink RX0 3 objectInit ∈ GW := inG (mt1 (List.mem_of_getElem? (i := 41) rfl)) rfl
set_option maxRecDepth 20000 in
theorem lkX9_3 : Cond.methodLink RX9 3 objectInit ∈ GW := inG (mt1 (List.mem_of_getElem? (i := 48) rfl)) rfl
set_option maxRecDepth 20000 in
theorem lkX0_25 : Cond.methodLink RX0 25 yJ7_fill_53178 ∈ GW := inG (mt1 (List.mem_of_getElem? (i := 57) rfl)) rfl
set_option maxRecDepth 20000 in
theorem lkX11_18 : Cond.methodLink RX11 18 yX1_init ∈ GW := inG (mt1 (List.mem_of_getElem? (i := 92) rfl)) rfl
set_option maxRecDepth 20000 in
theorem lkX1_3 : Cond.methodLink RX1 3 objectInit ∈ GW := inG (mt1 (List.mem_of_getElem? (i := 95) rfl)) rfl
set_option maxRecDepth 20000 in
theorem lkX5_3 : Cond.methodLink RX5 3 objectInit ∈ GW := inG (mt1 (List.mem_of_getElem? (i := 102) rfl)) rfl
set_option maxRecDepth 20000 in
theorem lkX11_25 : Cond.methodLink RX11 25 yX8_init ∈ GW := inG (mt1 (List.mem_of_getElem? (i := 134) rfl)) rfl
set_option maxRecDepth 20000 in
theorem lkX8_3 : Cond.methodLink RX8 3 objectInit ∈ GW := inG (mt1 (List.mem_of_getElem? (i := 137) rfl)) rfl
set_option maxRecDepth 20000 in
theorem lkX3_3 : Cond.methodLink RX3 3 objectInit ∈ GW := inG (mt1 (List.mem_of_getElem? (i := 153) rfl)) rfl
set_option maxRecDepth 20000 in
theorem lkX10_3 : Cond.methodLink RX10 3 objectInit ∈ GW := inG (mt1 (List.mem_of_getElem? (i := 169) rfl)) rfl
set_option maxRecDepth 20000 in
theorem lkX6_3 : Cond.methodLink RX6 3 objectInit ∈ GW := inG (mt1 (List.mem_of_getElem? (i := 179) rfl)) rfl
set_option maxRecDepth 20000 in
theorem lkX4_3 : Cond.methodLink RX4 3 objectInit ∈ GW := inG (mt1 (List.mem_of_getElem? (i := 189) rfl)) rfl
set_option maxRecDepth 20000 in
theorem lkX7_3 : Cond.methodLink RX7 3 objectInit ∈ GW := inG (mt1 (List.mem_of_getElem? (i := 211) rfl)) rfl
set_option maxRecDepth 20000 in
theorem lkL_111 : Cond.methodLink RL 111 yX12_init ∈ GW := inG (mt5 (List.mem_of_getElem? (i := 231) rfl)) rfl
set_option maxRecDepth 20000 in
theorem lkX12_1 : Cond.methodLink RX12 1 objectInit ∈ GW := inG (mt5 (List.mem_of_getElem? (i := 234) rfl)) rfl
set_option maxRecDepth 20000 in
theorem lkL_112 : Cond.methodLink RL 112 yL_start ∈ GW := inG (mt2 (List.mem_of_getElem? (i := 190) rfl)) rfl
set_option maxRecDepth 20000 in
theorem lkL_7 : Cond.methodLink RL 7 yX11_start ∈ GW := inG (mt2 (List.mem_of_getElem? (i := 195) rfl)) rfl
set_option maxRecDepth 20000 in
theorem lkX11_75 : Cond.methodLink RX11 75 yX11_checkedSite ∈ GW := inG (mt2 (List.mem_of_getElem? (i := 199) rfl)) rfl
set_option maxRecDepth 20000 in
theorem lkX11_336 : Cond.methodLink RX11 336 yX2_number ∈ GW := inG (mt2 (List.mem_of_getElem? (i := 202) rfl)) rfl
set_option maxRecDepth 20000 in
theorem lkX11_79 : Cond.methodLink RX11 79 yX0_isFree ∈ GW := inG (mt3 (List.mem_of_getElem? (i := 30) rfl)) rfl
set_option maxRecDepth 20000 in
theorem lkX0_50 : Cond.methodLink RX0 50 yX2_isSite ∈ GW := inG (mt2 (List.mem_of_getElem? (i := 178) rfl)) rfl
set_option maxRecDepth 20000 in
theorem lkX11_83 : Cond.methodLink RX11 83 yX0_isFull ∈ GW := inG (mt3 (List.mem_of_getElem? (i := 31) rfl)) rfl
set_option maxRecDepth 20000 in
theorem lkX11_94 : Cond.methodLink RX11 94 yX1_save ∈ GW := inG (mt3 (List.mem_of_getElem? (i := 51) rfl)) rfl
set_option maxRecDepth 20000 in
theorem lkX1_25 : Cond.methodLink RX1 25 yX5_take ∈ GW := inG (mt3 (List.mem_of_getElem? (i := 55) rfl)) rfl
set_option maxRecDepth 20000 in
theorem lkX5_29 : Cond.methodLink RX5 29 yX9_length ∈ GW := inG (mt3 (List.mem_of_getElem? (i := 59) rfl)) rfl
set_option maxRecDepth 20000 in
theorem lkX5_35 : Cond.methodLink RX5 35 yX9_at ∈ GW := inG (mt3 (List.mem_of_getElem? (i := 63) rfl)) rfl
set_option maxRecDepth 20000 in
theorem lkX9_19 : Cond.methodLink RX9 19 yX9_has ∈ GW := inG (mt2 (List.mem_of_getElem? (i := 150) rfl)) rfl
set_option maxRecDepth 20000 in
theorem lkX11_98 : Cond.methodLink RX11 98 yX9_begin ∈ GW := inG (mt3 (List.mem_of_getElem? (i := 64) rfl)) rfl
set_option maxRecDepth 20000 in
theorem lkX9_27 : Cond.methodLink RX9 27 yX9_clear ∈ GW := inG (mt3 (List.mem_of_getElem? (i := 68) rfl)) rfl
set_option maxRecDepth 20000 in
theorem lkX9_30 : Cond.methodLink RX9 30 yX9_push ∈ GW := inG (mt3 (List.mem_of_getElem? (i := 72) rfl)) rfl
set_option maxRecDepth 20000 in
theorem lkX9_34 : Cond.methodLink RX9 34 yX9_isFull ∈ GW := inG (mt3 (List.mem_of_getElem? (i := 76) rfl)) rfl
set_option maxRecDepth 20000 in
theorem lkX11_102 : Cond.methodLink RX11 102 yX0_add ∈ GW := inG (mt3 (List.mem_of_getElem? (i := 80) rfl)) rfl
set_option maxRecDepth 20000 in
theorem lkX0_65 : Cond.methodLink RX0 65 yX9_copyFrom ∈ GW := inG (mt3 (List.mem_of_getElem? (i := 84) rfl)) rfl
set_option maxRecDepth 20000 in
theorem lkX9_23 : Cond.methodLink RX9 23 yX9_at ∈ GW := inG (mt2 (List.mem_of_getElem? (i := 146) rfl)) rfl
set_option maxRecDepth 20000 in
theorem lkX0_69 : Cond.methodLink RX0 69 yX0_markSites ∈ GW := inG (mt3 (List.mem_of_getElem? (i := 88) rfl)) rfl
set_option maxRecDepth 20000 in
theorem lkX0_38 : Cond.methodLink RX0 38 yX9_length ∈ GW := inG (mt3 (List.mem_of_getElem? (i := 92) rfl)) rfl
set_option maxRecDepth 20000 in
theorem lkX0_42 : Cond.methodLink RX0 42 yX9_at ∈ GW := inG (mt3 (List.mem_of_getElem? (i := 93) rfl)) rfl
set_option maxRecDepth 20000 in
theorem lkX0_46 : Cond.methodLink RX0 46 yX0_mark ∈ GW := inG (mt3 (List.mem_of_getElem? (i := 94) rfl)) rfl
set_option maxRecDepth 20000 in
theorem lkL_117 : Cond.methodLink RL 117 yX12_start ∈ GW := inG (mt6 (List.mem_of_getElem? (i := 83) rfl)) rfl
set_option maxRecDepth 20000 in
theorem lkX12_62 : Cond.methodLink RX12 62 yX12_within ∈ GW := inG (mt6 (List.mem_of_getElem? (i := 72) rfl)) rfl
set_option maxRecDepth 20000 in
theorem lkX12_78 : Cond.methodLink RX12 78 yX12_fails ∈ GW := inG (mt6 (List.mem_of_getElem? (i := 64) rfl)) rfl
set_option maxRecDepth 20000 in
theorem lkX12_114 : Cond.methodLink RX12 114 yX12_lay ∈ GW := inG (mt6 (List.mem_of_getElem? (i := 87) rfl)) rfl
set_option maxRecDepth 20000 in
theorem lkX12_70 : Cond.methodLink RX12 70 yX12_lengthOf ∈ GW := inG (mt6 (List.mem_of_getElem? (i := 91) rfl)) rfl
set_option maxRecDepth 20000 in
theorem lkX12_74 : Cond.methodLink RX12 74 yX12_siteOf ∈ GW := inG (mt6 (List.mem_of_getElem? (i := 95) rfl)) rfl
set_option maxRecDepth 20000 in
theorem lkX12_81 : Cond.methodLink RX12 81 yX12_save ∈ GW := inG (mt6 (List.mem_of_getElem? (i := 79) rfl)) rfl
set_option maxRecDepth 20000 in
theorem lkX12_117 : Cond.methodLink RX12 117 yX12_addPath ∈ GW := inG (mt6 (List.mem_of_getElem? (i := 99) rfl)) rfl
set_option maxRecDepth 20000 in
theorem lkX12_104 : Cond.methodLink RX12 104 yX12_setSite ∈ GW := inG (mt6 (List.mem_of_getElem? (i := 103) rfl)) rfl
set_option maxRecDepth 20000 in
theorem lkL_118 : Cond.methodLink RL 118 yX12_thrown ∈ GW := inG (mt6 (List.mem_of_getElem? (i := 56) rfl)) rfl
set_option maxRecDepth 20000 in
theorem lkL_121 : Cond.methodLink RL 121 yL_step ∈ GW := inG (mt3 (List.mem_of_getElem? (i := 98) rfl)) rfl
set_option maxRecDepth 20000 in
theorem lkL_17 : Cond.methodLink RL 17 yX11_step ∈ GW := inG (mt3 (List.mem_of_getElem? (i := 102) rfl)) rfl
set_option maxRecDepth 20000 in
theorem lkX11_106 : Cond.methodLink RX11 106 yX11_checkPath ∈ GW := inG (mt3 (List.mem_of_getElem? (i := 106) rfl)) rfl
set_option maxRecDepth 20000 in
theorem lkX11_183 : Cond.methodLink RX11 183 yX0_pathCount ∈ GW := inG (mt2 (List.mem_of_getElem? (i := 134) rfl)) rfl
set_option maxRecDepth 20000 in
theorem lkX11_109 : Cond.methodLink RX11 109 yX11_checkDirection ∈ GW := inG (mt3 (List.mem_of_getElem? (i := 111) rfl)) rfl
set_option maxRecDepth 20000 in
theorem lkX11_186 : Cond.methodLink RX11 186 yX11_checkRange ∈ GW := inG (mt3 (List.mem_of_getElem? (i := 114) rfl)) rfl
set_option maxRecDepth 20000 in
theorem lkX11_112 : Cond.methodLink RX11 112 yX0_lengthen ∈ GW := inG (mt3 (List.mem_of_getElem? (i := 133) rfl)) rfl
set_option maxRecDepth 20000 in
theorem lkX0_72 : Cond.methodLink RX0 72 yX9_head ∈ GW := inG (mt3 (List.mem_of_getElem? (i := 137) rfl)) rfl
set_option maxRecDepth 20000 in
theorem lkX0_75 : Cond.methodLink RX0 75 yX2_neighbour ∈ GW := inG (mt2 (List.mem_of_getElem? (i := 158) rfl)) rfl
set_option maxRecDepth 20000 in
theorem lkX2_9 : Cond.methodLink RX2 9 yX2_column ∈ GW := inG (mt2 (List.mem_of_getElem? (i := 161) rfl)) rfl
set_option maxRecDepth 20000 in
theorem lkX2_19 : Cond.methodLink RX2 19 yX2_row ∈ GW := inG (mt2 (List.mem_of_getElem? (i := 166) rfl)) rfl
set_option maxRecDepth 20000 in
theorem lkX2_25 : Cond.methodLink RX2 25 yX2_number ∈ GW := inG (mt2 (List.mem_of_getElem? (i := 171) rfl)) rfl
set_option maxRecDepth 20000 in
theorem lkX0_79 : Cond.methodLink RX0 79 yX0_refusalAt ∈ GW := inG (mt3 (List.mem_of_getElem? (i := 138) rfl)) rfl
set_option maxRecDepth 20000 in
theorem lkX0_99 : Cond.methodLink RX0 99 yX0_pathAt ∈ GW := inG (mt3 (List.mem_of_getElem? (i := 142) rfl)) rfl
set_option maxRecDepth 20000 in
theorem lkX0_101 : Cond.methodLink RX0 101 yX0_isFree ∈ GW := inG (mt2 (List.mem_of_getElem? (i := 174) rfl)) rfl
set_option maxRecDepth 20000 in
theorem lkX0_82 : Cond.methodLink RX0 82 yX9_isFull ∈ GW := inG (mt3 (List.mem_of_getElem? (i := 146) rfl)) rfl
set_option maxRecDepth 20000 in
theorem lkX0_86 : Cond.methodLink RX0 86 yX9_push ∈ GW := inG (mt3 (List.mem_of_getElem? (i := 147) rfl)) rfl
set_option maxRecDepth 20000 in
theorem lkX0_90 : Cond.methodLink RX0 90 yX0_noteStep ∈ GW := inG (mt3 (List.mem_of_getElem? (i := 148) rfl)) rfl
set_option maxRecDepth 20000 in
theorem lkL_123 : Cond.methodLink RL 123 yX12_step ∈ GW := inG (mt6 (List.mem_of_getElem? (i := 107) rfl)) rfl
set_option maxRecDepth 20000 in
theorem lkX12_66 : Cond.methodLink RX12 66 yX12_isPath ∈ GW := inG (mt6 (List.mem_of_getElem? (i := 111) rfl)) rfl
set_option maxRecDepth 20000 in
theorem lkX12_121 : Cond.methodLink RX12 121 yX12_headOf ∈ GW := inG (mt6 (List.mem_of_getElem? (i := 115) rfl)) rfl
set_option maxRecDepth 20000 in
theorem lkX12_84 : Cond.methodLink RX12 84 yX12_next ∈ GW := inG (mt6 (List.mem_of_getElem? (i := 119) rfl)) rfl
set_option maxRecDepth 20000 in
theorem lkX12_124 : Cond.methodLink RX12 124 yX12_reason ∈ GW := inG (mt6 (List.mem_of_getElem? (i := 122) rfl)) rfl
set_option maxRecDepth 20000 in
theorem lkL_124 : Cond.methodLink RL 124 yL_back ∈ GW := inG (mt3 (List.mem_of_getElem? (i := 152) rfl)) rfl
set_option maxRecDepth 20000 in
theorem lkL_22 : Cond.methodLink RL 22 yX11_back ∈ GW := inG (mt3 (List.mem_of_getElem? (i := 155) rfl)) rfl
set_option maxRecDepth 20000 in
theorem lkX11_115 : Cond.methodLink RX11 115 yX0_trail ∈ GW := inG (mt2 (List.mem_of_getElem? (i := 138) rfl)) rfl
set_option maxRecDepth 20000 in
theorem lkX11_119 : Cond.methodLink RX11 119 yX9_length ∈ GW := inG (mt3 (List.mem_of_getElem? (i := 159) rfl)) rfl
set_option maxRecDepth 20000 in
theorem lkX11_125 : Cond.methodLink RX11 125 yX0_shorten ∈ GW := inG (mt3 (List.mem_of_getElem? (i := 161) rfl)) rfl
set_option maxRecDepth 20000 in
theorem lkX0_104 : Cond.methodLink RX0 104 yX9_endAt ∈ GW := inG (mt3 (List.mem_of_getElem? (i := 165) rfl)) rfl
set_option maxRecDepth 20000 in
theorem lkL_127 : Cond.methodLink RL 127 yX12_back ∈ GW := inG (mt6 (List.mem_of_getElem? (i := 126) rfl)) rfl
set_option maxRecDepth 20000 in
theorem lkL_128 : Cond.methodLink RL 128 yL_slither ∈ GW := inG (mt3 (List.mem_of_getElem? (i := 169) rfl)) rfl
set_option maxRecDepth 20000 in
theorem lkL_26 : Cond.methodLink RL 26 yX11_slither ∈ GW := inG (mt3 (List.mem_of_getElem? (i := 172) rfl)) rfl
set_option maxRecDepth 20000 in
theorem lkX11_129 : Cond.methodLink RX11 129 yX0_creep ∈ GW := inG (mt3 (List.mem_of_getElem? (i := 176) rfl)) rfl
set_option maxRecDepth 20000 in
theorem lkX0_93 : Cond.methodLink RX0 93 yX9_tail ∈ GW := inG (mt3 (List.mem_of_getElem? (i := 180) rfl)) rfl
set_option maxRecDepth 20000 in
theorem lkX0_96 : Cond.methodLink RX0 96 yX9_advanceTo ∈ GW := inG (mt3 (List.mem_of_getElem? (i := 184) rfl)) rfl
set_option maxRecDepth 20000 in
theorem lkX9_38 : Cond.methodLink RX9 38 yX9_put ∈ GW := inG (mt3 (List.mem_of_getElem? (i := 188) rfl)) rfl
set_option maxRecDepth 20000 in
theorem lkL_130 : Cond.methodLink RL 130 yX12_slither ∈ GW := inG (mt6 (List.mem_of_getElem? (i := 130) rfl)) rfl
set_option maxRecDepth 20000 in
theorem lkX12_108 : Cond.methodLink RX12 108 yX12_takeRow ∈ GW := inG (mt6 (List.mem_of_getElem? (i := 134) rfl)) rfl
set_option maxRecDepth 20000 in
theorem lkX12_111 : Cond.methodLink RX12 111 yX12_giveRow ∈ GW := inG (mt6 (List.mem_of_getElem? (i := 138) rfl)) rfl
set_option maxRecDepth 20000 in
theorem lkL_131 : Cond.methodLink RL 131 yL_turn ∈ GW := inG (mt3 (List.mem_of_getElem? (i := 192) rfl)) rfl
set_option maxRecDepth 20000 in
theorem lkL_29 : Cond.methodLink RL 29 yX11_turn ∈ GW := inG (mt3 (List.mem_of_getElem? (i := 195) rfl)) rfl
set_option maxRecDepth 20000 in
theorem lkX11_132 : Cond.methodLink RX11 132 yX11_checkPlace ∈ GW := inG (mt3 (List.mem_of_getElem? (i := 199) rfl)) rfl
set_option maxRecDepth 20000 in
theorem lkX11_343 : Cond.methodLink RX11 343 yX9_has ∈ GW := inG (mt3 (List.mem_of_getElem? (i := 203) rfl)) rfl
set_option maxRecDepth 20000 in
theorem lkX11_136 : Cond.methodLink RX11 136 yX11_checkQuarters ∈ GW := inG (mt3 (List.mem_of_getElem? (i := 205) rfl)) rfl
set_option maxRecDepth 20000 in
theorem lkX11_139 : Cond.methodLink RX11 139 yX10_refusal ∈ GW := inG (mt3 (List.mem_of_getElem? (i := 208) rfl)) rfl
set_option maxRecDepth 20000 in
theorem lkX10_15 : Cond.methodLink RX10 15 yX0_trail ∈ GW := inG (mt3 (List.mem_of_getElem? (i := 212) rfl)) rfl
set_option maxRecDepth 20000 in
theorem lkX10_21 : Cond.methodLink RX10 21 yX10_land ∈ GW := inG (mt3 (List.mem_of_getElem? (i := 213) rfl)) rfl
set_option maxRecDepth 20000 in
theorem lkX10_38 : Cond.methodLink RX10 38 yX9_at ∈ GW := inG (mt3 (List.mem_of_getElem? (i := 217) rfl)) rfl
set_option maxRecDepth 20000 in
theorem lkX10_25 : Cond.methodLink RX10 25 yX9_length ∈ GW := inG (mt3 (List.mem_of_getElem? (i := 218) rfl)) rfl
set_option maxRecDepth 20000 in
theorem lkX10_41 : Cond.methodLink RX10 41 yX10_swung ∈ GW := inG (mt3 (List.mem_of_getElem? (i := 219) rfl)) rfl
set_option maxRecDepth 20000 in
theorem lkX10_45 : Cond.methodLink RX10 45 yX2_column ∈ GW := inG (mt3 (List.mem_of_getElem? (i := 222) rfl)) rfl
set_option maxRecDepth 20000 in
theorem lkX10_50 : Cond.methodLink RX10 50 yX2_row ∈ GW := inG (mt3 (List.mem_of_getElem? (i := 223) rfl)) rfl
set_option maxRecDepth 20000 in
theorem lkX10_53 : Cond.methodLink RX10 53 yX2_number ∈ GW := inG (mt3 (List.mem_of_getElem? (i := 224) rfl)) rfl
set_option maxRecDepth 20000 in
theorem lkX10_31 : Cond.methodLink RX10 31 yX0_pathAt ∈ GW := inG (mt3 (List.mem_of_getElem? (i := 225) rfl)) rfl
set_option maxRecDepth 20000 in
theorem lkX10_35 : Cond.methodLink RX10 35 yX0_placeAt ∈ GW := inG (mt3 (List.mem_of_getElem? (i := 226) rfl)) rfl
set_option maxRecDepth 20000 in
theorem lkX11_143 : Cond.methodLink RX11 143 yX0_noteTurn ∈ GW := inG (mt3 (List.mem_of_getElem? (i := 230) rfl)) rfl
set_option maxRecDepth 20000 in
theorem lkX11_146 : Cond.methodLink RX11 146 yX10_moveSites ∈ GW := inG (mt3 (List.mem_of_getElem? (i := 234) rfl)) rfl
set_option maxRecDepth 20000 in
theorem lkX10_57 : Cond.methodLink RX10 57 yX9_put ∈ GW := inG (mt3 (List.mem_of_getElem? (i := 238) rfl)) rfl
set_option maxRecDepth 20000 in
theorem lkX10_61 : Cond.methodLink RX10 61 yX0_markSites ∈ GW := inG (mt3 (List.mem_of_getElem? (i := 239) rfl)) rfl
set_option maxRecDepth 20000 in
theorem lkL_134 : Cond.methodLink RL 134 yX12_turn ∈ GW := inG (mt6 (List.mem_of_getElem? (i := 142) rfl)) rfl
set_option maxRecDepth 20000 in
theorem lkX12_131 : Cond.methodLink RX12 131 yX12_isSite ∈ GW := inG (mt6 (List.mem_of_getElem? (i := 146) rfl)) rfl
set_option maxRecDepth 20000 in
theorem lkX12_134 : Cond.methodLink RX12 134 yX12_whyNotTurned ∈ GW := inG (mt6 (List.mem_of_getElem? (i := 150) rfl)) rfl
set_option maxRecDepth 20000 in
theorem lkX12_127 : Cond.methodLink RX12 127 yX12_turned ∈ GW := inG (mt6 (List.mem_of_getElem? (i := 154) rfl)) rfl
set_option maxRecDepth 20000 in
theorem lkL_135 : Cond.methodLink RL 135 yL_reverse ∈ GW := inG (mt4 (List.mem_of_getElem? (i := 0) rfl)) rfl
set_option maxRecDepth 20000 in
theorem lkL_33 : Cond.methodLink RL 33 yX11_reverse ∈ GW := inG (mt4 (List.mem_of_getElem? (i := 3) rfl)) rfl
set_option maxRecDepth 20000 in
theorem lkX11_150 : Cond.methodLink RX11 150 yX0_flip ∈ GW := inG (mt4 (List.mem_of_getElem? (i := 7) rfl)) rfl
set_option maxRecDepth 20000 in
theorem lkX0_107 : Cond.methodLink RX0 107 yX9_flip ∈ GW := inG (mt4 (List.mem_of_getElem? (i := 11) rfl)) rfl
set_option maxRecDepth 20000 in
theorem lkL_137 : Cond.methodLink RL 137 yX12_reverse ∈ GW := inG (mt6 (List.mem_of_getElem? (i := 157) rfl)) rfl
set_option maxRecDepth 20000 in
theorem lkX12_137 : Cond.methodLink RX12 137 yX12_reverseRow ∈ GW := inG (mt6 (List.mem_of_getElem? (i := 161) rfl)) rfl
set_option maxRecDepth 20000 in
theorem lkL_138 : Cond.methodLink RL 138 yL_join ∈ GW := inG (mt4 (List.mem_of_getElem? (i := 15) rfl)) rfl
set_option maxRecDepth 20000 in
theorem lkL_36 : Cond.methodLink RL 36 yX11_join ∈ GW := inG (mt4 (List.mem_of_getElem? (i := 18) rfl)) rfl
set_option maxRecDepth 20000 in
theorem lkX11_153 : Cond.methodLink RX11 153 yX11_checkTwoPaths ∈ GW := inG (mt4 (List.mem_of_getElem? (i := 22) rfl)) rfl
set_option maxRecDepth 20000 in
theorem lkX11_156 : Cond.methodLink RX11 156 yX9_head ∈ GW := inG (mt2 (List.mem_of_getElem? (i := 142) rfl)) rfl
set_option maxRecDepth 20000 in
theorem lkX11_159 : Cond.methodLink RX11 159 yX2_areNeighbours ∈ GW := inG (mt4 (List.mem_of_getElem? (i := 27) rfl)) rfl
set_option maxRecDepth 20000 in
theorem lkX2_32 : Cond.methodLink RX2 32 yX2_squaredDistance ∈ GW := inG (mt4 (List.mem_of_getElem? (i := 30) rfl)) rfl
set_option maxRecDepth 20000 in
theorem lkX11_167 : Cond.methodLink RX11 167 yX0_weld ∈ GW := inG (mt4 (List.mem_of_getElem? (i := 34) rfl)) rfl
set_option maxRecDepth 20000 in
theorem lkX0_110 : Cond.methodLink RX0 110 yX0_drop ∈ GW := inG (mt4 (List.mem_of_getElem? (i := 38) rfl)) rfl
set_option maxRecDepth 20000 in
theorem lkL_140 : Cond.methodLink RL 140 yX12_join ∈ GW := inG (mt6 (List.mem_of_getElem? (i := 165) rfl)) rfl
set_option maxRecDepth 20000 in
theorem lkX12_140 : Cond.methodLink RX12 140 yX12_direction ∈ GW := inG (mt6 (List.mem_of_getElem? (i := 169) rfl)) rfl
set_option maxRecDepth 20000 in
theorem lkX12_143 : Cond.methodLink RX12 143 yX12_dropPath ∈ GW := inG (mt6 (List.mem_of_getElem? (i := 172) rfl)) rfl
set_option maxRecDepth 20000 in
theorem lkL_141 : Cond.methodLink RL 141 yL_split ∈ GW := inG (mt4 (List.mem_of_getElem? (i := 42) rfl)) rfl
set_option maxRecDepth 20000 in
theorem lkL_39 : Cond.methodLink RL 39 yX11_split ∈ GW := inG (mt4 (List.mem_of_getElem? (i := 45) rfl)) rfl
set_option maxRecDepth 20000 in
theorem lkX11_177 : Cond.methodLink RX11 177 yX0_cut ∈ GW := inG (mt4 (List.mem_of_getElem? (i := 51) rfl)) rfl
set_option maxRecDepth 20000 in
theorem lkL_143 : Cond.methodLink RL 143 yX12_split ∈ GW := inG (mt6 (List.mem_of_getElem? (i := 176) rfl)) rfl
set_option maxRecDepth 20000 in
theorem lkL_144 : Cond.methodLink RL 144 yL_remove ∈ GW := inG (mt4 (List.mem_of_getElem? (i := 55) rfl)) rfl
set_option maxRecDepth 20000 in
theorem lkL_42 : Cond.methodLink RL 42 yX11_remove ∈ GW := inG (mt4 (List.mem_of_getElem? (i := 58) rfl)) rfl
set_option maxRecDepth 20000 in
theorem lkX11_180 : Cond.methodLink RX11 180 yX0_drop ∈ GW := inG (mt4 (List.mem_of_getElem? (i := 62) rfl)) rfl
set_option maxRecDepth 20000 in
theorem lkL_146 : Cond.methodLink RL 146 yX12_remove ∈ GW := inG (mt6 (List.mem_of_getElem? (i := 180) rfl)) rfl
set_option maxRecDepth 20000 in
theorem lkL_147 : Cond.methodLink RL 147 yL_append ∈ GW := inG (mt4 (List.mem_of_getElem? (i := 63) rfl)) rfl
set_option maxRecDepth 20000 in
theorem lkL_45 : Cond.methodLink RL 45 yX11_append ∈ GW := inG (mt4 (List.mem_of_getElem? (i := 66) rfl)) rfl
set_option maxRecDepth 20000 in
theorem lkX11_190 : Cond.methodLink RX11 190 yX3_isFull ∈ GW := inG (mt4 (List.mem_of_getElem? (i := 70) rfl)) rfl
set_option maxRecDepth 20000 in
theorem lkX11_193 : Cond.methodLink RX11 193 yX3_add ∈ GW := inG (mt4 (List.mem_of_getElem? (i := 75) rfl)) rfl
set_option maxRecDepth 20000 in
theorem lkX3_19 : Cond.methodLink RX3 19 yX3_isFull ∈ GW := inG (mt4 (List.mem_of_getElem? (i := 79) rfl)) rfl
set_option maxRecDepth 20000 in
theorem lkX11_196 : Cond.methodLink RX11 196 yX3_length ∈ GW := inG (mt2 (List.mem_of_getElem? (i := 23) rfl)) rfl
set_option maxRecDepth 20000 in
theorem lkL_149 : Cond.methodLink RL 149 yX12_append ∈ GW := inG (mt6 (List.mem_of_getElem? (i := 184) rfl)) rfl
set_option maxRecDepth 20000 in
theorem lkL_150 : Cond.methodLink RL 150 yX11_clearBuffer ∈ GW := inG (mt2 (List.mem_of_getElem? (i := 19) rfl)) rfl
set_option maxRecDepth 20000 in
theorem lkX11_197 : Cond.methodLink RX11 197 yX3_clear ∈ GW := inG (mt2 (List.mem_of_getElem? (i := 27) rfl)) rfl
set_option maxRecDepth 20000 in
theorem lkL_153 : Cond.methodLink RL 153 yX12_clearBuffer ∈ GW := inG (mt6 (List.mem_of_getElem? (i := 188) rfl)) rfl
set_option maxRecDepth 20000 in
theorem lkL_154 : Cond.methodLink RL 154 yX11_firstError ∈ GW := inG (mt2 (List.mem_of_getElem? (i := 31) rfl)) rfl
set_option maxRecDepth 20000 in
theorem lkX11_200 : Cond.methodLink RX11 200 yX3_errorIndex ∈ GW := inG (mt2 (List.mem_of_getElem? (i := 35) rfl)) rfl
set_option maxRecDepth 20000 in
theorem lkX3_23 : Cond.methodLink RX3 23 yX3_fits ∈ GW := inG (mt2 (List.mem_of_getElem? (i := 39) rfl)) rfl
set_option maxRecDepth 20000 in
theorem lkX3_33 : Cond.methodLink RX3 33 yJ0_indexOf_0f7a4 ∈ GW := inG (mt2 (List.mem_of_getElem? (i := 43) rfl)) rfl
set_option maxRecDepth 20000 in
theorem lkJ0_633 : Cond.methodLink RJ0 633 yJ0_indexOf_7cf53 ∈ GW := inG (mt2 (List.mem_of_getElem? (i := 47) rfl)) rfl
set_option maxRecDepth 20000 in
theorem lkJ0_492 : Cond.methodLink RJ0 492 yJ0_isLatin1_aae02 ∈ GW := inG (mt2 (List.mem_of_getElem? (i := 51) rfl)) rfl
set_option maxRecDepth 20000 in
theorem lkJ0_505 : Cond.methodLink RJ0 505 yJ0_length_8abf5 ∈ GW := inG (mt2 (List.mem_of_getElem? (i := 57) rfl)) rfl
set_option maxRecDepth 20000 in
theorem lkJ0_335 : Cond.methodLink RJ0 335 yJ0_coder_7d493 ∈ GW := inG (mt2 (List.mem_of_getElem? (i := 61) rfl)) rfl
set_option maxRecDepth 20000 in
theorem lkJ0_637 : Cond.methodLink RJ0 637 yJ1_indexOf_4cfef ∈ GW := inG (mt2 (List.mem_of_getElem? (i := 65) rfl)) rfl
set_option maxRecDepth 20000 in
theorem lkJ1_92 : Cond.methodLink RJ1 92 Lib.Math.max.name ∈ GW := inG (mt2 (List.mem_of_getElem? (i := 71) rfl)) rfl
set_option maxRecDepth 20000 in
theorem lkJ1_38 : Cond.methodLink RJ1 38 Lib.Math.min.name ∈ GW := inG (mt2 (List.mem_of_getElem? (i := 74) rfl)) rfl
set_option maxRecDepth 20000 in
theorem lkJ1_88 : Cond.methodLink RJ1 88 yJ1_canEncode_9a6ad ∈ GW := inG (mt2 (List.mem_of_getElem? (i := 68) rfl)) rfl
set_option maxRecDepth 20000 in
theorem lkJ1_95 : Cond.methodLink RJ1 95 yJ1_indexOfChar_4cfef ∈ GW := inG (mt2 (List.mem_of_getElem? (i := 77) rfl)) rfl
set_option maxRecDepth 20000 in
theorem lkJ0_640 : Cond.methodLink RJ0 640 yJ2_indexOf_4cfef ∈ GW := inG (mt2 (List.mem_of_getElem? (i := 80) rfl)) rfl
set_option maxRecDepth 20000 in
theorem lkJ2_224 : Cond.methodLink RJ2 224 Lib.Math.max.name ∈ GW := inG (mt2 (List.mem_of_getElem? (i := 83) rfl)) rfl
set_option maxRecDepth 20000 in
theorem lkJ2_183 : Cond.methodLink RJ2 183 Lib.Math.min.name ∈ GW := inG (mt2 (List.mem_of_getElem? (i := 84) rfl)) rfl
set_option maxRecDepth 20000 in
theorem lkJ2_228 : Cond.methodLink RJ2 228 yJ2_indexOfChar_4cfef ∈ GW := inG (mt2 (List.mem_of_getElem? (i := 86) rfl)) rfl
set_option maxRecDepth 20000 in
theorem lkJ2_96 : Cond.methodLink RJ2 96 yJ2_checkBoundsBeginEnd_d044e ∈ GW := inG (mt2 (List.mem_of_getElem? (i := 89) rfl)) rfl
set_option maxRecDepth 20000 in
theorem lkJ2_48 : Cond.methodLink RJ2 48 yJ2_length_9d52b ∈ GW := inG (mt2 (List.mem_of_getElem? (i := 92) rfl)) rfl
set_option maxRecDepth 20000 in
theorem lkJ2_241 : Cond.methodLink RJ2 241 yJ0_checkBoundsBeginEnd_23922 ∈ GW := inG (mt2 (List.mem_of_getElem? (i := 95) rfl)) rfl
set_option maxRecDepth 20000 in
theorem lkJ0_1062 : Cond.methodLink RJ0 1062 yJ3_checkFromToIndex_8c36e ∈ GW := inG (mt2 (List.mem_of_getElem? (i := 100) rfl)) rfl
set_option maxRecDepth 20000 in
theorem lkJ2_244 : Cond.methodLink RJ2 244 yJ2_indexOfCharUnsafe_4cfef ∈ GW := inG (mt2 (List.mem_of_getElem? (i := 103) rfl)) rfl
set_option maxRecDepth 20000 in
theorem lkJ2_71 : Cond.methodLink RJ2 71 yJ2_getChar_3b067 ∈ GW := inG (mt2 (List.mem_of_getElem? (i := 106) rfl)) rfl
set_option maxRecDepth 20000 in
theorem lkJ2_232 : Cond.methodLink RJ2 232 yJ2_indexOfSupplementary_4cfef ∈ GW := inG (mt2 (List.mem_of_getElem? (i := 115) rfl)) rfl
set_option maxRecDepth 20000 in
theorem lkJ2_164 : Cond.methodLink RJ2 164 yJ11_isValidCodePoint_9a6ad ∈ GW := inG (mt2 (List.mem_of_getElem? (i := 118) rfl)) rfl
set_option maxRecDepth 20000 in
theorem lkJ2_157 : Cond.methodLink RJ2 157 yJ11_highSurrogate_5068e ∈ GW := inG (mt2 (List.mem_of_getElem? (i := 121) rfl)) rfl
set_option maxRecDepth 20000 in
theorem lkJ2_161 : Cond.methodLink RJ2 161 yJ11_lowSurrogate_5068e ∈ GW := inG (mt2 (List.mem_of_getElem? (i := 125) rfl)) rfl
set_option maxRecDepth 20000 in
theorem lkL_157 : Cond.methodLink RL 157 yX12_firstError ∈ GW := inG (mt6 (List.mem_of_getElem? (i := 192) rfl)) rfl
set_option maxRecDepth 20000 in
theorem lkX12_158 : Cond.methodLink RX12 158 yX12_findError ∈ GW := inG (mt6 (List.mem_of_getElem? (i := 196) rfl)) rfl
set_option maxRecDepth 20000 in
theorem lkX12_155 : Cond.methodLink RX12 155 yX12_isGood ∈ GW := inG (mt6 (List.mem_of_getElem? (i := 200) rfl)) rfl
set_option maxRecDepth 20000 in
theorem lkX12_152 : Cond.methodLink RX12 152 yX12_directionOf ∈ GW := inG (mt6 (List.mem_of_getElem? (i := 204) rfl)) rfl
set_option maxRecDepth 20000 in
theorem lkX12_149 : Cond.methodLink RX12 149 yX12_letterOf ∈ GW := inG (mt6 (List.mem_of_getElem? (i := 207) rfl)) rfl
set_option maxRecDepth 20000 in
theorem lkL_158 : Cond.methodLink RL 158 yL_draw ∈ GW := inG (mt4 (List.mem_of_getElem? (i := 80) rfl)) rfl
set_option maxRecDepth 20000 in
theorem lkL_48 : Cond.methodLink RL 48 yX11_draw ∈ GW := inG (mt4 (List.mem_of_getElem? (i := 83) rfl)) rfl
set_option maxRecDepth 20000 in
theorem lkX11_203 : Cond.methodLink RX11 203 yX3_isComplete ∈ GW := inG (mt4 (List.mem_of_getElem? (i := 87) rfl)) rfl
set_option maxRecDepth 20000 in
theorem lkX3_27 : Cond.methodLink RX3 27 yX3_errorIndex ∈ GW := inG (mt4 (List.mem_of_getElem? (i := 91) rfl)) rfl
set_option maxRecDepth 20000 in
theorem lkX11_211 : Cond.methodLink RX11 211 yX3_layOut ∈ GW := inG (mt4 (List.mem_of_getElem? (i := 93) rfl)) rfl
set_option maxRecDepth 20000 in
theorem lkX3_39 : Cond.methodLink RX3 39 yX2_number ∈ GW := inG (mt4 (List.mem_of_getElem? (i := 97) rfl)) rfl
set_option maxRecDepth 20000 in
theorem lkX3_45 : Cond.methodLink RX3 45 yX0_isFree ∈ GW := inG (mt4 (List.mem_of_getElem? (i := 98) rfl)) rfl
set_option maxRecDepth 20000 in
theorem lkX3_51 : Cond.methodLink RX3 51 yX9_begin ∈ GW := inG (mt4 (List.mem_of_getElem? (i := 99) rfl)) rfl
set_option maxRecDepth 20000 in
theorem lkX3_57 : Cond.methodLink RX3 57 yX2_neighbour ∈ GW := inG (mt4 (List.mem_of_getElem? (i := 100) rfl)) rfl
set_option maxRecDepth 20000 in
theorem lkX3_60 : Cond.methodLink RX3 60 yX9_covers ∈ GW := inG (mt4 (List.mem_of_getElem? (i := 101) rfl)) rfl
set_option maxRecDepth 20000 in
theorem lkX3_63 : Cond.methodLink RX3 63 yX9_isFull ∈ GW := inG (mt4 (List.mem_of_getElem? (i := 105) rfl)) rfl
set_option maxRecDepth 20000 in
theorem lkX3_64 : Cond.methodLink RX3 64 yX9_push ∈ GW := inG (mt4 (List.mem_of_getElem? (i := 106) rfl)) rfl
set_option maxRecDepth 20000 in
theorem lkL_161 : Cond.methodLink RL 161 yX12_draw ∈ GW := inG (mt6 (List.mem_of_getElem? (i := 210) rfl)) rfl
set_option maxRecDepth 20000 in
theorem lkX12_161 : Cond.methodLink RX12 161 yX12_readsRow ∈ GW := inG (mt6 (List.mem_of_getElem? (i := 214) rfl)) rfl
set_option maxRecDepth 20000 in
theorem lkX12_87 : Cond.methodLink RX12 87 yX12_isFree ∈ GW := inG (mt6 (List.mem_of_getElem? (i := 218) rfl)) rfl
set_option maxRecDepth 20000 in
theorem lkL_162 : Cond.methodLink RL 162 yL_write ∈ GW := inG (mt4 (List.mem_of_getElem? (i := 108) rfl)) rfl
set_option maxRecDepth 20000 in
theorem lkL_52 : Cond.methodLink RL 52 yX11_write ∈ GW := inG (mt4 (List.mem_of_getElem? (i := 111) rfl)) rfl
set_option maxRecDepth 20000 in
theorem lkX11_217 : Cond.methodLink RX11 217 yX3_tell ∈ GW := inG (mt4 (List.mem_of_getElem? (i := 115) rfl)) rfl
set_option maxRecDepth 20000 in
theorem lkX3_67 : Cond.methodLink RX3 67 yX3_clear ∈ GW := inG (mt4 (List.mem_of_getElem? (i := 119) rfl)) rfl
set_option maxRecDepth 20000 in
theorem lkX3_70 : Cond.methodLink RX3 70 yX9_tail ∈ GW := inG (mt4 (List.mem_of_getElem? (i := 120) rfl)) rfl
set_option maxRecDepth 20000 in
theorem lkX3_73 : Cond.methodLink RX3 73 yX2_column ∈ GW := inG (mt4 (List.mem_of_getElem? (i := 121) rfl)) rfl
set_option maxRecDepth 20000 in
theorem lkX3_76 : Cond.methodLink RX3 76 yX3_add ∈ GW := inG (mt4 (List.mem_of_getElem? (i := 122) rfl)) rfl
set_option maxRecDepth 20000 in
theorem lkX3_80 : Cond.methodLink RX3 80 yX2_row ∈ GW := inG (mt4 (List.mem_of_getElem? (i := 123) rfl)) rfl
set_option maxRecDepth 20000 in
theorem lkX3_83 : Cond.methodLink RX3 83 yX9_steps ∈ GW := inG (mt4 (List.mem_of_getElem? (i := 124) rfl)) rfl
set_option maxRecDepth 20000 in
theorem lkX3_86 : Cond.methodLink RX3 86 yX9_stepAt ∈ GW := inG (mt4 (List.mem_of_getElem? (i := 128) rfl)) rfl
set_option maxRecDepth 20000 in
theorem lkX9_42 : Cond.methodLink RX9 42 yX2_direction ∈ GW := inG (mt4 (List.mem_of_getElem? (i := 132) rfl)) rfl
set_option maxRecDepth 20000 in
theorem lkX2_29 : Cond.methodLink RX2 29 yX2_neighbour ∈ GW := inG (mt4 (List.mem_of_getElem? (i := 135) rfl)) rfl
set_option maxRecDepth 20000 in
theorem lkX3_89 : Cond.methodLink RX3 89 yJ0_charAt_5068e ∈ GW := inG (mt4 (List.mem_of_getElem? (i := 136) rfl)) rfl
set_option maxRecDepth 20000 in
theorem lkJ0_495 : Cond.methodLink RJ0 495 yJ1_charAt_3b067 ∈ GW := inG (mt4 (List.mem_of_getElem? (i := 140) rfl)) rfl
set_option maxRecDepth 20000 in
theorem lkJ1_9 : Cond.methodLink RJ1 9 yJ0_checkIndex_df160 ∈ GW := inG (mt4 (List.mem_of_getElem? (i := 143) rfl)) rfl
set_option maxRecDepth 20000 in
theorem lkJ0_1059 : Cond.methodLink RJ0 1059 yJ3_checkIndex_8e157 ∈ GW := inG (mt4 (List.mem_of_getElem? (i := 146) rfl)) rfl
set_option maxRecDepth 20000 in
theorem lkJ0_498 : Cond.methodLink RJ0 498 yJ2_charAt_3b067 ∈ GW := inG (mt4 (List.mem_of_getElem? (i := 149) rfl)) rfl
set_option maxRecDepth 20000 in
theorem lkJ2_67 : Cond.methodLink RJ2 67 yJ2_checkIndex_2214a ∈ GW := inG (mt4 (List.mem_of_getElem? (i := 152) rfl)) rfl
set_option maxRecDepth 20000 in
theorem lkJ2_414 : Cond.methodLink RJ2 414 yJ0_checkIndex_df160 ∈ GW := inG (mt4 (List.mem_of_getElem? (i := 155) rfl)) rfl
set_option maxRecDepth 20000 in
theorem lkL_164 : Cond.methodLink RL 164 yX12_write ∈ GW := inG (mt6 (List.mem_of_getElem? (i := 222) rfl)) rfl
set_option maxRecDepth 20000 in
theorem lkL_165 : Cond.methodLink RL 165 yL_undo ∈ GW := inG (mt4 (List.mem_of_getElem? (i := 156) rfl)) rfl
set_option maxRecDepth 20000 in
theorem lkL_55 : Cond.methodLink RL 55 yX11_undo ∈ GW := inG (mt4 (List.mem_of_getElem? (i := 159) rfl)) rfl
set_option maxRecDepth 20000 in
theorem lkX11_221 : Cond.methodLink RX11 221 yX1_size ∈ GW := inG (mt4 (List.mem_of_getElem? (i := 163) rfl)) rfl
set_option maxRecDepth 20000 in
theorem lkX11_226 : Cond.methodLink RX11 226 yX1_restoreLast ∈ GW := inG (mt4 (List.mem_of_getElem? (i := 168) rfl)) rfl
set_option maxRecDepth 20000 in
theorem lkX1_29 : Cond.methodLink RX1 29 yX5_putInto ∈ GW := inG (mt4 (List.mem_of_getElem? (i := 172) rfl)) rfl
set_option maxRecDepth 20000 in
theorem lkX5_51 : Cond.methodLink RX5 51 yX9_clear ∈ GW := inG (mt4 (List.mem_of_getElem? (i := 176) rfl)) rfl
set_option maxRecDepth 20000 in
theorem lkX5_54 : Cond.methodLink RX5 54 yX9_push ∈ GW := inG (mt4 (List.mem_of_getElem? (i := 177) rfl)) rfl
set_option maxRecDepth 20000 in
theorem lkX5_58 : Cond.methodLink RX5 58 yX0_markSites ∈ GW := inG (mt4 (List.mem_of_getElem? (i := 178) rfl)) rfl
set_option maxRecDepth 20000 in
theorem lkL_167 : Cond.methodLink RL 167 yX12_undo ∈ GW := inG (mt6 (List.mem_of_getElem? (i := 60) rfl)) rfl
set_option maxRecDepth 20000 in
theorem lkL_168 : Cond.methodLink RL 168 yL_keep ∈ GW := inG (mt4 (List.mem_of_getElem? (i := 179) rfl)) rfl
set_option maxRecDepth 20000 in
theorem lkL_58 : Cond.methodLink RL 58 yX11_keep ∈ GW := inG (mt4 (List.mem_of_getElem? (i := 182) rfl)) rfl
set_option maxRecDepth 20000 in
theorem lkX11_229 : Cond.methodLink RX11 229 yX8_take ∈ GW := inG (mt4 (List.mem_of_getElem? (i := 186) rfl)) rfl
set_option maxRecDepth 20000 in
theorem lkX8_22 : Cond.methodLink RX8 22 yX5_take ∈ GW := inG (mt4 (List.mem_of_getElem? (i := 190) rfl)) rfl
set_option maxRecDepth 20000 in
theorem lkL_170 : Cond.methodLink RL 170 yX12_keep ∈ GW := inG (mt6 (List.mem_of_getElem? (i := 68) rfl)) rfl
set_option maxRecDepth 20000 in
theorem lkL_171 : Cond.methodLink RL 171 yL_goBack ∈ GW := inG (mt4 (List.mem_of_getElem? (i := 191) rfl)) rfl
set_option maxRecDepth 20000 in
theorem lkL_61 : Cond.methodLink RL 61 yX11_goBack ∈ GW := inG (mt4 (List.mem_of_getElem? (i := 194) rfl)) rfl
set_option maxRecDepth 20000 in
theorem lkX11_233 : Cond.methodLink RX11 233 yX8_isTaken ∈ GW := inG (mt4 (List.mem_of_getElem? (i := 198) rfl)) rfl
set_option maxRecDepth 20000 in
theorem lkX11_238 : Cond.methodLink RX11 238 yX8_putInto ∈ GW := inG (mt4 (List.mem_of_getElem? (i := 203) rfl)) rfl
set_option maxRecDepth 20000 in
theorem lkX8_26 : Cond.methodLink RX8 26 yX5_putInto ∈ GW := inG (mt4 (List.mem_of_getElem? (i := 207) rfl)) rfl
set_option maxRecDepth 20000 in
theorem lkL_173 : Cond.methodLink RL 173 yX12_goBack ∈ GW := inG (mt6 (List.mem_of_getElem? (i := 75) rfl)) rfl
set_option maxRecDepth 20000 in
theorem lkL_174 : Cond.methodLink RL 174 yL_site ∈ GW := inG (mt4 (List.mem_of_getElem? (i := 208) rfl)) rfl
set_option maxRecDepth 20000 in
theorem lkL_64 : Cond.methodLink RL 64 yX11_site ∈ GW := inG (mt4 (List.mem_of_getElem? (i := 211) rfl)) rfl
set_option maxRecDepth 20000 in
theorem lkX11_242 : Cond.methodLink RX11 242 yX0_pathAt ∈ GW := inG (mt4 (List.mem_of_getElem? (i := 215) rfl)) rfl
set_option maxRecDepth 20000 in
theorem lkX11_245 : Cond.methodLink RX11 245 yX0_placeAt ∈ GW := inG (mt4 (List.mem_of_getElem? (i := 216) rfl)) rfl
set_option maxRecDepth 20000 in
theorem lkX11_248 : Cond.methodLink RX11 248 yX0_freeDirections ∈ GW := inG (mt2 (List.mem_of_getElem? (i := 154) rfl)) rfl
set_option maxRecDepth 20000 in
theorem lkL_176 : Cond.methodLink RL 176 yX12_site ∈ GW := inG (mt6 (List.mem_of_getElem? (i := 226) rfl)) rfl
set_option maxRecDepth 20000 in
theorem lkX12_165 : Cond.methodLink RX12 165 yX12_freeAround ∈ GW := inG (mt6 (List.mem_of_getElem? (i := 230) rfl)) rfl
set_option maxRecDepth 20000 in
theorem lkL_177 : Cond.methodLink RL 177 yL_place ∈ GW := inG (mt4 (List.mem_of_getElem? (i := 217) rfl)) rfl
set_option maxRecDepth 20000 in
theorem lkL_67 : Cond.methodLink RL 67 yX11_place ∈ GW := inG (mt4 (List.mem_of_getElem? (i := 220) rfl)) rfl
set_option maxRecDepth 20000 in
theorem lkX11_251 : Cond.methodLink RX11 251 yX9_at ∈ GW := inG (mt4 (List.mem_of_getElem? (i := 224) rfl)) rfl
set_option maxRecDepth 20000 in
theorem lkL_179 : Cond.methodLink RL 179 yX12_place ∈ GW := inG (mt6 (List.mem_of_getElem? (i := 234) rfl)) rfl
set_option maxRecDepth 20000 in
theorem lkL_180 : Cond.methodLink RL 180 yL_path ∈ GW := inG (mt4 (List.mem_of_getElem? (i := 225) rfl)) rfl
set_option maxRecDepth 20000 in
theorem lkL_70 : Cond.methodLink RL 70 yX11_path ∈ GW := inG (mt4 (List.mem_of_getElem? (i := 228) rfl)) rfl
set_option maxRecDepth 20000 in
theorem lkX11_254 : Cond.methodLink RX11 254 yX9_corners ∈ GW := inG (mt4 (List.mem_of_getElem? (i := 232) rfl)) rfl
set_option maxRecDepth 20000 in
theorem lkX9_48 : Cond.methodLink RX9 48 yX9_steps ∈ GW := inG (mt4 (List.mem_of_getElem? (i := 236) rfl)) rfl
set_option maxRecDepth 20000 in
theorem lkX9_52 : Cond.methodLink RX9 52 yX9_stepAt ∈ GW := inG (mt4 (List.mem_of_getElem? (i := 237) rfl)) rfl
set_option maxRecDepth 20000 in
theorem lkX11_257 : Cond.methodLink RX11 257 yX0_contacts ∈ GW := inG (mt4 (List.mem_of_getElem? (i := 238) rfl)) rfl
set_option maxRecDepth 20000 in
theorem lkX0_115 : Cond.methodLink RX0 115 Lib.Math.abs.name ∈ GW := inG (mt5 (List.mem_of_getElem? (i := 3) rfl)) rfl
set_option maxRecDepth 20000 in
theorem lkX0_113 : Cond.methodLink RX0 113 yX0_placeAt ∈ GW := inG (mt5 (List.mem_of_getElem? (i := 2) rfl)) rfl
set_option maxRecDepth 20000 in
theorem lkX11_260 : Cond.methodLink RX11 260 yX9_width ∈ GW := inG (mt5 (List.mem_of_getElem? (i := 6) rfl)) rfl
set_option maxRecDepth 20000 in
theorem lkX9_58 : Cond.methodLink RX9 58 Lib.Math.min.name ∈ GW := inG (mt5 (List.mem_of_getElem? (i := 11) rfl)) rfl
set_option maxRecDepth 20000 in
theorem lkX9_63 : Cond.methodLink RX9 63 Lib.Math.max.name ∈ GW := inG (mt5 (List.mem_of_getElem? (i := 12) rfl)) rfl
set_option maxRecDepth 20000 in
theorem lkX9_55 : Cond.methodLink RX9 55 yX2_column ∈ GW := inG (mt5 (List.mem_of_getElem? (i := 10) rfl)) rfl
set_option maxRecDepth 20000 in
theorem lkX11_263 : Cond.methodLink RX11 263 yX9_height ∈ GW := inG (mt5 (List.mem_of_getElem? (i := 13) rfl)) rfl
set_option maxRecDepth 20000 in
theorem lkX9_66 : Cond.methodLink RX9 66 yX2_row ∈ GW := inG (mt5 (List.mem_of_getElem? (i := 17) rfl)) rfl
set_option maxRecDepth 20000 in
theorem lkX11_266 : Cond.methodLink RX11 266 yX9_tail ∈ GW := inG (mt5 (List.mem_of_getElem? (i := 18) rfl)) rfl
set_option maxRecDepth 20000 in
theorem lkX11_269 : Cond.methodLink RX11 269 yX2_squaredDistance ∈ GW := inG (mt5 (List.mem_of_getElem? (i := 19) rfl)) rfl
set_option maxRecDepth 20000 in
theorem lkX11_272 : Cond.methodLink RX11 272 yX9_moment ∈ GW := inG (mt5 (List.mem_of_getElem? (i := 20) rfl)) rfl
set_option maxRecDepth 20000 in
theorem lkX11_275 : Cond.methodLink RX11 275 yX0_freeBorder ∈ GW := inG (mt5 (List.mem_of_getElem? (i := 24) rfl)) rfl
set_option maxRecDepth 20000 in
theorem lkX0_120 : Cond.methodLink RX0 120 yX0_neighboursIn ∈ GW := inG (mt5 (List.mem_of_getElem? (i := 28) rfl)) rfl
set_option maxRecDepth 20000 in
theorem lkL_182 : Cond.methodLink RL 182 yX12_path ∈ GW := inG (mt6 (List.mem_of_getElem? (i := 238) rfl)) rfl
set_option maxRecDepth 20000 in
theorem lkX12_190 : Cond.methodLink RX12 190 yX12_tellsPath ∈ GW := inG (mt7 (List.mem_of_getElem? (i := 2) rfl)) rfl
set_option maxRecDepth 20000 in
theorem lkX12_174 : Cond.methodLink RX12 174 yX12_corners ∈ GW := inG (mt7 (List.mem_of_getElem? (i := 6) rfl)) rfl
set_option maxRecDepth 20000 in
theorem lkX12_168 : Cond.methodLink RX12 168 yX12_stepOf ∈ GW := inG (mt7 (List.mem_of_getElem? (i := 10) rfl)) rfl
set_option maxRecDepth 20000 in
theorem lkX12_177 : Cond.methodLink RX12 177 yX12_contacts ∈ GW := inG (mt7 (List.mem_of_getElem? (i := 14) rfl)) rfl
set_option maxRecDepth 20000 in
theorem lkX12_180 : Cond.methodLink RX12 180 yX12_span ∈ GW := inG (mt7 (List.mem_of_getElem? (i := 18) rfl)) rfl
set_option maxRecDepth 20000 in
theorem lkX12_171 : Cond.methodLink RX12 171 yX12_squared ∈ GW := inG (mt7 (List.mem_of_getElem? (i := 22) rfl)) rfl
set_option maxRecDepth 20000 in
theorem lkX12_184 : Cond.methodLink RX12 184 yX12_moment ∈ GW := inG (mt7 (List.mem_of_getElem? (i := 25) rfl)) rfl
set_option maxRecDepth 20000 in
theorem lkX12_187 : Cond.methodLink RX12 187 yX12_freeBeside ∈ GW := inG (mt7 (List.mem_of_getElem? (i := 29) rfl)) rfl
set_option maxRecDepth 20000 in
theorem lkL_183 : Cond.methodLink RL 183 yX11_trapped ∈ GW := inG (mt2 (List.mem_of_getElem? (i := 130) rfl)) rfl
set_option maxRecDepth 20000 in
theorem lkL_186 : Cond.methodLink RL 186 yX12_trapped ∈ GW := inG (mt7 (List.mem_of_getElem? (i := 33) rfl)) rfl
set_option maxRecDepth 20000 in
theorem lkL_187 : Cond.methodLink RL 187 yL_touching ∈ GW := inG (mt5 (List.mem_of_getElem? (i := 32) rfl)) rfl
set_option maxRecDepth 20000 in
theorem lkL_73 : Cond.methodLink RL 73 yX11_touching ∈ GW := inG (mt5 (List.mem_of_getElem? (i := 35) rfl)) rfl
set_option maxRecDepth 20000 in
theorem lkX11_278 : Cond.methodLink RX11 278 yX0_touchingPairs ∈ GW := inG (mt5 (List.mem_of_getElem? (i := 39) rfl)) rfl
set_option maxRecDepth 20000 in
theorem lkL_189 : Cond.methodLink RL 189 yX12_touching ∈ GW := inG (mt7 (List.mem_of_getElem? (i := 37) rfl)) rfl
set_option maxRecDepth 20000 in
theorem lkL_190 : Cond.methodLink RL 190 yL_shape ∈ GW := inG (mt5 (List.mem_of_getElem? (i := 43) rfl)) rfl
set_option maxRecDepth 20000 in
theorem lkL_76 : Cond.methodLink RL 76 yX11_shape ∈ GW := inG (mt5 (List.mem_of_getElem? (i := 46) rfl)) rfl
set_option maxRecDepth 20000 in
theorem lkX11_283 : Cond.methodLink RX11 283 yX7_find ∈ GW := inG (mt5 (List.mem_of_getElem? (i := 51) rfl)) rfl
set_option maxRecDepth 20000 in
theorem lkX7_24 : Cond.methodLink RX7 24 yX9_steps ∈ GW := inG (mt5 (List.mem_of_getElem? (i := 55) rfl)) rfl
set_option maxRecDepth 20000 in
theorem lkX7_33 : Cond.methodLink RX7 33 yX9_stepAt ∈ GW := inG (mt5 (List.mem_of_getElem? (i := 56) rfl)) rfl
set_option maxRecDepth 20000 in
theorem lkX7_37 : Cond.methodLink RX7 37 yX7_turned ∈ GW := inG (mt5 (List.mem_of_getElem? (i := 57) rfl)) rfl
set_option maxRecDepth 20000 in
theorem lkX7_41 : Cond.methodLink RX7 41 yJ7_fill_53178 ∈ GW := inG (mt5 (List.mem_of_getElem? (i := 60) rfl)) rfl
set_option maxRecDepth 20000 in
theorem lkX7_47 : Cond.methodLink RX7 47 yX7_consider ∈ GW := inG (mt5 (List.mem_of_getElem? (i := 61) rfl)) rfl
set_option maxRecDepth 20000 in
theorem lkX7_58 : Cond.methodLink RX7 58 arraycopyName ∈ GW := inG (mt5 (List.mem_of_getElem? (i := 72) rfl)) rfl
set_option maxRecDepth 20000 in
theorem lkX7_51 : Cond.methodLink RX7 51 yX7_mirrored ∈ GW := inG (mt5 (List.mem_of_getElem? (i := 65) rfl)) rfl
set_option maxRecDepth 20000 in
theorem lkX7_54 : Cond.methodLink RX7 54 yX7_isViewLess ∈ GW := inG (mt5 (List.mem_of_getElem? (i := 68) rfl)) rfl
set_option maxRecDepth 20000 in
theorem lkX11_286 : Cond.methodLink RX11 286 yX7_stepAt ∈ GW := inG (mt5 (List.mem_of_getElem? (i := 75) rfl)) rfl
set_option maxRecDepth 20000 in
theorem lkL_192 : Cond.methodLink RL 192 yX12_shape ∈ GW := inG (mt7 (List.mem_of_getElem? (i := 41) rfl)) rfl
set_option maxRecDepth 20000 in
theorem lkX12_197 : Cond.methodLink RX12 197 yX12_layShape ∈ GW := inG (mt7 (List.mem_of_getElem? (i := 45) rfl)) rfl
set_option maxRecDepth 20000 in
theorem lkX12_193 : Cond.methodLink RX12 193 yX12_laySteps ∈ GW := inG (mt7 (List.mem_of_getElem? (i := 49) rfl)) rfl
set_option maxRecDepth 20000 in
theorem lkL_193 : Cond.methodLink RL 193 yL_isAlike ∈ GW := inG (mt5 (List.mem_of_getElem? (i := 79) rfl)) rfl
set_option maxRecDepth 20000 in
theorem lkL_79 : Cond.methodLink RL 79 yX11_isAlike ∈ GW := inG (mt5 (List.mem_of_getElem? (i := 82) rfl)) rfl
set_option maxRecDepth 20000 in
theorem lkX11_289 : Cond.methodLink RX11 289 yX7_matches ∈ GW := inG (mt5 (List.mem_of_getElem? (i := 86) rfl)) rfl
set_option maxRecDepth 20000 in
theorem lkL_195 : Cond.methodLink RL 195 yX12_isAlike ∈ GW := inG (mt7 (List.mem_of_getElem? (i := 53) rfl)) rfl
set_option maxRecDepth 20000 in
theorem lkX12_200 : Cond.methodLink RX12 200 yX12_hasShapeOf ∈ GW := inG (mt7 (List.mem_of_getElem? (i := 57) rfl)) rfl
set_option maxRecDepth 20000 in
theorem lkL_196 : Cond.methodLink RL 196 yL_free ∈ GW := inG (mt5 (List.mem_of_getElem? (i := 90) rfl)) rfl
set_option maxRecDepth 20000 in
theorem lkL_83 : Cond.methodLink RL 83 yX11_free ∈ GW := inG (mt5 (List.mem_of_getElem? (i := 93) rfl)) rfl
set_option maxRecDepth 20000 in
theorem lkX11_293 : Cond.methodLink RX11 293 yX4_explore ∈ GW := inG (mt5 (List.mem_of_getElem? (i := 97) rfl)) rfl
set_option maxRecDepth 20000 in
theorem lkX4_25 : Cond.methodLink RX4 25 yJ7_fill_53178 ∈ GW := inG (mt5 (List.mem_of_getElem? (i := 101) rfl)) rfl
set_option maxRecDepth 20000 in
theorem lkX4_35 : Cond.methodLink RX4 35 yX4_isUnseen ∈ GW := inG (mt5 (List.mem_of_getElem? (i := 102) rfl)) rfl
set_option maxRecDepth 20000 in
theorem lkX4_49 : Cond.methodLink RX4 49 yX0_isFree ∈ GW := inG (mt5 (List.mem_of_getElem? (i := 106) rfl)) rfl
set_option maxRecDepth 20000 in
theorem lkX4_39 : Cond.methodLink RX4 39 yX4_flood ∈ GW := inG (mt5 (List.mem_of_getElem? (i := 107) rfl)) rfl
set_option maxRecDepth 20000 in
theorem lkX4_43 : Cond.methodLink RX4 43 yX2_neighbour ∈ GW := inG (mt5 (List.mem_of_getElem? (i := 111) rfl)) rfl
set_option maxRecDepth 20000 in
theorem lkX11_296 : Cond.methodLink RX11 296 yX0_takenSites ∈ GW := inG (mt2 (List.mem_of_getElem? (i := 185) rfl)) rfl
set_option maxRecDepth 20000 in
theorem lkX11_299 : Cond.methodLink RX11 299 yX4_size ∈ GW := inG (mt5 (List.mem_of_getElem? (i := 112) rfl)) rfl
set_option maxRecDepth 20000 in
theorem lkX11_300 : Cond.methodLink RX11 300 yX4_greatest ∈ GW := inG (mt5 (List.mem_of_getElem? (i := 116) rfl)) rfl
set_option maxRecDepth 20000 in
theorem lkX4_55 : Cond.methodLink RX4 55 Lib.Math.max.name ∈ GW := inG (mt5 (List.mem_of_getElem? (i := 120) rfl)) rfl
set_option maxRecDepth 20000 in
theorem lkX11_303 : Cond.methodLink RX11 303 yX11_regionsAtHeads ∈ GW := inG (mt5 (List.mem_of_getElem? (i := 121) rfl)) rfl
set_option maxRecDepth 20000 in
theorem lkX11_314 : Cond.methodLink RX11 314 yX4_chooseAround ∈ GW := inG (mt5 (List.mem_of_getElem? (i := 125) rfl)) rfl
set_option maxRecDepth 20000 in
theorem lkX4_60 : Cond.methodLink RX4 60 yX2_isSite ∈ GW := inG (mt5 (List.mem_of_getElem? (i := 129) rfl)) rfl
set_option maxRecDepth 20000 in
theorem lkX11_333 : Cond.methodLink RX11 333 yX4_chosenRegions ∈ GW := inG (mt5 (List.mem_of_getElem? (i := 130) rfl)) rfl
set_option maxRecDepth 20000 in
theorem lkL_198 : Cond.methodLink RL 198 yX12_free ∈ GW := inG (mt7 (List.mem_of_getElem? (i := 61) rfl)) rfl
set_option maxRecDepth 20000 in
theorem lkX12_203 : Cond.methodLink RX12 203 yX12_findRegions ∈ GW := inG (mt7 (List.mem_of_getElem? (i := 65) rfl)) rfl
set_option maxRecDepth 20000 in
theorem lkX12_93 : Cond.methodLink RX12 93 yX12_growRegion ∈ GW := inG (mt7 (List.mem_of_getElem? (i := 69) rfl)) rfl
set_option maxRecDepth 20000 in
theorem lkX12_97 : Cond.methodLink RX12 97 yX12_isBeside ∈ GW := inG (mt7 (List.mem_of_getElem? (i := 73) rfl)) rfl
set_option maxRecDepth 20000 in
theorem lkX12_206 : Cond.methodLink RX12 206 yX12_freeSites ∈ GW := inG (mt7 (List.mem_of_getElem? (i := 77) rfl)) rfl
set_option maxRecDepth 20000 in
theorem lkX12_209 : Cond.methodLink RX12 209 yX12_greatestRegion ∈ GW := inG (mt7 (List.mem_of_getElem? (i := 81) rfl)) rfl
set_option maxRecDepth 20000 in
theorem lkX12_212 : Cond.methodLink RX12 212 yX12_isBesideHead ∈ GW := inG (mt7 (List.mem_of_getElem? (i := 85) rfl)) rfl
set_option maxRecDepth 20000 in
theorem lkL_199 : Cond.methodLink RL 199 yL_ways ∈ GW := inG (mt5 (List.mem_of_getElem? (i := 134) rfl)) rfl
set_option maxRecDepth 20000 in
theorem lkL_86 : Cond.methodLink RL 86 yX11_ways ∈ GW := inG (mt5 (List.mem_of_getElem? (i := 137) rfl)) rfl
set_option maxRecDepth 20000 in
theorem lkX11_306 : Cond.methodLink RX11 306 yX6_rowsOfSteps ∈ GW := inG (mt5 (List.mem_of_getElem? (i := 141) rfl)) rfl
set_option maxRecDepth 20000 in
theorem lkX6_15 : Cond.methodLink RX6 15 yX6_survey ∈ GW := inG (mt5 (List.mem_of_getElem? (i := 145) rfl)) rfl
set_option maxRecDepth 20000 in
theorem lkX6_44 : Cond.methodLink RX6 44 yX0_isFree ∈ GW := inG (mt5 (List.mem_of_getElem? (i := 149) rfl)) rfl
set_option maxRecDepth 20000 in
theorem lkX6_19 : Cond.methodLink RX6 19 yX0_trail ∈ GW := inG (mt5 (List.mem_of_getElem? (i := 150) rfl)) rfl
set_option maxRecDepth 20000 in
theorem lkX6_25 : Cond.methodLink RX6 25 yX9_head ∈ GW := inG (mt5 (List.mem_of_getElem? (i := 151) rfl)) rfl
set_option maxRecDepth 20000 in
theorem lkX6_31 : Cond.methodLink RX6 31 yX6_rowsFrom ∈ GW := inG (mt5 (List.mem_of_getElem? (i := 152) rfl)) rfl
set_option maxRecDepth 20000 in
theorem lkX6_48 : Cond.methodLink RX6 48 Lib.Math.max.name ∈ GW := inG (mt5 (List.mem_of_getElem? (i := 160) rfl)) rfl
set_option maxRecDepth 20000 in
theorem lkX6_35 : Cond.methodLink RX6 35 yX2_neighbour ∈ GW := inG (mt5 (List.mem_of_getElem? (i := 155) rfl)) rfl
set_option maxRecDepth 20000 in
theorem lkX6_41 : Cond.methodLink RX6 41 yX6_rowsThrough ∈ GW := inG (mt5 (List.mem_of_getElem? (i := 156) rfl)) rfl
set_option maxRecDepth 20000 in
theorem lkX6_53 : Cond.methodLink RX6 53 yX2_isSite ∈ GW := inG (mt5 (List.mem_of_getElem? (i := 159) rfl)) rfl
set_option maxRecDepth 20000 in
theorem lkL_201 : Cond.methodLink RL 201 yX12_ways ∈ GW := inG (mt7 (List.mem_of_getElem? (i := 89) rfl)) rfl
set_option maxRecDepth 20000 in
theorem lkX12_215 : Cond.methodLink RX12 215 yX12_waysFrom ∈ GW := inG (mt7 (List.mem_of_getElem? (i := 93) rfl)) rfl
set_option maxRecDepth 20000 in
theorem lkL_202 : Cond.methodLink RL 202 yL_bestStep ∈ GW := inG (mt5 (List.mem_of_getElem? (i := 161) rfl)) rfl
set_option maxRecDepth 20000 in
theorem lkL_89 : Cond.methodLink RL 89 yX11_bestStep ∈ GW := inG (mt5 (List.mem_of_getElem? (i := 164) rfl)) rfl
set_option maxRecDepth 20000 in
theorem lkX11_310 : Cond.methodLink RX11 310 yX6_bestDirection ∈ GW := inG (mt5 (List.mem_of_getElem? (i := 168) rfl)) rfl
set_option maxRecDepth 20000 in
theorem lkL_204 : Cond.methodLink RL 204 yX12_bestStep ∈ GW := inG (mt7 (List.mem_of_getElem? (i := 97) rfl)) rfl
set_option maxRecDepth 20000 in
theorem lkL_205 : Cond.methodLink RL 205 yL_reach ∈ GW := inG (mt5 (List.mem_of_getElem? (i := 172) rfl)) rfl
set_option maxRecDepth 20000 in
theorem lkL_92 : Cond.methodLink RL 92 yX11_reach ∈ GW := inG (mt5 (List.mem_of_getElem? (i := 175) rfl)) rfl
set_option maxRecDepth 20000 in
theorem lkX11_317 : Cond.methodLink RX11 317 yX4_chosenSites ∈ GW := inG (mt5 (List.mem_of_getElem? (i := 179) rfl)) rfl
set_option maxRecDepth 20000 in
theorem lkL_207 : Cond.methodLink RL 207 yX12_reach ∈ GW := inG (mt7 (List.mem_of_getElem? (i := 101) rfl)) rfl
set_option maxRecDepth 20000 in
theorem lkL_208 : Cond.methodLink RL 208 yL_ifTurned ∈ GW := inG (mt5 (List.mem_of_getElem? (i := 183) rfl)) rfl
set_option maxRecDepth 20000 in
theorem lkL_95 : Cond.methodLink RL 95 yX11_ifTurned ∈ GW := inG (mt5 (List.mem_of_getElem? (i := 186) rfl)) rfl
set_option maxRecDepth 20000 in
theorem lkL_210 : Cond.methodLink RL 210 yX12_ifTurned ∈ GW := inG (mt7 (List.mem_of_getElem? (i := 105) rfl)) rfl
set_option maxRecDepth 20000 in
theorem lkL_211 : Cond.methodLink RL 211 yL_turnable ∈ GW := inG (mt5 (List.mem_of_getElem? (i := 190) rfl)) rfl
set_option maxRecDepth 20000 in
theorem lkL_98 : Cond.methodLink RL 98 yX11_turnable ∈ GW := inG (mt5 (List.mem_of_getElem? (i := 193) rfl)) rfl
set_option maxRecDepth 20000 in
theorem lkX11_320 : Cond.methodLink RX11 320 yX10_possibleTurns ∈ GW := inG (mt5 (List.mem_of_getElem? (i := 197) rfl)) rfl
set_option maxRecDepth 20000 in
theorem lkX10_64 : Cond.methodLink RX10 64 yX9_steps ∈ GW := inG (mt5 (List.mem_of_getElem? (i := 201) rfl)) rfl
set_option maxRecDepth 20000 in
theorem lkX10_67 : Cond.methodLink RX10 67 yX10_refusal ∈ GW := inG (mt5 (List.mem_of_getElem? (i := 202) rfl)) rfl
set_option maxRecDepth 20000 in
theorem lkL_213 : Cond.methodLink RL 213 yX12_turnable ∈ GW := inG (mt7 (List.mem_of_getElem? (i := 109) rfl)) rfl
set_option maxRecDepth 20000 in
theorem lkL_214 : Cond.methodLink RL 214 yL_count ∈ GW := inG (mt5 (List.mem_of_getElem? (i := 203) rfl)) rfl
set_option maxRecDepth 20000 in
theorem lkL_101 : Cond.methodLink RL 101 yX11_count ∈ GW := inG (mt5 (List.mem_of_getElem? (i := 206) rfl)) rfl
set_option maxRecDepth 20000 in
theorem lkX11_323 : Cond.methodLink RX11 323 yX0_stepsMade ∈ GW := inG (mt5 (List.mem_of_getElem? (i := 210) rfl)) rfl
set_option maxRecDepth 20000 in
theorem lkX11_326 : Cond.methodLink RX11 326 yX0_refusals ∈ GW := inG (mt5 (List.mem_of_getElem? (i := 214) rfl)) rfl
set_option maxRecDepth 20000 in
theorem lkX11_329 : Cond.methodLink RX11 329 yX0_turnsMade ∈ GW := inG (mt5 (List.mem_of_getElem? (i := 218) rfl)) rfl
set_option maxRecDepth 20000 in
theorem lkL_216 : Cond.methodLink RL 216 yX12_count ∈ GW := inG (mt7 (List.mem_of_getElem? (i := 113) rfl)) rfl
set_option maxRecDepth 20000 in
theorem lkX12_218 : Cond.methodLink RX12 218 yX12_sitesInPaths ∈ GW := inG (mt7 (List.mem_of_getElem? (i := 117) rfl)) rfl
set_option maxRecDepth 20000 in
theorem lkL_217 : Cond.methodLink RL 217 yL_spread ∈ GW := inG (mt5 (List.mem_of_getElem? (i := 222) rfl)) rfl
set_option maxRecDepth 20000 in
theorem lkL_104 : Cond.methodLink RL 104 yX11_spread ∈ GW := inG (mt5 (List.mem_of_getElem? (i := 225) rfl)) rfl
set_option maxRecDepth 20000 in
theorem lkL_220 : Cond.methodLink RL 220 yX12_spread ∈ GW := inG (mt7 (List.mem_of_getElem? (i := 121) rfl)) rfl
set_option maxRecDepth 20000 in
theorem lkL_221 : Cond.methodLink RL 221 yX11_share ∈ GW := inG (mt2 (List.mem_of_getElem? (i := 181) rfl)) rfl
set_option maxRecDepth 20000 in
theorem lkL_225 : Cond.methodLink RL 225 yX12_share ∈ GW := inG (mt7 (List.mem_of_getElem? (i := 125) rfl)) rfl
/-- what a kind's own tables say -/
def KT (ci : Nat) : Prop := ∃ (r : vw_C) (ty : Nat → FieldType), vwCl[ci]? = some r ∧ (∀ w ∈ u_ws r.1 r.2.1 r.2.2, w ∈ GW) ∧ (∀ k, k < r.2.2 → parseFieldDescriptor (r.2.1 k).2.2.1 = some (ty k)) ∧ (∀ a, a < r.2.2 → ∀ b, b < r.2.2 → a ≠ b → (r.2.1 a).2.1 ≠ (r.2.1 b).2.1)
def FL (own : String) (idx ci k : Nat) : Prop := KT ci ∧ ∃ r : vw_C, vwCl[ci]? = some r ∧ k < r.2.2 ∧ (r.2.1 k).1 = r.1 ∧ Cond.fieldLink own idx r.1 (r.2.1 k).2.1 (r.2.1 k).2.2.1 ∈ GW
set_option maxRecDepth 20000 in
theorem ly0_0 : u_lay RX0 TX0 0 ∈ GW := inG (mt1 (List.mem_of_getElem? (i := 73) rfl)) rfl
set_option maxRecDepth 20000 in
theorem ly0_1 : u_lay RX0 TX0 1 ∈ GW := inG (mt1 (List.mem_of_getElem? (i := 75) rfl)) rfl
set_option maxRecDepth 20000 in
theorem ly0_2 : u_lay RX0 TX0 2 ∈ GW := inG (mt1 (List.mem_of_getElem? (i := 77) rfl)) rfl
set_option maxRecDepth 20000 in
theorem ly0_3 : u_lay RX0 TX0 3 ∈ GW := inG (mt1 (List.mem_of_getElem? (i := 79) rfl)) rfl
set_option maxRecDepth 20000 in
theorem ly0_4 : u_lay RX0 TX0 4 ∈ GW := inG (mt1 (List.mem_of_getElem? (i := 81) rfl)) rfl
set_option maxRecDepth 20000 in
theorem ly0_5 : u_lay RX0 TX0 5 ∈ GW := inG (mt1 (List.mem_of_getElem? (i := 83) rfl)) rfl
set_option maxRecDepth 20000 in
theorem ly0_6 : u_lay RX0 TX0 6 ∈ GW := inG (mt1 (List.mem_of_getElem? (i := 85) rfl)) rfl
set_option maxRecDepth 20000 in
theorem ly0_7 : u_lay RX0 TX0 7 ∈ GW := inG (mt1 (List.mem_of_getElem? (i := 87) rfl)) rfl
theorem lys0 : ∀ w ∈ u_ws RX0 TX0 8, w ∈ GW := by
  intro w h
  obtain ⟨k, hk, rfl⟩ := List.mem_map.mp h
  have hk := List.mem_range.mp hk
  match k, hk with
  | 0, _ => exact ly0_0
  | 1, _ => exact ly0_1
  | 2, _ => exact ly0_2
  | 3, _ => exact ly0_3
  | 4, _ => exact ly0_4
  | 5, _ => exact ly0_5
  | 6, _ => exact ly0_6
  | 7, _ => exact ly0_7
theorem kt0 : KT 0 := ⟨(RX0, TX0, 8), tyX0, rfl, lys0, tyX0_ok, nmX0⟩
set_option maxRecDepth 20000 in
theorem ly1_0 : u_lay RX1 TX1 0 ∈ GW := inG (mt1 (List.mem_of_getElem? (i := 125) rfl)) rfl
set_option maxRecDepth 20000 in
theorem ly1_1 : u_lay RX1 TX1 1 ∈ GW := inG (mt1 (List.mem_of_getElem? (i := 127) rfl)) rfl
set_option maxRecDepth 20000 in
theorem ly1_2 : u_lay RX1 TX1 2 ∈ GW := inG (mt1 (List.mem_of_getElem? (i := 129) rfl)) rfl
theorem lys1 : ∀ w ∈ u_ws RX1 TX1 3, w ∈ GW := by
  intro w h
  obtain ⟨k, hk, rfl⟩ := List.mem_map.mp h
  have hk := List.mem_range.mp hk
  match k, hk with
  | 0, _ => exact ly1_0
  | 1, _ => exact ly1_1
  | 2, _ => exact ly1_2
theorem kt1 : KT 1 := ⟨(RX1, TX1, 3), tyX1, rfl, lys1, tyX1_ok, nmX1⟩
set_option maxRecDepth 20000 in
theorem ly2_0 : u_lay RX3 TX3 0 ∈ GW := inG (mt1 (List.mem_of_getElem? (i := 156) rfl)) rfl
set_option maxRecDepth 20000 in
theorem ly2_1 : u_lay RX3 TX3 1 ∈ GW := inG (mt1 (List.mem_of_getElem? (i := 158) rfl)) rfl
theorem lys2 : ∀ w ∈ u_ws RX3 TX3 2, w ∈ GW := by
  intro w h
  obtain ⟨k, hk, rfl⟩ := List.mem_map.mp h
  have hk := List.mem_range.mp hk
  match k, hk with
  | 0, _ => exact ly2_0
  | 1, _ => exact ly2_1
theorem kt2 : KT 2 := ⟨(RX3, TX3, 2), tyX3, rfl, lys2, tyX3_ok, nmX3⟩
set_option maxRecDepth 20000 in
theorem ly3_0 : u_lay RX4 TX4 0 ∈ GW := inG (mt1 (List.mem_of_getElem? (i := 195) rfl)) rfl
set_option maxRecDepth 20000 in
theorem ly3_1 : u_lay RX4 TX4 1 ∈ GW := inG (mt1 (List.mem_of_getElem? (i := 197) rfl)) rfl
set_option maxRecDepth 20000 in
theorem ly3_2 : u_lay RX4 TX4 2 ∈ GW := inG (mt1 (List.mem_of_getElem? (i := 199) rfl)) rfl
set_option maxRecDepth 20000 in
theorem ly3_3 : u_lay RX4 TX4 3 ∈ GW := inG (mt1 (List.mem_of_getElem? (i := 201) rfl)) rfl
set_option maxRecDepth 20000 in
theorem ly3_4 : u_lay RX4 TX4 4 ∈ GW := inG (mt1 (List.mem_of_getElem? (i := 203) rfl)) rfl
theorem lys3 : ∀ w ∈ u_ws RX4 TX4 5, w ∈ GW := by
  intro w h
  obtain ⟨k, hk, rfl⟩ := List.mem_map.mp h
  have hk := List.mem_range.mp hk
  match k, hk with
  | 0, _ => exact ly3_0
  | 1, _ => exact ly3_1
  | 2, _ => exact ly3_2
  | 3, _ => exact ly3_3
  | 4, _ => exact ly3_4
theorem kt3 : KT 3 := ⟨(RX4, TX4, 5), tyX4, rfl, lys3, tyX4_ok, nmX4⟩
set_option maxRecDepth 20000 in
theorem ly4_0 : u_lay RX5 TX5 0 ∈ GW := inG (mt1 (List.mem_of_getElem? (i := 109) rfl)) rfl
set_option maxRecDepth 20000 in
theorem ly4_1 : u_lay RX5 TX5 1 ∈ GW := inG (mt1 (List.mem_of_getElem? (i := 111) rfl)) rfl
set_option maxRecDepth 20000 in
theorem ly4_2 : u_lay RX5 TX5 2 ∈ GW := inG (mt1 (List.mem_of_getElem? (i := 113) rfl)) rfl
set_option maxRecDepth 20000 in
theorem ly4_3 : u_lay RX5 TX5 3 ∈ GW := inG (mt1 (List.mem_of_getElem? (i := 115) rfl)) rfl
set_option maxRecDepth 20000 in
theorem ly4_4 : u_lay RX5 TX5 4 ∈ GW := inG (mt1 (List.mem_of_getElem? (i := 117) rfl)) rfl
set_option maxRecDepth 20000 in
theorem ly4_5 : u_lay RX5 TX5 5 ∈ GW := inG (mt1 (List.mem_of_getElem? (i := 119) rfl)) rfl
theorem lys4 : ∀ w ∈ u_ws RX5 TX5 6, w ∈ GW := by
  intro w h
  obtain ⟨k, hk, rfl⟩ := List.mem_map.mp h
  have hk := List.mem_range.mp hk
  match k, hk with
  | 0, _ => exact ly4_0
  | 1, _ => exact ly4_1
  | 2, _ => exact ly4_2
  | 3, _ => exact ly4_3
  | 4, _ => exact ly4_4
  | 5, _ => exact ly4_5
theorem kt4 : KT 4 := ⟨(RX5, TX5, 6), tyX5, rfl, lys4, tyX5_ok, nmX5⟩
set_option maxRecDepth 20000 in
theorem ly5_0 : u_lay RX6 TX6 0 ∈ GW := inG (mt1 (List.mem_of_getElem? (i := 181) rfl)) rfl
theorem lys5 : ∀ w ∈ u_ws RX6 TX6 1, w ∈ GW := by
  intro w h
  obtain ⟨k, hk, rfl⟩ := List.mem_map.mp h
  have hk := List.mem_range.mp hk
  match k, hk with
  | 0, _ => exact ly5_0
theorem kt5 : KT 5 := ⟨(RX6, TX6, 1), tyX6, rfl, lys5, tyX6_ok, nmX6⟩
set_option maxRecDepth 20000 in
theorem ly6_0 : u_lay RX7 TX7 0 ∈ GW := inG (mt1 (List.mem_of_getElem? (i := 217) rfl)) rfl
set_option maxRecDepth 20000 in
theorem ly6_1 : u_lay RX7 TX7 1 ∈ GW := inG (mt1 (List.mem_of_getElem? (i := 219) rfl)) rfl
set_option maxRecDepth 20000 in
theorem ly6_2 : u_lay RX7 TX7 2 ∈ GW := inG (mt1 (List.mem_of_getElem? (i := 221) rfl)) rfl
set_option maxRecDepth 20000 in
theorem ly6_3 : u_lay RX7 TX7 3 ∈ GW := inG (mt1 (List.mem_of_getElem? (i := 223) rfl)) rfl
set_option maxRecDepth 20000 in
theorem ly6_4 : u_lay RX7 TX7 4 ∈ GW := inG (mt1 (List.mem_of_getElem? (i := 225) rfl)) rfl
theorem lys6 : ∀ w ∈ u_ws RX7 TX7 5, w ∈ GW := by
  intro w h
  obtain ⟨k, hk, rfl⟩ := List.mem_map.mp h
  have hk := List.mem_range.mp hk
  match k, hk with
  | 0, _ => exact ly6_0
  | 1, _ => exact ly6_1
  | 2, _ => exact ly6_2
  | 3, _ => exact ly6_3
  | 4, _ => exact ly6_4
theorem kt6 : KT 6 := ⟨(RX7, TX7, 5), tyX7, rfl, lys6, tyX7_ok, nmX7⟩
set_option maxRecDepth 20000 in
theorem ly7_0 : u_lay RX8 TX8 0 ∈ GW := inG (mt1 (List.mem_of_getElem? (i := 142) rfl)) rfl
set_option maxRecDepth 20000 in
theorem ly7_1 : u_lay RX8 TX8 1 ∈ GW := inG (mt1 (List.mem_of_getElem? (i := 144) rfl)) rfl
theorem lys7 : ∀ w ∈ u_ws RX8 TX8 2, w ∈ GW := by
  intro w h
  obtain ⟨k, hk, rfl⟩ := List.mem_map.mp h
  have hk := List.mem_range.mp hk
  match k, hk with
  | 0, _ => exact ly7_0
  | 1, _ => exact ly7_1
theorem kt7 : KT 7 := ⟨(RX8, TX8, 2), tyX8, rfl, lys7, tyX8_ok, nmX8⟩
set_option maxRecDepth 20000 in
theorem ly8_0 : u_lay RX9 TX9 0 ∈ GW := inG (mt1 (List.mem_of_getElem? (i := 51) rfl)) rfl
set_option maxRecDepth 20000 in
theorem ly8_1 : u_lay RX9 TX9 1 ∈ GW := inG (mt1 (List.mem_of_getElem? (i := 53) rfl)) rfl
theorem lys8 : ∀ w ∈ u_ws RX9 TX9 2, w ∈ GW := by
  intro w h
  obtain ⟨k, hk, rfl⟩ := List.mem_map.mp h
  have hk := List.mem_range.mp hk
  match k, hk with
  | 0, _ => exact ly8_0
  | 1, _ => exact ly8_1
theorem kt8 : KT 8 := ⟨(RX9, TX9, 2), tyX9, rfl, lys8, tyX9_ok, nmX9⟩
set_option maxRecDepth 20000 in
theorem ly9_0 : u_lay RX10 TX10 0 ∈ GW := inG (mt1 (List.mem_of_getElem? (i := 171) rfl)) rfl
theorem lys9 : ∀ w ∈ u_ws RX10 TX10 1, w ∈ GW := by
  intro w h
  obtain ⟨k, hk, rfl⟩ := List.mem_map.mp h
  have hk := List.mem_range.mp hk
  match k, hk with
  | 0, _ => exact ly9_0
theorem kt9 : KT 9 := ⟨(RX10, TX10, 1), tyX10, rfl, lys9, tyX10_ok, nmX10⟩
set_option maxRecDepth 20000 in
theorem ly10_0 : u_lay RX11 TX11 0 ∈ GW := inG (mt1 (List.mem_of_getElem? (i := 238) rfl)) rfl
set_option maxRecDepth 20000 in
theorem ly10_1 : u_lay RX11 TX11 1 ∈ GW := inG (mt2 (List.mem_of_getElem? (i := 0) rfl)) rfl
set_option maxRecDepth 20000 in
theorem ly10_2 : u_lay RX11 TX11 2 ∈ GW := inG (mt2 (List.mem_of_getElem? (i := 2) rfl)) rfl
set_option maxRecDepth 20000 in
theorem ly10_3 : u_lay RX11 TX11 3 ∈ GW := inG (mt2 (List.mem_of_getElem? (i := 4) rfl)) rfl
set_option maxRecDepth 20000 in
theorem ly10_4 : u_lay RX11 TX11 4 ∈ GW := inG (mt2 (List.mem_of_getElem? (i := 6) rfl)) rfl
set_option maxRecDepth 20000 in
theorem ly10_5 : u_lay RX11 TX11 5 ∈ GW := inG (mt2 (List.mem_of_getElem? (i := 8) rfl)) rfl
set_option maxRecDepth 20000 in
theorem ly10_6 : u_lay RX11 TX11 6 ∈ GW := inG (mt2 (List.mem_of_getElem? (i := 10) rfl)) rfl
set_option maxRecDepth 20000 in
theorem ly10_7 : u_lay RX11 TX11 7 ∈ GW := inG (mt2 (List.mem_of_getElem? (i := 12) rfl)) rfl
set_option maxRecDepth 20000 in
theorem ly10_8 : u_lay RX11 TX11 8 ∈ GW := inG (mt2 (List.mem_of_getElem? (i := 14) rfl)) rfl
set_option maxRecDepth 20000 in
theorem ly10_9 : u_lay RX11 TX11 9 ∈ GW := inG (mt2 (List.mem_of_getElem? (i := 16) rfl)) rfl
theorem lys10 : ∀ w ∈ u_ws RX11 TX11 10, w ∈ GW := by
  intro w h
  obtain ⟨k, hk, rfl⟩ := List.mem_map.mp h
  have hk := List.mem_range.mp hk
  match k, hk with
  | 0, _ => exact ly10_0
  | 1, _ => exact ly10_1
  | 2, _ => exact ly10_2
  | 3, _ => exact ly10_3
  | 4, _ => exact ly10_4
  | 5, _ => exact ly10_5
  | 6, _ => exact ly10_6
  | 7, _ => exact ly10_7
  | 8, _ => exact ly10_8
  | 9, _ => exact ly10_9
theorem kt10 : KT 10 := ⟨(RX11, TX11, 10), tyX11, rfl, lys10, tyX11_ok, nmX11⟩
set_option maxRecDepth 20000 in
theorem ly11_0 : u_lay RX12 TX12 0 ∈ GW := inG (mt6 (List.mem_of_getElem? (i := 15) rfl)) rfl
set_option maxRecDepth 20000 in
theorem ly11_1 : u_lay RX12 TX12 1 ∈ GW := inG (mt6 (List.mem_of_getElem? (i := 17) rfl)) rfl
set_option maxRecDepth 20000 in
theorem ly11_2 : u_lay RX12 TX12 2 ∈ GW := inG (mt6 (List.mem_of_getElem? (i := 19) rfl)) rfl
set_option maxRecDepth 20000 in
theorem ly11_3 : u_lay RX12 TX12 3 ∈ GW := inG (mt6 (List.mem_of_getElem? (i := 21) rfl)) rfl
set_option maxRecDepth 20000 in
theorem ly11_4 : u_lay RX12 TX12 4 ∈ GW := inG (mt6 (List.mem_of_getElem? (i := 23) rfl)) rfl
set_option maxRecDepth 20000 in
theorem ly11_5 : u_lay RX12 TX12 5 ∈ GW := inG (mt6 (List.mem_of_getElem? (i := 25) rfl)) rfl
set_option maxRecDepth 20000 in
theorem ly11_6 : u_lay RX12 TX12 6 ∈ GW := inG (mt6 (List.mem_of_getElem? (i := 27) rfl)) rfl
set_option maxRecDepth 20000 in
theorem ly11_7 : u_lay RX12 TX12 7 ∈ GW := inG (mt6 (List.mem_of_getElem? (i := 29) rfl)) rfl
set_option maxRecDepth 20000 in
theorem ly11_8 : u_lay RX12 TX12 8 ∈ GW := inG (mt6 (List.mem_of_getElem? (i := 31) rfl)) rfl
set_option maxRecDepth 20000 in
theorem ly11_9 : u_lay RX12 TX12 9 ∈ GW := inG (mt6 (List.mem_of_getElem? (i := 33) rfl)) rfl
set_option maxRecDepth 20000 in
theorem ly11_10 : u_lay RX12 TX12 10 ∈ GW := inG (mt6 (List.mem_of_getElem? (i := 35) rfl)) rfl
set_option maxRecDepth 20000 in
theorem ly11_11 : u_lay RX12 TX12 11 ∈ GW := inG (mt6 (List.mem_of_getElem? (i := 37) rfl)) rfl
set_option maxRecDepth 20000 in
theorem ly11_12 : u_lay RX12 TX12 12 ∈ GW := inG (mt6 (List.mem_of_getElem? (i := 39) rfl)) rfl
set_option maxRecDepth 20000 in
theorem ly11_13 : u_lay RX12 TX12 13 ∈ GW := inG (mt6 (List.mem_of_getElem? (i := 41) rfl)) rfl
set_option maxRecDepth 20000 in
theorem ly11_14 : u_lay RX12 TX12 14 ∈ GW := inG (mt6 (List.mem_of_getElem? (i := 43) rfl)) rfl
set_option maxRecDepth 20000 in
theorem ly11_15 : u_lay RX12 TX12 15 ∈ GW := inG (mt6 (List.mem_of_getElem? (i := 45) rfl)) rfl
set_option maxRecDepth 20000 in
theorem ly11_16 : u_lay RX12 TX12 16 ∈ GW := inG (mt6 (List.mem_of_getElem? (i := 47) rfl)) rfl
set_option maxRecDepth 20000 in
theorem ly11_17 : u_lay RX12 TX12 17 ∈ GW := inG (mt6 (List.mem_of_getElem? (i := 49) rfl)) rfl
set_option maxRecDepth 20000 in
theorem ly11_18 : u_lay RX12 TX12 18 ∈ GW := inG (mt6 (List.mem_of_getElem? (i := 51) rfl)) rfl
set_option maxRecDepth 20000 in
theorem ly11_19 : u_lay RX12 TX12 19 ∈ GW := inG (mt6 (List.mem_of_getElem? (i := 53) rfl)) rfl
theorem lys11 : ∀ w ∈ u_ws RX12 TX12 20, w ∈ GW := by
  intro w h
  obtain ⟨k, hk, rfl⟩ := List.mem_map.mp h
  have hk := List.mem_range.mp hk
  match k, hk with
  | 0, _ => exact ly11_0
  | 1, _ => exact ly11_1
  | 2, _ => exact ly11_2
  | 3, _ => exact ly11_3
  | 4, _ => exact ly11_4
  | 5, _ => exact ly11_5
  | 6, _ => exact ly11_6
  | 7, _ => exact ly11_7
  | 8, _ => exact ly11_8
  | 9, _ => exact ly11_9
  | 10, _ => exact ly11_10
  | 11, _ => exact ly11_11
  | 12, _ => exact ly11_12
  | 13, _ => exact ly11_13
  | 14, _ => exact ly11_14
  | 15, _ => exact ly11_15
  | 16, _ => exact ly11_16
  | 17, _ => exact ly11_17
  | 18, _ => exact ly11_18
  | 19, _ => exact ly11_19
  | k + 20, hk => exact absurd hk (by omega)
theorem kt11 : KT 11 := ⟨(RX12, TX12, 20), tyX12, rfl, lys11, tyX12_ok, nmX12⟩
set_option maxRecDepth 20000 in
theorem flX11_12 : FL RX11 12 10 0 := ⟨kt10, (RX11, TX11, 10), rfl, by decide, rfl, inG (mt1 (List.mem_of_getElem? (i := 228) rfl)) rfl⟩
set_option maxRecDepth 20000 in
theorem flX11_19 : FL RX11 19 10 1 := ⟨kt10, (RX11, TX11, 10), rfl, by decide, rfl, inG (mt1 (List.mem_of_getElem? (i := 229) rfl)) rfl⟩
set_option maxRecDepth 20000 in
theorem flX11_26 : FL RX11 26 10 2 := ⟨kt10, (RX11, TX11, 10), rfl, by decide, rfl, inG (mt1 (List.mem_of_getElem? (i := 230) rfl)) rfl⟩
set_option maxRecDepth 20000 in
theorem flX11_33 : FL RX11 33 10 3 := ⟨kt10, (RX11, TX11, 10), rfl, by decide, rfl, inG (mt1 (List.mem_of_getElem? (i := 231) rfl)) rfl⟩
set_option maxRecDepth 20000 in
theorem flX11_40 : FL RX11 40 10 4 := ⟨kt10, (RX11, TX11, 10), rfl, by decide, rfl, inG (mt1 (List.mem_of_getElem? (i := 232) rfl)) rfl⟩
set_option maxRecDepth 20000 in
theorem flX11_47 : FL RX11 47 10 5 := ⟨kt10, (RX11, TX11, 10), rfl, by decide, rfl, inG (mt1 (List.mem_of_getElem? (i := 233) rfl)) rfl⟩
set_option maxRecDepth 20000 in
theorem flX11_54 : FL RX11 54 10 6 := ⟨kt10, (RX11, TX11, 10), rfl, by decide, rfl, inG (mt1 (List.mem_of_getElem? (i := 234) rfl)) rfl⟩
set_option maxRecDepth 20000 in
theorem flX11_61 : FL RX11 61 10 7 := ⟨kt10, (RX11, TX11, 10), rfl, by decide, rfl, inG (mt1 (List.mem_of_getElem? (i := 235) rfl)) rfl⟩
set_option maxRecDepth 20000 in
theorem flX11_68 : FL RX11 68 10 8 := ⟨kt10, (RX11, TX11, 10), rfl, by decide, rfl, inG (mt1 (List.mem_of_getElem? (i := 236) rfl)) rfl⟩
set_option maxRecDepth 20000 in
theorem flX11_72 : FL RX11 72 10 9 := ⟨kt10, (RX11, TX11, 10), rfl, by decide, rfl, inG (mt1 (List.mem_of_getElem? (i := 237) rfl)) rfl⟩
set_option maxRecDepth 20000 in
theorem flX0_11 : FL RX0 11 0 0 := ⟨kt0, (RX0, TX0, 8), rfl, by decide, rfl, inG (mt1 (List.mem_of_getElem? (i := 60) rfl)) rfl⟩
set_option maxRecDepth 20000 in
theorem flX0_17 : FL RX0 17 0 5 := ⟨kt0, (RX0, TX0, 8), rfl, by decide, rfl, inG (mt1 (List.mem_of_getElem? (i := 70) rfl)) rfl⟩
set_option maxRecDepth 20000 in
theorem flX0_21 : FL RX0 21 0 6 := ⟨kt0, (RX0, TX0, 8), rfl, by decide, rfl, inG (mt1 (List.mem_of_getElem? (i := 71) rfl)) rfl⟩
set_option maxRecDepth 20000 in
theorem flX9_9 : FL RX9 9 8 0 := ⟨kt8, (RX9, TX9, 2), rfl, by decide, rfl, inG (mt1 (List.mem_of_getElem? (i := 49) rfl)) rfl⟩
set_option maxRecDepth 20000 in
theorem flX1_11 : FL RX1 11 1 0 := ⟨kt1, (RX1, TX1, 3), rfl, by decide, rfl, inG (mt1 (List.mem_of_getElem? (i := 122) rfl)) rfl⟩
set_option maxRecDepth 20000 in
theorem flX5_9 : FL RX5 9 4 0 := ⟨kt4, (RX5, TX5, 6), rfl, by decide, rfl, inG (mt1 (List.mem_of_getElem? (i := 103) rfl)) rfl⟩
set_option maxRecDepth 20000 in
theorem flX5_15 : FL RX5 15 4 1 := ⟨kt4, (RX5, TX5, 6), rfl, by decide, rfl, inG (mt1 (List.mem_of_getElem? (i := 104) rfl)) rfl⟩
set_option maxRecDepth 20000 in
theorem flX8_11 : FL RX8 11 7 0 := ⟨kt7, (RX8, TX8, 2), rfl, by decide, rfl, inG (mt1 (List.mem_of_getElem? (i := 140) rfl)) rfl⟩
set_option maxRecDepth 20000 in
theorem flX8_17 : FL RX8 17 7 1 := ⟨kt7, (RX8, TX8, 2), rfl, by decide, rfl, inG (mt1 (List.mem_of_getElem? (i := 141) rfl)) rfl⟩
set_option maxRecDepth 20000 in
theorem flX3_9 : FL RX3 9 2 0 := ⟨kt2, (RX3, TX3, 2), rfl, by decide, rfl, inG (mt1 (List.mem_of_getElem? (i := 154) rfl)) rfl⟩
set_option maxRecDepth 20000 in
theorem flX10_9 : FL RX10 9 9 0 := ⟨kt9, (RX10, TX10, 1), rfl, by decide, rfl, inG (mt1 (List.mem_of_getElem? (i := 170) rfl)) rfl⟩
set_option maxRecDepth 20000 in
theorem flX6_9 : FL RX6 9 5 0 := ⟨kt5, (RX6, TX6, 1), rfl, by decide, rfl, inG (mt1 (List.mem_of_getElem? (i := 180) rfl)) rfl⟩
set_option maxRecDepth 20000 in
theorem flX4_9 : FL RX4 9 3 0 := ⟨kt3, (RX4, TX4, 5), rfl, by decide, rfl, inG (mt1 (List.mem_of_getElem? (i := 190) rfl)) rfl⟩
set_option maxRecDepth 20000 in
theorem flX4_15 : FL RX4 15 3 1 := ⟨kt3, (RX4, TX4, 5), rfl, by decide, rfl, inG (mt1 (List.mem_of_getElem? (i := 191) rfl)) rfl⟩
set_option maxRecDepth 20000 in
theorem flX4_18 : FL RX4 18 3 2 := ⟨kt3, (RX4, TX4, 5), rfl, by decide, rfl, inG (mt1 (List.mem_of_getElem? (i := 192) rfl)) rfl⟩
set_option maxRecDepth 20000 in
theorem flX4_22 : FL RX4 22 3 3 := ⟨kt3, (RX4, TX4, 5), rfl, by decide, rfl, inG (mt1 (List.mem_of_getElem? (i := 193) rfl)) rfl⟩
set_option maxRecDepth 20000 in
theorem flX7_9 : FL RX7 9 6 0 := ⟨kt6, (RX7, TX7, 5), rfl, by decide, rfl, inG (mt1 (List.mem_of_getElem? (i := 212) rfl)) rfl⟩
set_option maxRecDepth 20000 in
theorem flX7_15 : FL RX7 15 6 1 := ⟨kt6, (RX7, TX7, 5), rfl, by decide, rfl, inG (mt1 (List.mem_of_getElem? (i := 213) rfl)) rfl⟩
set_option maxRecDepth 20000 in
theorem flX7_18 : FL RX7 18 6 2 := ⟨kt6, (RX7, TX7, 5), rfl, by decide, rfl, inG (mt1 (List.mem_of_getElem? (i := 214) rfl)) rfl⟩
set_option maxRecDepth 20000 in
theorem flX7_21 : FL RX7 21 6 3 := ⟨kt6, (RX7, TX7, 5), rfl, by decide, rfl, inG (mt1 (List.mem_of_getElem? (i := 215) rfl)) rfl⟩
set_option maxRecDepth 20000 in
theorem flX12_7 : FL RX12 7 11 1 := ⟨kt11, (RX12, TX12, 20), rfl, by decide, rfl, inG (mt5 (List.mem_of_getElem? (i := 236) rfl)) rfl⟩
set_option maxRecDepth 20000 in
theorem flX12_13 : FL RX12 13 11 2 := ⟨kt11, (RX12, TX12, 20), rfl, by decide, rfl, inG (mt5 (List.mem_of_getElem? (i := 237) rfl)) rfl⟩
set_option maxRecDepth 20000 in
theorem flX12_16 : FL RX12 16 11 4 := ⟨kt11, (RX12, TX12, 20), rfl, by decide, rfl, inG (mt5 (List.mem_of_getElem? (i := 239) rfl)) rfl⟩
set_option maxRecDepth 20000 in
theorem flX12_19 : FL RX12 19 11 5 := ⟨kt11, (RX12, TX12, 20), rfl, by decide, rfl, inG (mt6 (List.mem_of_getElem? (i := 0) rfl)) rfl⟩
set_option maxRecDepth 20000 in
theorem flX12_22 : FL RX12 22 11 6 := ⟨kt11, (RX12, TX12, 20), rfl, by decide, rfl, inG (mt6 (List.mem_of_getElem? (i := 1) rfl)) rfl⟩
set_option maxRecDepth 20000 in
theorem flX12_25 : FL RX12 25 11 8 := ⟨kt11, (RX12, TX12, 20), rfl, by decide, rfl, inG (mt6 (List.mem_of_getElem? (i := 3) rfl)) rfl⟩
set_option maxRecDepth 20000 in
theorem flX12_28 : FL RX12 28 11 9 := ⟨kt11, (RX12, TX12, 20), rfl, by decide, rfl, inG (mt6 (List.mem_of_getElem? (i := 4) rfl)) rfl⟩
set_option maxRecDepth 20000 in
theorem flX12_31 : FL RX12 31 11 10 := ⟨kt11, (RX12, TX12, 20), rfl, by decide, rfl, inG (mt6 (List.mem_of_getElem? (i := 5) rfl)) rfl⟩
set_option maxRecDepth 20000 in
theorem flX12_34 : FL RX12 34 11 11 := ⟨kt11, (RX12, TX12, 20), rfl, by decide, rfl, inG (mt6 (List.mem_of_getElem? (i := 6) rfl)) rfl⟩
set_option maxRecDepth 20000 in
theorem flX12_37 : FL RX12 37 11 13 := ⟨kt11, (RX12, TX12, 20), rfl, by decide, rfl, inG (mt6 (List.mem_of_getElem? (i := 8) rfl)) rfl⟩
set_option maxRecDepth 20000 in
theorem flX12_40 : FL RX12 40 11 15 := ⟨kt11, (RX12, TX12, 20), rfl, by decide, rfl, inG (mt6 (List.mem_of_getElem? (i := 10) rfl)) rfl⟩
set_option maxRecDepth 20000 in
theorem flX12_43 : FL RX12 43 11 16 := ⟨kt11, (RX12, TX12, 20), rfl, by decide, rfl, inG (mt6 (List.mem_of_getElem? (i := 11) rfl)) rfl⟩
set_option maxRecDepth 20000 in
theorem flX12_46 : FL RX12 46 11 17 := ⟨kt11, (RX12, TX12, 20), rfl, by decide, rfl, inG (mt6 (List.mem_of_getElem? (i := 12) rfl)) rfl⟩
set_option maxRecDepth 20000 in
theorem flX12_49 : FL RX12 49 11 18 := ⟨kt11, (RX12, TX12, 20), rfl, by decide, rfl, inG (mt6 (List.mem_of_getElem? (i := 13) rfl)) rfl⟩
set_option maxRecDepth 20000 in
theorem flX12_52 : FL RX12 52 11 19 := ⟨kt11, (RX12, TX12, 20), rfl, by decide, rfl, inG (mt6 (List.mem_of_getElem? (i := 14) rfl)) rfl⟩
set_option maxRecDepth 20000 in
theorem flX12_55 : FL RX12 55 11 3 := ⟨kt11, (RX12, TX12, 20), rfl, by decide, rfl, inG (mt5 (List.mem_of_getElem? (i := 238) rfl)) rfl⟩
set_option maxRecDepth 20000 in
theorem flX0_35 : FL RX0 35 0 1 := ⟨kt0, (RX0, TX0, 8), rfl, by decide, rfl, inG (mt1 (List.mem_of_getElem? (i := 63) rfl)) rfl⟩
set_option maxRecDepth 20000 in
theorem flX1_18 : FL RX1 18 1 2 := ⟨kt1, (RX1, TX1, 3), rfl, by decide, rfl, inG (mt1 (List.mem_of_getElem? (i := 124) rfl)) rfl⟩
set_option maxRecDepth 20000 in
theorem flX1_22 : FL RX1 22 1 1 := ⟨kt1, (RX1, TX1, 3), rfl, by decide, rfl, inG (mt1 (List.mem_of_getElem? (i := 123) rfl)) rfl⟩
set_option maxRecDepth 20000 in
theorem flX5_24 : FL RX5 24 4 2 := ⟨kt4, (RX5, TX5, 6), rfl, by decide, rfl, inG (mt1 (List.mem_of_getElem? (i := 105) rfl)) rfl⟩
set_option maxRecDepth 20000 in
theorem flX5_42 : FL RX5 42 4 3 := ⟨kt4, (RX5, TX5, 6), rfl, by decide, rfl, inG (mt1 (List.mem_of_getElem? (i := 106) rfl)) rfl⟩
set_option maxRecDepth 20000 in
theorem flX5_46 : FL RX5 46 4 4 := ⟨kt4, (RX5, TX5, 6), rfl, by decide, rfl, inG (mt1 (List.mem_of_getElem? (i := 107) rfl)) rfl⟩
set_option maxRecDepth 20000 in
theorem flX5_50 : FL RX5 50 4 5 := ⟨kt4, (RX5, TX5, 6), rfl, by decide, rfl, inG (mt1 (List.mem_of_getElem? (i := 108) rfl)) rfl⟩
set_option maxRecDepth 20000 in
theorem flX9_15 : FL RX9 15 8 1 := ⟨kt8, (RX9, TX9, 2), rfl, by decide, rfl, inG (mt1 (List.mem_of_getElem? (i := 50) rfl)) rfl⟩
set_option maxRecDepth 20000 in
theorem flX0_31 : FL RX0 31 0 7 := ⟨kt0, (RX0, TX0, 8), rfl, by decide, rfl, inG (mt1 (List.mem_of_getElem? (i := 72) rfl)) rfl⟩
set_option maxRecDepth 20000 in
theorem flX12_59 : FL RX12 59 11 0 := ⟨kt11, (RX12, TX12, 20), rfl, by decide, rfl, inG (mt5 (List.mem_of_getElem? (i := 235) rfl)) rfl⟩
set_option maxRecDepth 20000 in
theorem flX12_101 : FL RX12 101 11 14 := ⟨kt11, (RX12, TX12, 20), rfl, by decide, rfl, inG (mt6 (List.mem_of_getElem? (i := 9) rfl)) rfl⟩
set_option maxRecDepth 20000 in
theorem fsX2_15 : Cond.fieldLink RX2 15 "LatticePaths$Lattice" "ACROSS" "[I" ∈ GW := inG (mt2 (List.mem_of_getElem? (i := 164) rfl)) rfl
set_option maxRecDepth 20000 in
theorem fsX2_22 : Cond.fieldLink RX2 22 "LatticePaths$Lattice" "ALONG" "[I" ∈ GW := inG (mt2 (List.mem_of_getElem? (i := 169) rfl)) rfl
set_option maxRecDepth 20000 in
theorem flX0_56 : FL RX0 56 0 2 := ⟨kt0, (RX0, TX0, 8), rfl, by decide, rfl, inG (mt1 (List.mem_of_getElem? (i := 65) rfl)) rfl⟩
set_option maxRecDepth 20000 in
theorem flX0_59 : FL RX0 59 0 3 := ⟨kt0, (RX0, TX0, 8), rfl, by decide, rfl, inG (mt1 (List.mem_of_getElem? (i := 67) rfl)) rfl⟩
set_option maxRecDepth 20000 in
theorem flX0_62 : FL RX0 62 0 4 := ⟨kt0, (RX0, TX0, 8), rfl, by decide, rfl, inG (mt1 (List.mem_of_getElem? (i := 69) rfl)) rfl⟩
set_option maxRecDepth 20000 in
theorem flX3_15 : FL RX3 15 2 1 := ⟨kt2, (RX3, TX3, 2), rfl, by decide, rfl, inG (mt1 (List.mem_of_getElem? (i := 155) rfl)) rfl⟩
set_option maxRecDepth 20000 in
theorem flX12_146 : FL RX12 146 11 7 := ⟨kt11, (RX12, TX12, 20), rfl, by decide, rfl, inG (mt6 (List.mem_of_getElem? (i := 2) rfl)) rfl⟩
set_option maxRecDepth 20000 in
theorem fsJ0_9 : Cond.fieldLink RJ0 9 "java/lang/String" "value" "[B" ∈ GW := inG (mt7 (List.mem_of_getElem? (i := 134) rfl)) rfl
set_option maxRecDepth 20000 in
theorem fsJ0_38 : Cond.fieldLink RJ0 38 "java/lang/String" "COMPACT_STRINGS" "Z" ∈ GW := inG (mt2 (List.mem_of_getElem? (i := 55) rfl)) rfl
set_option maxRecDepth 20000 in
theorem fsJ0_15 : Cond.fieldLink RJ0 15 "java/lang/String" "coder" "B" ∈ GW := inG (mt7 (List.mem_of_getElem? (i := 133) rfl)) rfl
set_option maxRecDepth 20000 in
theorem fsJ0_1053 : Cond.fieldLink RJ0 1053 "jdk/internal/util/Preconditions" "SIOOBE_FORMATTER" "Ljava/util/function/BiFunction;" ∈ GW := inG (mt2 (List.mem_of_getElem? (i := 98) rfl)) rfl
set_option maxRecDepth 20000 in
theorem fsJ2_44 : Cond.fieldLink RJ2 44 "java/lang/StringUTF16" "$assertionsDisabled" "Z" ∈ GW := inG (mt2 (List.mem_of_getElem? (i := 109) rfl)) rfl
set_option maxRecDepth 20000 in
theorem fsJ2_59 : Cond.fieldLink RJ2 59 "java/lang/StringUTF16" "HI_BYTE_SHIFT" "I" ∈ GW := inG (mt2 (List.mem_of_getElem? (i := 111) rfl)) rfl
set_option maxRecDepth 20000 in
theorem fsJ2_63 : Cond.fieldLink RJ2 63 "java/lang/StringUTF16" "LO_BYTE_SHIFT" "I" ∈ GW := inG (mt2 (List.mem_of_getElem? (i := 113) rfl)) rfl
set_option maxRecDepth 20000 in
theorem flX7_30 : FL RX7 30 6 4 := ⟨kt6, (RX7, TX7, 5), rfl, by decide, rfl, inG (mt1 (List.mem_of_getElem? (i := 216) rfl)) rfl⟩
set_option maxRecDepth 20000 in
theorem flX4_31 : FL RX4 31 3 4 := ⟨kt3, (RX4, TX4, 5), rfl, by decide, rfl, inG (mt1 (List.mem_of_getElem? (i := 194) rfl)) rfl⟩
set_option maxRecDepth 20000 in
theorem flX12_90 : FL RX12 90 11 12 := ⟨kt11, (RX12, TX12, 20), rfl, by decide, rfl, inG (mt6 (List.mem_of_getElem? (i := 7) rfl)) rfl⟩
set_option maxRecDepth 20000 in
theorem clL_8 : Cond.classLink RL 8 RX11 ∈ GW := inG (mt1 (List.mem_of_getElem? (i := 28) rfl)) rfl
set_option maxRecDepth 20000 in
theorem itX11 : Cond.instantiable RX11 10 ∈ GW := inG (mt1 (List.mem_of_getElem? (i := 29) rfl)) rfl
set_option maxRecDepth 20000 in
theorem clL_109 : Cond.classLink RL 109 RX12 ∈ GW := inG (mt5 (List.mem_of_getElem? (i := 229) rfl)) rfl
set_option maxRecDepth 20000 in
theorem itX12 : Cond.instantiable RX12 20 ∈ GW := inG (mt5 (List.mem_of_getElem? (i := 230) rfl)) rfl
set_option maxRecDepth 20000 in
theorem ac_long : Cond.arrayClass .long ∈ GW := inG (mt7 (List.mem_of_getElem? (i := 130) rfl)) rfl
set_option maxRecDepth 20000 in
theorem ac_double : Cond.arrayClass .double ∈ GW := inG (mt7 (List.mem_of_getElem? (i := 131) rfl)) rfl
set_option maxRecDepth 20000 in
theorem clX11_9 : Cond.classLink RX11 9 RX0 ∈ GW := inG (mt1 (List.mem_of_getElem? (i := 36) rfl)) rfl
set_option maxRecDepth 20000 in
theorem itX0 : Cond.instantiable RX0 8 ∈ GW := inG (mt1 (List.mem_of_getElem? (i := 37) rfl)) rfl
set_option maxRecDepth 20000 in
theorem clX11_16 : Cond.classLink RX11 16 RX1 ∈ GW := inG (mt1 (List.mem_of_getElem? (i := 90) rfl)) rfl
set_option maxRecDepth 20000 in
theorem itX1 : Cond.instantiable RX1 3 ∈ GW := inG (mt1 (List.mem_of_getElem? (i := 91) rfl)) rfl
set_option maxRecDepth 20000 in
theorem clX11_23 : Cond.classLink RX11 23 RX8 ∈ GW := inG (mt1 (List.mem_of_getElem? (i := 132) rfl)) rfl
set_option maxRecDepth 20000 in
theorem itX8 : Cond.instantiable RX8 2 ∈ GW := inG (mt1 (List.mem_of_getElem? (i := 133) rfl)) rfl
set_option maxRecDepth 20000 in
theorem clX11_30 : Cond.classLink RX11 30 RX3 ∈ GW := inG (mt1 (List.mem_of_getElem? (i := 148) rfl)) rfl
set_option maxRecDepth 20000 in
theorem itX3 : Cond.instantiable RX3 2 ∈ GW := inG (mt1 (List.mem_of_getElem? (i := 149) rfl)) rfl
set_option maxRecDepth 20000 in
theorem clX11_37 : Cond.classLink RX11 37 RX9 ∈ GW := inG (mt1 (List.mem_of_getElem? (i := 162) rfl)) rfl
set_option maxRecDepth 20000 in
theorem itX9 : Cond.instantiable RX9 2 ∈ GW := inG (mt1 (List.mem_of_getElem? (i := 44) rfl)) rfl
set_option maxRecDepth 20000 in
theorem clX11_44 : Cond.classLink RX11 44 RX10 ∈ GW := inG (mt1 (List.mem_of_getElem? (i := 164) rfl)) rfl
set_option maxRecDepth 20000 in
theorem itX10 : Cond.instantiable RX10 1 ∈ GW := inG (mt1 (List.mem_of_getElem? (i := 165) rfl)) rfl
set_option maxRecDepth 20000 in
theorem clX11_51 : Cond.classLink RX11 51 RX6 ∈ GW := inG (mt1 (List.mem_of_getElem? (i := 174) rfl)) rfl
set_option maxRecDepth 20000 in
theorem itX6 : Cond.instantiable RX6 1 ∈ GW := inG (mt1 (List.mem_of_getElem? (i := 175) rfl)) rfl
set_option maxRecDepth 20000 in
theorem clX11_58 : Cond.classLink RX11 58 RX4 ∈ GW := inG (mt1 (List.mem_of_getElem? (i := 184) rfl)) rfl
set_option maxRecDepth 20000 in
theorem itX4 : Cond.instantiable RX4 5 ∈ GW := inG (mt1 (List.mem_of_getElem? (i := 185) rfl)) rfl
set_option maxRecDepth 20000 in
theorem clX11_65 : Cond.classLink RX11 65 RX7 ∈ GW := inG (mt1 (List.mem_of_getElem? (i := 206) rfl)) rfl
set_option maxRecDepth 20000 in
theorem itX7 : Cond.instantiable RX7 5 ∈ GW := inG (mt1 (List.mem_of_getElem? (i := 207) rfl)) rfl
set_option maxRecDepth 20000 in
theorem clX0_9 : Cond.classLink RX0 9 RX9 ∈ GW := inG (mt1 (List.mem_of_getElem? (i := 42) rfl)) rfl
set_option maxRecDepth 20000 in
theorem ac_int : Cond.arrayClass .int ∈ GW := inG (mt1 (List.mem_of_getElem? (i := 56) rfl)) rfl
set_option maxRecDepth 20000 in
theorem clX1_9 : Cond.classLink RX1 9 RX5 ∈ GW := inG (mt1 (List.mem_of_getElem? (i := 96) rfl)) rfl
set_option maxRecDepth 20000 in
theorem itX5 : Cond.instantiable RX5 6 ∈ GW := inG (mt1 (List.mem_of_getElem? (i := 98) rfl)) rfl
set_option maxRecDepth 20000 in
theorem clX8_9 : Cond.classLink RX8 9 RX5 ∈ GW := inG (mt1 (List.mem_of_getElem? (i := 138) rfl)) rfl
set_option maxRecDepth 20000 in
theorem ac_boolean : Cond.arrayClass .boolean ∈ GW := inG (mt1 (List.mem_of_getElem? (i := 147) rfl)) rfl
set_option maxRecDepth 20000 in
theorem ac_char : Cond.arrayClass .char ∈ GW := inG (mt1 (List.mem_of_getElem? (i := 161) rfl)) rfl
set_option maxRecDepth 20000 in
theorem clL_13 : Cond.classLink RL 13 "java/lang/IndexOutOfBoundsException" ∈ GW := inG (mt2 (List.mem_of_getElem? (i := 193) rfl)) rfl
set_option maxRecDepth 20000 in
theorem clL_15 : Cond.classLink RL 15 "java/lang/IllegalStateException" ∈ GW := inG (mt2 (List.mem_of_getElem? (i := 194) rfl)) rfl
set_option maxRecDepth 20000 in
theorem clX11_87 : Cond.classLink RX11 87 "java/lang/IllegalStateException" ∈ GW := inG (mt3 (List.mem_of_getElem? (i := 35) rfl)) rfl
set_option maxRecDepth 20000 in
theorem gi_IllegalStateException : Cond.initialized "java/lang/IllegalStateException" ∈ GW := inG (mt1 (List.mem_of_getElem? (i := 19) rfl)) rfl
set_option maxRecDepth 20000 in
theorem clX11_170 : Cond.classLink RX11 170 "java/lang/IndexOutOfBoundsException" ∈ GW := inG (mt2 (List.mem_of_getElem? (i := 203) rfl)) rfl
set_option maxRecDepth 20000 in
theorem gi_IndexOutOfBoundsException : Cond.initialized "java/lang/IndexOutOfBoundsException" ∈ GW := inG (mt1 (List.mem_of_getElem? (i := 18) rfl)) rfl
set_option maxRecDepth 20000 in
theorem clL_20 : Cond.classLink RL 20 "java/lang/IllegalArgumentException" ∈ GW := inG (mt3 (List.mem_of_getElem? (i := 101) rfl)) rfl
set_option maxRecDepth 20000 in
theorem clX11_206 : Cond.classLink RX11 206 "java/lang/IllegalArgumentException" ∈ GW := inG (mt3 (List.mem_of_getElem? (i := 117) rfl)) rfl
set_option maxRecDepth 20000 in
theorem gi_IllegalArgumentException : Cond.initialized "java/lang/IllegalArgumentException" ∈ GW := inG (mt1 (List.mem_of_getElem? (i := 20) rfl)) rfl
set_option maxRecDepth 20000 in
theorem gi_Math : Cond.initialized "java/lang/Math" ∈ GW := inG (mt1 (List.mem_of_getElem? (i := 23) rfl)) rfl
set_option maxRecDepth 20000 in
theorem gi_System : Cond.initialized "java/lang/System" ∈ GW := inG (mt1 (List.mem_of_getElem? (i := 27) rfl)) rfl
set_option maxRecDepth 20000 in
theorem cfX11_332 : Cond.constantFloat RX11 332 (1120403456) ∈ GW := inG (mt2 (List.mem_of_getElem? (i := 189) rfl)) rfl
set_option maxRecDepth 20000 in
theorem cfX12_221 : Cond.constantFloat RX12 221 (1120403456) ∈ GW := inG (mt7 (List.mem_of_getElem? (i := 129) rfl)) rfl
set_option maxRecDepth 20000 in
theorem gMstat_max : Cond.static Lib.Math.max.name ∈ GW := inG (mt2 (List.mem_of_getElem? (i := 72) rfl)) rfl
set_option maxRecDepth 20000 in
theorem gMcode_max : Cond.code Lib.Math.max.name Lib.Math.max.code 2 (some .int) ∈ GW := inG (mt2 (List.mem_of_getElem? (i := 73) rfl)) rfl
set_option maxRecDepth 20000 in
theorem gMstat_min : Cond.static Lib.Math.min.name ∈ GW := inG (mt2 (List.mem_of_getElem? (i := 75) rfl)) rfl
set_option maxRecDepth 20000 in
theorem gMcode_min : Cond.code Lib.Math.min.name Lib.Math.min.code 2 (some .int) ∈ GW := inG (mt2 (List.mem_of_getElem? (i := 76) rfl)) rfl
set_option maxRecDepth 20000 in
theorem gMstat_abs : Cond.static Lib.Math.abs.name ∈ GW := inG (mt5 (List.mem_of_getElem? (i := 4) rfl)) rfl
set_option maxRecDepth 20000 in
theorem gMcode_abs : Cond.code Lib.Math.abs.name Lib.Math.abs.code 1 (some .int) ∈ GW := inG (mt5 (List.mem_of_getElem? (i := 5) rfl)) rfl
set_option maxRecDepth 20000 in
theorem gAc_nat : Cond.native arraycopyName ∈ GW := inG (mt5 (List.mem_of_getElem? (i := 74) rfl)) rfl
set_option maxRecDepth 20000 in
theorem gAc_stat : Cond.static arraycopyName ∈ GW := inG (mt5 (List.mem_of_getElem? (i := 73) rfl)) rfl
set_option maxRecDepth 20000 in
theorem gOi_inst : Cond.instanceMethod objectInit ∈ GW := inG (mt1 (List.mem_of_getElem? (i := 34) rfl)) rfl
set_option maxRecDepth 20000 in
theorem gOi_code : Cond.code objectInit ⟨#[0xb1]⟩ 1 none ∈ GW := inG (mt1 (List.mem_of_getElem? (i := 35) rfl)) rfl
