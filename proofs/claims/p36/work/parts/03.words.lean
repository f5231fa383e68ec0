def goodP (w : Cond) : Bool := goodWord w
/-- the good words of the tables -/
def GW : List Cond := lw_tbl.filter goodWord
theorem inG {w : Cond} (h : w ∈ lw_tbl) (g : goodWord w = true) : w ∈ GW := List.mem_filter.mpr ⟨h, g⟩
theorem GW_good {w : Cond} (h : w ∈ GW) : goodWord w = true := (List.mem_filter.mp h).2
theorem GW_tbl {w : Cond} (h : w ∈ GW) : w ∈ lw_tbl := (List.mem_filter.mp h).1
theorem mp_ {w : Cond} (h : w ∈ k2_sels lw_privs) : w ∈ lw_tbl := List.mem_append_left _ h
theorem mt1 {w : Cond} (h : w ∈ tables_1_1) : w ∈ lw_tbl := List.mem_append_right _ (List.mem_append_left _ h)
theorem mt2 {w : Cond} (h : w ∈ tables_1_2) : w ∈ lw_tbl := List.mem_append_right _ (List.mem_append_right _ (List.mem_append_left _ h))
theorem mt3 {w : Cond} (h : w ∈ tables_1_3) : w ∈ lw_tbl := List.mem_append_right _ (List.mem_append_right _ (List.mem_append_right _ (List.mem_append_left _ h)))
theorem mt4 {w : Cond} (h : w ∈ tables_1_4) : w ∈ lw_tbl := List.mem_append_right _ (List.mem_append_right _ (List.mem_append_right _ (List.mem_append_right _ (h))))
abbrev Mt : Type := Option FieldType × String × Bool × List (Nat × Nat × Nat × Nat)
def codeW (y : MethodName) (cc : ByteArray) (nl : Nat) (mt : Mt) : Cond := match mt.2.2.2 with
  | [] => Cond.code y cc nl mt.1
  | t :: ts => Cond.codeWith y cc nl mt.1 (t :: ts)
/-- a method that can be called: on an object, and without one -/
def MB (y : MethodName) (cc : ByteArray) (nl : Nat) (mt : Mt) (n : Nat) : Prop := codeW y cc nl mt ∈ GW ∧ Cond.initialized y.cls ∈ GW ∧ (y.cls ≠ "java/lang/invoke/MethodHandle" ∧ y.cls ≠ "java/lang/invoke/VarHandle") ∧ (parseMethodDescriptor y.desc).map (fun d => d.parameters.length) = some n ∧ plainName y.cls = true ∧ nl ≤ 21 ∧ n ≤ nl
def MV (y : MethodName) (cc : ByteArray) (nl : Nat) (mt : Mt) (n : Nat) : Prop := MB y cc nl mt n ∧ Cond.instanceMethod y ∈ GW ∧ Cond.selects y.cls y y ∈ GW
def MS (y : MethodName) (cc : ByteArray) (nl : Nat) (mt : Mt) (n : Nat) : Prop := MB y cc nl mt n ∧ Cond.static y ∈ GW
def MI (y : MethodName) (cc : ByteArray) (nl : Nat) (mt : Mt) (n : Nat) : Prop := MB y cc nl mt n ∧ Cond.instanceMethod y ∈ GW ∧ y.name = "<init>" 
set_option maxRecDepth 20000 in
theorem gi_RX0 : Cond.initialized RX0 ∈ GW := inG (mt1 (List.mem_of_getElem? (i := 2) rfl)) rfl
set_option maxRecDepth 20000 in
theorem gi_RX1 : Cond.initialized RX1 ∈ GW := inG (mt1 (List.mem_of_getElem? (i := 5) rfl)) rfl
set_option maxRecDepth 20000 in
theorem gi_RX2 : Cond.initialized RX2 ∈ GW := inG (mt1 (List.mem_of_getElem? (i := 17) rfl)) rfl
set_option maxRecDepth 20000 in
theorem gi_RX3 : Cond.initialized RX3 ∈ GW := inG (mt1 (List.mem_of_getElem? (i := 8) rfl)) rfl
set_option maxRecDepth 20000 in
theorem gi_RX4 : Cond.initialized RX4 ∈ GW := inG (mt1 (List.mem_of_getElem? (i := 11) rfl)) rfl
set_option maxRecDepth 20000 in
theorem gi_RX5 : Cond.initialized RX5 ∈ GW := inG (mt1 (List.mem_of_getElem? (i := 6) rfl)) rfl
set_option maxRecDepth 20000 in
theorem gi_RX6 : Cond.initialized RX6 ∈ GW := inG (mt1 (List.mem_of_getElem? (i := 10) rfl)) rfl
set_option maxRecDepth 20000 in
theorem gi_RX7 : Cond.initialized RX7 ∈ GW := inG (mt1 (List.mem_of_getElem? (i := 12) rfl)) rfl
set_option maxRecDepth 20000 in
theorem gi_RX8 : Cond.initialized RX8 ∈ GW := inG (mt1 (List.mem_of_getElem? (i := 7) rfl)) rfl
set_option maxRecDepth 20000 in
theorem gi_RX9 : Cond.initialized RX9 ∈ GW := inG (mt1 (List.mem_of_getElem? (i := 3) rfl)) rfl
set_option maxRecDepth 20000 in
theorem gi_RX10 : Cond.initialized RX10 ∈ GW := inG (mt1 (List.mem_of_getElem? (i := 9) rfl)) rfl
set_option maxRecDepth 20000 in
theorem gi_RX11 : Cond.initialized RX11 ∈ GW := inG (mt1 (List.mem_of_getElem? (i := 1) rfl)) rfl
set_option maxRecDepth 20000 in
theorem gi_RJ9 : Cond.initialized RJ9 ∈ GW := inG (mt1 (List.mem_of_getElem? (i := 20) rfl)) rfl
set_option maxRecDepth 20000 in
theorem gi_RJ7 : Cond.initialized RJ7 ∈ GW := inG (mt1 (List.mem_of_getElem? (i := 4) rfl)) rfl
set_option maxRecDepth 20000 in
theorem gi_RL : Cond.initialized RL ∈ GW := inG (mt1 (List.mem_of_getElem? (i := 0) rfl)) rfl
abbrev mX11_init : Mt := (none, RX11, true, [])
set_option maxRecDepth 20000 in
theorem miX11_init : MI yX11_init cX11_init 1 mX11_init 0 := ⟨⟨inG (mt1 (List.mem_of_getElem? (i := 25) rfl)) rfl, gi_RX11, ⟨by decide +kernel, by decide +kernel⟩, by decide +kernel, by decide +kernel, by decide, by decide⟩, inG (mt1 (List.mem_of_getElem? (i := 24) rfl)) rfl, rfl⟩
abbrev mX0_init : Mt := (none, RX0, true, [])
set_option maxRecDepth 20000 in
theorem miX0_init : MI yX0_init cX0_init 2 mX0_init 0 := ⟨⟨inG (mt1 (List.mem_of_getElem? (i := 33) rfl)) rfl, gi_RX0, ⟨by decide +kernel, by decide +kernel⟩, by decide +kernel, by decide +kernel, by decide, by decide⟩, inG (mt1 (List.mem_of_getElem? (i := 32) rfl)) rfl, rfl⟩
abbrev mX9_init : Mt := (none, RX9, true, [])
set_option maxRecDepth 20000 in
theorem miX9_init : MI yX9_init cX9_init 1 mX9_init 0 := ⟨⟨inG (mt1 (List.mem_of_getElem? (i := 40) rfl)) rfl, gi_RX9, ⟨by decide +kernel, by decide +kernel⟩, by decide +kernel, by decide +kernel, by decide, by decide⟩, inG (mt1 (List.mem_of_getElem? (i := 39) rfl)) rfl, rfl⟩
abbrev mJ7_fill_53178 : Mt := (none, RJ7, false, [])
set_option maxRecDepth 20000 in
theorem msJ7_fill_53178 : MS yJ7_fill_53178 cJ7_fill_53178 4 mJ7_fill_53178 2 := ⟨⟨inG (mt1 (List.mem_of_getElem? (i := 52) rfl)) rfl, gi_RJ7, ⟨by decide +kernel, by decide +kernel⟩, by decide +kernel, by decide +kernel, by decide, by decide⟩, inG (mt1 (List.mem_of_getElem? (i := 51) rfl)) rfl⟩
abbrev mX1_init : Mt := (none, RX1, true, [])
set_option maxRecDepth 20000 in
theorem miX1_init : MI yX1_init cX1_init 2 mX1_init 0 := ⟨⟨inG (mt1 (List.mem_of_getElem? (i := 87) rfl)) rfl, gi_RX1, ⟨by decide +kernel, by decide +kernel⟩, by decide +kernel, by decide +kernel, by decide, by decide⟩, inG (mt1 (List.mem_of_getElem? (i := 86) rfl)) rfl, rfl⟩
abbrev mX5_init : Mt := (none, RX5, true, [])
set_option maxRecDepth 20000 in
theorem miX5_init : MI yX5_init cX5_init 1 mX5_init 0 := ⟨⟨inG (mt1 (List.mem_of_getElem? (i := 94) rfl)) rfl, gi_RX5, ⟨by decide +kernel, by decide +kernel⟩, by decide +kernel, by decide +kernel, by decide, by decide⟩, inG (mt1 (List.mem_of_getElem? (i := 93) rfl)) rfl, rfl⟩
abbrev mX8_init : Mt := (none, RX8, true, [])
set_option maxRecDepth 20000 in
theorem miX8_init : MI yX8_init cX8_init 2 mX8_init 0 := ⟨⟨inG (mt1 (List.mem_of_getElem? (i := 129) rfl)) rfl, gi_RX8, ⟨by decide +kernel, by decide +kernel⟩, by decide +kernel, by decide +kernel, by decide, by decide⟩, inG (mt1 (List.mem_of_getElem? (i := 128) rfl)) rfl, rfl⟩
abbrev mX3_init : Mt := (none, RX3, true, [])
set_option maxRecDepth 20000 in
theorem miX3_init : MI yX3_init cX3_init 1 mX3_init 0 := ⟨⟨inG (mt1 (List.mem_of_getElem? (i := 145) rfl)) rfl, gi_RX3, ⟨by decide +kernel, by decide +kernel⟩, by decide +kernel, by decide +kernel, by decide, by decide⟩, inG (mt1 (List.mem_of_getElem? (i := 144) rfl)) rfl, rfl⟩
abbrev mX10_init : Mt := (none, RX10, true, [])
set_option maxRecDepth 20000 in
theorem miX10_init : MI yX10_init cX10_init 1 mX10_init 0 := ⟨⟨inG (mt1 (List.mem_of_getElem? (i := 161) rfl)) rfl, gi_RX10, ⟨by decide +kernel, by decide +kernel⟩, by decide +kernel, by decide +kernel, by decide, by decide⟩, inG (mt1 (List.mem_of_getElem? (i := 160) rfl)) rfl, rfl⟩
abbrev mX6_init : Mt := (none, RX6, true, [])
set_option maxRecDepth 20000 in
theorem miX6_init : MI yX6_init cX6_init 1 mX6_init 0 := ⟨⟨inG (mt1 (List.mem_of_getElem? (i := 171) rfl)) rfl, gi_RX6, ⟨by decide +kernel, by decide +kernel⟩, by decide +kernel, by decide +kernel, by decide, by decide⟩, inG (mt1 (List.mem_of_getElem? (i := 170) rfl)) rfl, rfl⟩
abbrev mX4_init : Mt := (none, RX4, true, [])
set_option maxRecDepth 20000 in
theorem miX4_init : MI yX4_init cX4_init 1 mX4_init 0 := ⟨⟨inG (mt1 (List.mem_of_getElem? (i := 181) rfl)) rfl, gi_RX4, ⟨by decide +kernel, by decide +kernel⟩, by decide +kernel, by decide +kernel, by decide, by decide⟩, inG (mt1 (List.mem_of_getElem? (i := 180) rfl)) rfl, rfl⟩
abbrev mX7_init : Mt := (none, RX7, true, [])
set_option maxRecDepth 20000 in
theorem miX7_init : MI yX7_init cX7_init 1 mX7_init 0 := ⟨⟨inG (mt1 (List.mem_of_getElem? (i := 202) rfl)) rfl, gi_RX7, ⟨by decide +kernel, by decide +kernel⟩, by decide +kernel, by decide +kernel, by decide, by decide⟩, inG (mt1 (List.mem_of_getElem? (i := 201) rfl)) rfl, rfl⟩
abbrev mL_cell : Mt := ((some .int), RL, false, [])
set_option maxRecDepth 20000 in
theorem msL_cell : MS yL_cell cL_cell 2 mL_cell 2 := ⟨⟨inG (mt2 (List.mem_of_getElem? (i := 12) rfl)) rfl, gi_RL, ⟨by decide +kernel, by decide +kernel⟩, by decide +kernel, by decide +kernel, by decide, by decide⟩, inG (mt2 (List.mem_of_getElem? (i := 11) rfl)) rfl⟩
abbrev mL_low : Mt := ((some .int), RL, false, [])
set_option maxRecDepth 20000 in
theorem msL_low : MS yL_low cL_low 2 mL_low 2 := ⟨⟨inG (mt2 (List.mem_of_getElem? (i := 17) rfl)) rfl, gi_RL, ⟨by decide +kernel, by decide +kernel⟩, by decide +kernel, by decide +kernel, by decide, by decide⟩, inG (mt2 (List.mem_of_getElem? (i := 16) rfl)) rfl⟩
abbrev mL_told : Mt := ((some .long), RL, false, [])
set_option maxRecDepth 20000 in
theorem msL_told : MS yL_told cL_told 4 mL_told 1 := ⟨⟨inG (mt2 (List.mem_of_getElem? (i := 144) rfl)) rfl, gi_RL, ⟨by decide +kernel, by decide +kernel⟩, by decide +kernel, by decide +kernel, by decide, by decide⟩, inG (mt2 (List.mem_of_getElem? (i := 143) rfl)) rfl⟩
abbrev mL_count : Mt := ((some .int), RL, false, [(0, 5, 6, 23)])
set_option maxRecDepth 20000 in
theorem msL_count : MS yL_count cL_count 3 mL_count 2 := ⟨⟨inG (mt2 (List.mem_of_getElem? (i := 149) rfl)) rfl, gi_RL, ⟨by decide +kernel, by decide +kernel⟩, by decide +kernel, by decide +kernel, by decide, by decide⟩, inG (mt2 (List.mem_of_getElem? (i := 148) rfl)) rfl⟩
abbrev mX11_count : Mt := ((some .int), RX11, false, [])
set_option maxRecDepth 20000 in
theorem mvX11_count : MV yX11_count cX11_count 2 mX11_count 1 := ⟨⟨inG (mt2 (List.mem_of_getElem? (i := 154) rfl)) rfl, gi_RX11, ⟨by decide +kernel, by decide +kernel⟩, by decide +kernel, by decide +kernel, by decide, by decide⟩, inG (mt2 (List.mem_of_getElem? (i := 152) rfl)) rfl, inG (mt2 (List.mem_of_getElem? (i := 153) rfl)) rfl⟩
abbrev mX11_checkRange : Mt := (none, RX11, false, [])
set_option maxRecDepth 20000 in
theorem msX11_checkRange : MS yX11_checkRange cX11_checkRange 3 mX11_checkRange 3 := ⟨⟨inG (mt2 (List.mem_of_getElem? (i := 157) rfl)) rfl, gi_RX11, ⟨by decide +kernel, by decide +kernel⟩, by decide +kernel, by decide +kernel, by decide, by decide⟩, inG (mt2 (List.mem_of_getElem? (i := 156) rfl)) rfl⟩
abbrev mX0_pathCount : Mt := ((some .int), RX0, false, [])
set_option maxRecDepth 20000 in
theorem mvX0_pathCount : MV yX0_pathCount cX0_pathCount 1 mX0_pathCount 0 := ⟨⟨inG (mt2 (List.mem_of_getElem? (i := 177) rfl)) rfl, gi_RX0, ⟨by decide +kernel, by decide +kernel⟩, by decide +kernel, by decide +kernel, by decide, by decide⟩, inG (mt2 (List.mem_of_getElem? (i := 175) rfl)) rfl, inG (mt2 (List.mem_of_getElem? (i := 176) rfl)) rfl⟩
abbrev mX0_takenSites : Mt := ((some .int), RX0, false, [])
set_option maxRecDepth 20000 in
theorem mvX0_takenSites : MV yX0_takenSites cX0_takenSites 1 mX0_takenSites 0 := ⟨⟨inG (mt2 (List.mem_of_getElem? (i := 181) rfl)) rfl, gi_RX0, ⟨by decide +kernel, by decide +kernel⟩, by decide +kernel, by decide +kernel, by decide, by decide⟩, inG (mt2 (List.mem_of_getElem? (i := 179) rfl)) rfl, inG (mt2 (List.mem_of_getElem? (i := 180) rfl)) rfl⟩
abbrev mX0_stepsMade : Mt := ((some .int), RX0, false, [])
set_option maxRecDepth 20000 in
theorem mvX0_stepsMade : MV yX0_stepsMade cX0_stepsMade 1 mX0_stepsMade 0 := ⟨⟨inG (mt2 (List.mem_of_getElem? (i := 185) rfl)) rfl, gi_RX0, ⟨by decide +kernel, by decide +kernel⟩, by decide +kernel, by decide +kernel, by decide, by decide⟩, inG (mt2 (List.mem_of_getElem? (i := 183) rfl)) rfl, inG (mt2 (List.mem_of_getElem? (i := 184) rfl)) rfl⟩
abbrev mX0_refusals : Mt := ((some .int), RX0, false, [])
set_option maxRecDepth 20000 in
theorem mvX0_refusals : MV yX0_refusals cX0_refusals 1 mX0_refusals 0 := ⟨⟨inG (mt2 (List.mem_of_getElem? (i := 189) rfl)) rfl, gi_RX0, ⟨by decide +kernel, by decide +kernel⟩, by decide +kernel, by decide +kernel, by decide, by decide⟩, inG (mt2 (List.mem_of_getElem? (i := 187) rfl)) rfl, inG (mt2 (List.mem_of_getElem? (i := 188) rfl)) rfl⟩
abbrev mX0_turnsMade : Mt := ((some .int), RX0, false, [])
set_option maxRecDepth 20000 in
theorem mvX0_turnsMade : MV yX0_turnsMade cX0_turnsMade 1 mX0_turnsMade 0 := ⟨⟨inG (mt2 (List.mem_of_getElem? (i := 193) rfl)) rfl, gi_RX0, ⟨by decide +kernel, by decide +kernel⟩, by decide +kernel, by decide +kernel, by decide, by decide⟩, inG (mt2 (List.mem_of_getElem? (i := 191) rfl)) rfl, inG (mt2 (List.mem_of_getElem? (i := 192) rfl)) rfl⟩
abbrev mX1_size : Mt := ((some .int), RX1, false, [])
set_option maxRecDepth 20000 in
theorem mvX1_size : MV yX1_size cX1_size 1 mX1_size 0 := ⟨⟨inG (mt2 (List.mem_of_getElem? (i := 30) rfl)) rfl, gi_RX1, ⟨by decide +kernel, by decide +kernel⟩, by decide +kernel, by decide +kernel, by decide, by decide⟩, inG (mt2 (List.mem_of_getElem? (i := 28) rfl)) rfl, inG (mt2 (List.mem_of_getElem? (i := 29) rfl)) rfl⟩
abbrev mX3_length : Mt := ((some .int), RX3, false, [])
set_option maxRecDepth 20000 in
theorem mvX3_length : MV yX3_length cX3_length 1 mX3_length 0 := ⟨⟨inG (mt2 (List.mem_of_getElem? (i := 197) rfl)) rfl, gi_RX3, ⟨by decide +kernel, by decide +kernel⟩, by decide +kernel, by decide +kernel, by decide, by decide⟩, inG (mt2 (List.mem_of_getElem? (i := 195) rfl)) rfl, inG (mt2 (List.mem_of_getElem? (i := 196) rfl)) rfl⟩
abbrev mL_site : Mt := ((some .int), RL, false, [(0, 7, 8, 16), (0, 7, 13, 23)])
set_option maxRecDepth 20000 in
theorem msL_site : MS yL_site cL_site 5 mL_site 4 := ⟨⟨inG (mt2 (List.mem_of_getElem? (i := 201) rfl)) rfl, gi_RL, ⟨by decide +kernel, by decide +kernel⟩, by decide +kernel, by decide +kernel, by decide, by decide⟩, inG (mt2 (List.mem_of_getElem? (i := 200) rfl)) rfl⟩
abbrev mX11_site : Mt := ((some .int), RX11, false, [])
set_option maxRecDepth 20000 in
theorem mvX11_site : MV yX11_site cX11_site 5 mX11_site 3 := ⟨⟨inG (mt2 (List.mem_of_getElem? (i := 206) rfl)) rfl, gi_RX11, ⟨by decide +kernel, by decide +kernel⟩, by decide +kernel, by decide +kernel, by decide, by decide⟩, inG (mt2 (List.mem_of_getElem? (i := 204) rfl)) rfl, inG (mt2 (List.mem_of_getElem? (i := 205) rfl)) rfl⟩
abbrev mX11_checkedSite : Mt := ((some .int), RX11, false, [])
set_option maxRecDepth 20000 in
theorem msX11_checkedSite : MS yX11_checkedSite cX11_checkedSite 3 mX11_checkedSite 2 := ⟨⟨inG (mt2 (List.mem_of_getElem? (i := 209) rfl)) rfl, gi_RX11, ⟨by decide +kernel, by decide +kernel⟩, by decide +kernel, by decide +kernel, by decide, by decide⟩, inG (mt2 (List.mem_of_getElem? (i := 208) rfl)) rfl⟩
abbrev mX2_number : Mt := ((some .int), RX2, false, [])
set_option maxRecDepth 20000 in
theorem msX2_number : MS yX2_number cX2_number 2 mX2_number 2 := ⟨⟨inG (mt2 (List.mem_of_getElem? (i := 212) rfl)) rfl, gi_RX2, ⟨by decide +kernel, by decide +kernel⟩, by decide +kernel, by decide +kernel, by decide, by decide⟩, inG (mt2 (List.mem_of_getElem? (i := 211) rfl)) rfl⟩
abbrev mX0_pathAt : Mt := ((some .int), RX0, false, [])
set_option maxRecDepth 20000 in
theorem mvX0_pathAt : MV yX0_pathAt cX0_pathAt 2 mX0_pathAt 1 := ⟨⟨inG (mt2 (List.mem_of_getElem? (i := 232) rfl)) rfl, gi_RX0, ⟨by decide +kernel, by decide +kernel⟩, by decide +kernel, by decide +kernel, by decide, by decide⟩, inG (mt2 (List.mem_of_getElem? (i := 230) rfl)) rfl, inG (mt2 (List.mem_of_getElem? (i := 231) rfl)) rfl⟩
abbrev mX2_isSite : Mt := ((some .boolean), RX2, false, [])
set_option maxRecDepth 20000 in
theorem msX2_isSite : MS yX2_isSite cX2_isSite 1 mX2_isSite 1 := ⟨⟨inG (mt2 (List.mem_of_getElem? (i := 141) rfl)) rfl, gi_RX2, ⟨by decide +kernel, by decide +kernel⟩, by decide +kernel, by decide +kernel, by decide, by decide⟩, inG (mt2 (List.mem_of_getElem? (i := 140) rfl)) rfl⟩
abbrev mX0_placeAt : Mt := ((some .int), RX0, false, [])
set_option maxRecDepth 20000 in
theorem mvX0_placeAt : MV yX0_placeAt cX0_placeAt 2 mX0_placeAt 1 := ⟨⟨inG (mt2 (List.mem_of_getElem? (i := 236) rfl)) rfl, gi_RX0, ⟨by decide +kernel, by decide +kernel⟩, by decide +kernel, by decide +kernel, by decide, by decide⟩, inG (mt2 (List.mem_of_getElem? (i := 234) rfl)) rfl, inG (mt2 (List.mem_of_getElem? (i := 235) rfl)) rfl⟩
abbrev mX0_freeDirections : Mt := ((some .int), RX0, false, [])
set_option maxRecDepth 20000 in
theorem mvX0_freeDirections : MV yX0_freeDirections cX0_freeDirections 4 mX0_freeDirections 1 := ⟨⟨inG (mt3 (List.mem_of_getElem? (i := 0) rfl)) rfl, gi_RX0, ⟨by decide +kernel, by decide +kernel⟩, by decide +kernel, by decide +kernel, by decide, by decide⟩, inG (mt2 (List.mem_of_getElem? (i := 238) rfl)) rfl, inG (mt2 (List.mem_of_getElem? (i := 239) rfl)) rfl⟩
abbrev mX2_neighbour : Mt := ((some .int), RX2, false, [])
set_option maxRecDepth 20000 in
theorem msX2_neighbour : MS yX2_neighbour cX2_neighbour 2 mX2_neighbour 2 := ⟨⟨inG (mt3 (List.mem_of_getElem? (i := 3) rfl)) rfl, gi_RX2, ⟨by decide +kernel, by decide +kernel⟩, by decide +kernel, by decide +kernel, by decide, by decide⟩, inG (mt3 (List.mem_of_getElem? (i := 2) rfl)) rfl⟩
abbrev mX2_column : Mt := ((some .int), RX2, false, [])
set_option maxRecDepth 20000 in
theorem msX2_column : MS yX2_column cX2_column 1 mX2_column 1 := ⟨⟨inG (mt3 (List.mem_of_getElem? (i := 6) rfl)) rfl, gi_RX2, ⟨by decide +kernel, by decide +kernel⟩, by decide +kernel, by decide +kernel, by decide, by decide⟩, inG (mt3 (List.mem_of_getElem? (i := 5) rfl)) rfl⟩
abbrev mX2_row : Mt := ((some .int), RX2, false, [])
set_option maxRecDepth 20000 in
theorem msX2_row : MS yX2_row cX2_row 1 mX2_row 1 := ⟨⟨inG (mt3 (List.mem_of_getElem? (i := 11) rfl)) rfl, gi_RX2, ⟨by decide +kernel, by decide +kernel⟩, by decide +kernel, by decide +kernel, by decide, by decide⟩, inG (mt3 (List.mem_of_getElem? (i := 10) rfl)) rfl⟩
abbrev mX0_isFree : Mt := ((some .boolean), RX0, false, [])
set_option maxRecDepth 20000 in
theorem mvX0_isFree : MV yX0_isFree cX0_isFree 2 mX0_isFree 1 := ⟨⟨inG (mt3 (List.mem_of_getElem? (i := 18) rfl)) rfl, gi_RX0, ⟨by decide +kernel, by decide +kernel⟩, by decide +kernel, by decide +kernel, by decide, by decide⟩, inG (mt3 (List.mem_of_getElem? (i := 16) rfl)) rfl, inG (mt3 (List.mem_of_getElem? (i := 17) rfl)) rfl⟩
abbrev mL_call : Mt := ((some .int), RL, false, [])
set_option maxRecDepth 20000 in
theorem msL_call : MS yL_call cL_call 5 mL_call 5 := ⟨⟨inG (mt3 (List.mem_of_getElem? (i := 21) rfl)) rfl, gi_RL, ⟨by decide +kernel, by decide +kernel⟩, by decide +kernel, by decide +kernel, by decide, by decide⟩, inG (mt3 (List.mem_of_getElem? (i := 20) rfl)) rfl⟩
abbrev mL_start : Mt := ((some .int), RL, false, [(0, 6, 7, 16), (0, 6, 11, 18)])
set_option maxRecDepth 20000 in
theorem msL_start : MS yL_start cL_start 4 mL_start 3 := ⟨⟨inG (mt3 (List.mem_of_getElem? (i := 24) rfl)) rfl, gi_RL, ⟨by decide +kernel, by decide +kernel⟩, by decide +kernel, by decide +kernel, by decide, by decide⟩, inG (mt3 (List.mem_of_getElem? (i := 23) rfl)) rfl⟩
abbrev mX11_start : Mt := ((some .int), RX11, false, [])
set_option maxRecDepth 20000 in
theorem mvX11_start : MV yX11_start cX11_start 4 mX11_start 2 := ⟨⟨inG (mt3 (List.mem_of_getElem? (i := 28) rfl)) rfl, gi_RX11, ⟨by decide +kernel, by decide +kernel⟩, by decide +kernel, by decide +kernel, by decide, by decide⟩, inG (mt3 (List.mem_of_getElem? (i := 26) rfl)) rfl, inG (mt3 (List.mem_of_getElem? (i := 27) rfl)) rfl⟩
abbrev mX0_isFull : Mt := ((some .boolean), RX0, false, [])
set_option maxRecDepth 20000 in
theorem mvX0_isFull : MV yX0_isFull cX0_isFull 1 mX0_isFull 0 := ⟨⟨inG (mt3 (List.mem_of_getElem? (i := 33) rfl)) rfl, gi_RX0, ⟨by decide +kernel, by decide +kernel⟩, by decide +kernel, by decide +kernel, by decide, by decide⟩, inG (mt3 (List.mem_of_getElem? (i := 31) rfl)) rfl, inG (mt3 (List.mem_of_getElem? (i := 32) rfl)) rfl⟩
abbrev mX1_save : Mt := (none, RX1, false, [])
set_option maxRecDepth 20000 in
theorem mvX1_save : MV yX1_save cX1_save 2 mX1_save 1 := ⟨⟨inG (mt3 (List.mem_of_getElem? (i := 38) rfl)) rfl, gi_RX1, ⟨by decide +kernel, by decide +kernel⟩, by decide +kernel, by decide +kernel, by decide, by decide⟩, inG (mt3 (List.mem_of_getElem? (i := 36) rfl)) rfl, inG (mt3 (List.mem_of_getElem? (i := 37) rfl)) rfl⟩
abbrev mX5_take : Mt := (none, RX5, false, [])
set_option maxRecDepth 20000 in
theorem mvX5_take : MV yX5_take cX5_take 6 mX5_take 1 := ⟨⟨inG (mt3 (List.mem_of_getElem? (i := 42) rfl)) rfl, gi_RX5, ⟨by decide +kernel, by decide +kernel⟩, by decide +kernel, by decide +kernel, by decide, by decide⟩, inG (mt3 (List.mem_of_getElem? (i := 40) rfl)) rfl, inG (mt3 (List.mem_of_getElem? (i := 41) rfl)) rfl⟩
abbrev mX9_length : Mt := ((some .int), RX9, false, [])
set_option maxRecDepth 20000 in
theorem mvX9_length : MV yX9_length cX9_length 1 mX9_length 0 := ⟨⟨inG (mt2 (List.mem_of_getElem? (i := 126) rfl)) rfl, gi_RX9, ⟨by decide +kernel, by decide +kernel⟩, by decide +kernel, by decide +kernel, by decide, by decide⟩, inG (mt2 (List.mem_of_getElem? (i := 124) rfl)) rfl, inG (mt2 (List.mem_of_getElem? (i := 125) rfl)) rfl⟩
abbrev mX9_at : Mt := ((some .int), RX9, false, [])
set_option maxRecDepth 20000 in
theorem mvX9_at : MV yX9_at cX9_at 2 mX9_at 1 := ⟨⟨inG (mt2 (List.mem_of_getElem? (i := 130) rfl)) rfl, gi_RX9, ⟨by decide +kernel, by decide +kernel⟩, by decide +kernel, by decide +kernel, by decide, by decide⟩, inG (mt2 (List.mem_of_getElem? (i := 128) rfl)) rfl, inG (mt2 (List.mem_of_getElem? (i := 129) rfl)) rfl⟩
abbrev mX9_has : Mt := ((some .boolean), RX9, false, [])
set_option maxRecDepth 20000 in
theorem mvX9_has : MV yX9_has cX9_has 2 mX9_has 1 := ⟨⟨inG (mt2 (List.mem_of_getElem? (i := 134) rfl)) rfl, gi_RX9, ⟨by decide +kernel, by decide +kernel⟩, by decide +kernel, by decide +kernel, by decide, by decide⟩, inG (mt2 (List.mem_of_getElem? (i := 132) rfl)) rfl, inG (mt2 (List.mem_of_getElem? (i := 133) rfl)) rfl⟩
abbrev mX9_begin : Mt := (none, RX9, false, [])
set_option maxRecDepth 20000 in
theorem mvX9_begin : MV yX9_begin cX9_begin 2 mX9_begin 1 := ⟨⟨inG (mt3 (List.mem_of_getElem? (i := 48) rfl)) rfl, gi_RX9, ⟨by decide +kernel, by decide +kernel⟩, by decide +kernel, by decide +kernel, by decide, by decide⟩, inG (mt3 (List.mem_of_getElem? (i := 46) rfl)) rfl, inG (mt3 (List.mem_of_getElem? (i := 47) rfl)) rfl⟩
abbrev mX9_clear : Mt := (none, RX9, false, [])
set_option maxRecDepth 20000 in
theorem mvX9_clear : MV yX9_clear cX9_clear 1 mX9_clear 0 := ⟨⟨inG (mt2 (List.mem_of_getElem? (i := 110) rfl)) rfl, gi_RX9, ⟨by decide +kernel, by decide +kernel⟩, by decide +kernel, by decide +kernel, by decide, by decide⟩, inG (mt2 (List.mem_of_getElem? (i := 108) rfl)) rfl, inG (mt2 (List.mem_of_getElem? (i := 109) rfl)) rfl⟩
abbrev mX9_push : Mt := (none, RX9, false, [])
set_option maxRecDepth 20000 in
theorem mvX9_push : MV yX9_push cX9_push 2 mX9_push 1 := ⟨⟨inG (mt2 (List.mem_of_getElem? (i := 114) rfl)) rfl, gi_RX9, ⟨by decide +kernel, by decide +kernel⟩, by decide +kernel, by decide +kernel, by decide, by decide⟩, inG (mt2 (List.mem_of_getElem? (i := 112) rfl)) rfl, inG (mt2 (List.mem_of_getElem? (i := 113) rfl)) rfl⟩
abbrev mX9_isFull : Mt := ((some .boolean), RX9, false, [])
set_option maxRecDepth 20000 in
theorem mvX9_isFull : MV yX9_isFull cX9_isFull 1 mX9_isFull 0 := ⟨⟨inG (mt2 (List.mem_of_getElem? (i := 118) rfl)) rfl, gi_RX9, ⟨by decide +kernel, by decide +kernel⟩, by decide +kernel, by decide +kernel, by decide, by decide⟩, inG (mt2 (List.mem_of_getElem? (i := 116) rfl)) rfl, inG (mt2 (List.mem_of_getElem? (i := 117) rfl)) rfl⟩
abbrev mX0_add : Mt := ((some .int), RX0, false, [])
set_option maxRecDepth 20000 in
theorem mvX0_add : MV yX0_add cX0_add 3 mX0_add 1 := ⟨⟨inG (mt3 (List.mem_of_getElem? (i := 54) rfl)) rfl, gi_RX0, ⟨by decide +kernel, by decide +kernel⟩, by decide +kernel, by decide +kernel, by decide, by decide⟩, inG (mt3 (List.mem_of_getElem? (i := 52) rfl)) rfl, inG (mt3 (List.mem_of_getElem? (i := 53) rfl)) rfl⟩
abbrev mX9_copyFrom : Mt := (none, RX9, false, [])
set_option maxRecDepth 20000 in
theorem mvX9_copyFrom : MV yX9_copyFrom cX9_copyFrom 4 mX9_copyFrom 2 := ⟨⟨inG (mt3 (List.mem_of_getElem? (i := 58) rfl)) rfl, gi_RX9, ⟨by decide +kernel, by decide +kernel⟩, by decide +kernel, by decide +kernel, by decide, by decide⟩, inG (mt3 (List.mem_of_getElem? (i := 56) rfl)) rfl, inG (mt3 (List.mem_of_getElem? (i := 57) rfl)) rfl⟩
abbrev mX0_markSites : Mt := (none, RX0, false, [])
set_option maxRecDepth 20000 in
theorem mvX0_markSites : MV yX0_markSites cX0_markSites 4 mX0_markSites 0 := ⟨⟨inG (mt2 (List.mem_of_getElem? (i := 122) rfl)) rfl, gi_RX0, ⟨by decide +kernel, by decide +kernel⟩, by decide +kernel, by decide +kernel, by decide, by decide⟩, inG (mt2 (List.mem_of_getElem? (i := 120) rfl)) rfl, inG (mt2 (List.mem_of_getElem? (i := 121) rfl)) rfl⟩
abbrev mX0_mark : Mt := (none, RX0, false, [])
set_option maxRecDepth 20000 in
theorem mvX0_mark : MV yX0_mark cX0_mark 4 mX0_mark 3 := ⟨⟨inG (mt2 (List.mem_of_getElem? (i := 138) rfl)) rfl, gi_RX0, ⟨by decide +kernel, by decide +kernel⟩, by decide +kernel, by decide +kernel, by decide, by decide⟩, inG (mt2 (List.mem_of_getElem? (i := 137) rfl)) rfl, inG (mp_ (List.mem_of_getElem? (i := 1) rfl)) rfl⟩
abbrev mL_step : Mt := ((some .int), RL, false, [(0, 6, 7, 16), (0, 6, 11, 23)])
set_option maxRecDepth 20000 in
theorem msL_step : MS yL_step cL_step 4 mL_step 3 := ⟨⟨inG (mt3 (List.mem_of_getElem? (i := 63) rfl)) rfl, gi_RL, ⟨by decide +kernel, by decide +kernel⟩, by decide +kernel, by decide +kernel, by decide, by decide⟩, inG (mt3 (List.mem_of_getElem? (i := 62) rfl)) rfl⟩
abbrev mX11_step : Mt := ((some .int), RX11, false, [])
set_option maxRecDepth 20000 in
theorem mvX11_step : MV yX11_step cX11_step 3 mX11_step 2 := ⟨⟨inG (mt3 (List.mem_of_getElem? (i := 67) rfl)) rfl, gi_RX11, ⟨by decide +kernel, by decide +kernel⟩, by decide +kernel, by decide +kernel, by decide, by decide⟩, inG (mt3 (List.mem_of_getElem? (i := 65) rfl)) rfl, inG (mt3 (List.mem_of_getElem? (i := 66) rfl)) rfl⟩
abbrev mX11_checkPath : Mt := (none, RX11, false, [])
set_option maxRecDepth 20000 in
theorem mvX11_checkPath : MV yX11_checkPath cX11_checkPath 2 mX11_checkPath 1 := ⟨⟨inG (mt3 (List.mem_of_getElem? (i := 71) rfl)) rfl, gi_RX11, ⟨by decide +kernel, by decide +kernel⟩, by decide +kernel, by decide +kernel, by decide, by decide⟩, inG (mt3 (List.mem_of_getElem? (i := 70) rfl)) rfl, inG (mp_ (List.mem_of_getElem? (i := 2) rfl)) rfl⟩
abbrev mX11_checkDirection : Mt := (none, RX11, false, [])
set_option maxRecDepth 20000 in
theorem msX11_checkDirection : MS yX11_checkDirection cX11_checkDirection 1 mX11_checkDirection 1 := ⟨⟨inG (mt3 (List.mem_of_getElem? (i := 75) rfl)) rfl, gi_RX11, ⟨by decide +kernel, by decide +kernel⟩, by decide +kernel, by decide +kernel, by decide, by decide⟩, inG (mt3 (List.mem_of_getElem? (i := 74) rfl)) rfl⟩
abbrev mX0_lengthen : Mt := ((some .int), RX0, false, [])
set_option maxRecDepth 20000 in
theorem mvX0_lengthen : MV yX0_lengthen cX0_lengthen 6 mX0_lengthen 2 := ⟨⟨inG (mt3 (List.mem_of_getElem? (i := 79) rfl)) rfl, gi_RX0, ⟨by decide +kernel, by decide +kernel⟩, by decide +kernel, by decide +kernel, by decide, by decide⟩, inG (mt3 (List.mem_of_getElem? (i := 77) rfl)) rfl, inG (mt3 (List.mem_of_getElem? (i := 78) rfl)) rfl⟩
abbrev mX9_head : Mt := ((some .int), RX9, false, [])
set_option maxRecDepth 20000 in
theorem mvX9_head : MV yX9_head cX9_head 1 mX9_head 0 := ⟨⟨inG (mt3 (List.mem_of_getElem? (i := 83) rfl)) rfl, gi_RX9, ⟨by decide +kernel, by decide +kernel⟩, by decide +kernel, by decide +kernel, by decide, by decide⟩, inG (mt3 (List.mem_of_getElem? (i := 81) rfl)) rfl, inG (mt3 (List.mem_of_getElem? (i := 82) rfl)) rfl⟩
abbrev mX0_refusalAt : Mt := ((some .int), RX0, false, [])
set_option maxRecDepth 20000 in
theorem mvX0_refusalAt : MV yX0_refusalAt cX0_refusalAt 3 mX0_refusalAt 2 := ⟨⟨inG (mt3 (List.mem_of_getElem? (i := 87) rfl)) rfl, gi_RX0, ⟨by decide +kernel, by decide +kernel⟩, by decide +kernel, by decide +kernel, by decide, by decide⟩, inG (mt3 (List.mem_of_getElem? (i := 86) rfl)) rfl, inG (mp_ (List.mem_of_getElem? (i := 3) rfl)) rfl⟩
abbrev mX0_noteStep : Mt := (none, RX0, false, [])
set_option maxRecDepth 20000 in
theorem mvX0_noteStep : MV yX0_noteStep cX0_noteStep 2 mX0_noteStep 1 := ⟨⟨inG (mt3 (List.mem_of_getElem? (i := 94) rfl)) rfl, gi_RX0, ⟨by decide +kernel, by decide +kernel⟩, by decide +kernel, by decide +kernel, by decide, by decide⟩, inG (mt3 (List.mem_of_getElem? (i := 93) rfl)) rfl, inG (mp_ (List.mem_of_getElem? (i := 4) rfl)) rfl⟩
abbrev mL_back : Mt := ((some .int), RL, false, [(0, 5, 6, 16), (0, 5, 10, 18)])
set_option maxRecDepth 20000 in
theorem msL_back : MS yL_back cL_back 3 mL_back 2 := ⟨⟨inG (mt3 (List.mem_of_getElem? (i := 97) rfl)) rfl, gi_RL, ⟨by decide +kernel, by decide +kernel⟩, by decide +kernel, by decide +kernel, by decide, by decide⟩, inG (mt3 (List.mem_of_getElem? (i := 96) rfl)) rfl⟩
abbrev mX11_back : Mt := ((some .int), RX11, false, [])
set_option maxRecDepth 20000 in
theorem mvX11_back : MV yX11_back cX11_back 2 mX11_back 1 := ⟨⟨inG (mt3 (List.mem_of_getElem? (i := 101) rfl)) rfl, gi_RX11, ⟨by decide +kernel, by decide +kernel⟩, by decide +kernel, by decide +kernel, by decide, by decide⟩, inG (mt3 (List.mem_of_getElem? (i := 99) rfl)) rfl, inG (mt3 (List.mem_of_getElem? (i := 100) rfl)) rfl⟩
abbrev mX0_trail : Mt := ((some (.object "LatticePaths$Trail")), RX0, false, [])
set_option maxRecDepth 20000 in
theorem mvX0_trail : MV yX0_trail cX0_trail 2 mX0_trail 1 := ⟨⟨inG (mt3 (List.mem_of_getElem? (i := 105) rfl)) rfl, gi_RX0, ⟨by decide +kernel, by decide +kernel⟩, by decide +kernel, by decide +kernel, by decide, by decide⟩, inG (mt3 (List.mem_of_getElem? (i := 103) rfl)) rfl, inG (mt3 (List.mem_of_getElem? (i := 104) rfl)) rfl⟩
abbrev mX0_shorten : Mt := ((some .int), RX0, false, [])
set_option maxRecDepth 20000 in
theorem mvX0_shorten : MV yX0_shorten cX0_shorten 3 mX0_shorten 1 := ⟨⟨inG (mt3 (List.mem_of_getElem? (i := 111) rfl)) rfl, gi_RX0, ⟨by decide +kernel, by decide +kernel⟩, by decide +kernel, by decide +kernel, by decide, by decide⟩, inG (mt3 (List.mem_of_getElem? (i := 109) rfl)) rfl, inG (mt3 (List.mem_of_getElem? (i := 110) rfl)) rfl⟩
abbrev mX9_endAt : Mt := (none, RX9, false, [])
set_option maxRecDepth 20000 in
theorem mvX9_endAt : MV yX9_endAt cX9_endAt 2 mX9_endAt 1 := ⟨⟨inG (mt3 (List.mem_of_getElem? (i := 115) rfl)) rfl, gi_RX9, ⟨by decide +kernel, by decide +kernel⟩, by decide +kernel, by decide +kernel, by decide, by decide⟩, inG (mt3 (List.mem_of_getElem? (i := 113) rfl)) rfl, inG (mt3 (List.mem_of_getElem? (i := 114) rfl)) rfl⟩
abbrev mL_slither : Mt := ((some .int), RL, false, [(0, 6, 7, 16), (0, 6, 11, 23)])
set_option maxRecDepth 20000 in
theorem msL_slither : MS yL_slither cL_slither 4 mL_slither 3 := ⟨⟨inG (mt3 (List.mem_of_getElem? (i := 118) rfl)) rfl, gi_RL, ⟨by decide +kernel, by decide +kernel⟩, by decide +kernel, by decide +kernel, by decide, by decide⟩, inG (mt3 (List.mem_of_getElem? (i := 117) rfl)) rfl⟩
abbrev mX11_slither : Mt := ((some .int), RX11, false, [])
set_option maxRecDepth 20000 in
theorem mvX11_slither : MV yX11_slither cX11_slither 3 mX11_slither 2 := ⟨⟨inG (mt3 (List.mem_of_getElem? (i := 122) rfl)) rfl, gi_RX11, ⟨by decide +kernel, by decide +kernel⟩, by decide +kernel, by decide +kernel, by decide, by decide⟩, inG (mt3 (List.mem_of_getElem? (i := 120) rfl)) rfl, inG (mt3 (List.mem_of_getElem? (i := 121) rfl)) rfl⟩
abbrev mX0_creep : Mt := ((some .int), RX0, false, [])
set_option maxRecDepth 20000 in
theorem mvX0_creep : MV yX0_creep cX0_creep 6 mX0_creep 2 := ⟨⟨inG (mt3 (List.mem_of_getElem? (i := 126) rfl)) rfl, gi_RX0, ⟨by decide +kernel, by decide +kernel⟩, by decide +kernel, by decide +kernel, by decide, by decide⟩, inG (mt3 (List.mem_of_getElem? (i := 124) rfl)) rfl, inG (mt3 (List.mem_of_getElem? (i := 125) rfl)) rfl⟩
abbrev mX9_tail : Mt := ((some .int), RX9, false, [])
set_option maxRecDepth 20000 in
theorem mvX9_tail : MV yX9_tail cX9_tail 1 mX9_tail 0 := ⟨⟨inG (mt3 (List.mem_of_getElem? (i := 130) rfl)) rfl, gi_RX9, ⟨by decide +kernel, by decide +kernel⟩, by decide +kernel, by decide +kernel, by decide, by decide⟩, inG (mt3 (List.mem_of_getElem? (i := 128) rfl)) rfl, inG (mt3 (List.mem_of_getElem? (i := 129) rfl)) rfl⟩
abbrev mX9_advanceTo : Mt := (none, RX9, false, [])
set_option maxRecDepth 20000 in
theorem mvX9_advanceTo : MV yX9_advanceTo cX9_advanceTo 3 mX9_advanceTo 1 := ⟨⟨inG (mt3 (List.mem_of_getElem? (i := 134) rfl)) rfl, gi_RX9, ⟨by decide +kernel, by decide +kernel⟩, by decide +kernel, by decide +kernel, by decide, by decide⟩, inG (mt3 (List.mem_of_getElem? (i := 132) rfl)) rfl, inG (mt3 (List.mem_of_getElem? (i := 133) rfl)) rfl⟩
abbrev mX9_put : Mt := (none, RX9, false, [])
set_option maxRecDepth 20000 in
theorem mvX9_put : MV yX9_put cX9_put 3 mX9_put 2 := ⟨⟨inG (mt3 (List.mem_of_getElem? (i := 138) rfl)) rfl, gi_RX9, ⟨by decide +kernel, by decide +kernel⟩, by decide +kernel, by decide +kernel, by decide, by decide⟩, inG (mt3 (List.mem_of_getElem? (i := 136) rfl)) rfl, inG (mt3 (List.mem_of_getElem? (i := 137) rfl)) rfl⟩
abbrev mL_turn : Mt := ((some .int), RL, false, [(0, 7, 8, 16), (0, 7, 13, 23)])
set_option maxRecDepth 20000 in
theorem msL_turn : MS yL_turn cL_turn 5 mL_turn 4 := ⟨⟨inG (mt3 (List.mem_of_getElem? (i := 141) rfl)) rfl, gi_RL, ⟨by decide +kernel, by decide +kernel⟩, by decide +kernel, by decide +kernel, by decide, by decide⟩, inG (mt3 (List.mem_of_getElem? (i := 140) rfl)) rfl⟩
abbrev mX11_turn : Mt := ((some .int), RX11, false, [])
set_option maxRecDepth 20000 in
theorem mvX11_turn : MV yX11_turn cX11_turn 5 mX11_turn 3 := ⟨⟨inG (mt3 (List.mem_of_getElem? (i := 145) rfl)) rfl, gi_RX11, ⟨by decide +kernel, by decide +kernel⟩, by decide +kernel, by decide +kernel, by decide, by decide⟩, inG (mt3 (List.mem_of_getElem? (i := 143) rfl)) rfl, inG (mt3 (List.mem_of_getElem? (i := 144) rfl)) rfl⟩
abbrev mX11_checkPlace : Mt := (none, RX11, false, [])
set_option maxRecDepth 20000 in
theorem mvX11_checkPlace : MV yX11_checkPlace cX11_checkPlace 3 mX11_checkPlace 2 := ⟨⟨inG (mt3 (List.mem_of_getElem? (i := 149) rfl)) rfl, gi_RX11, ⟨by decide +kernel, by decide +kernel⟩, by decide +kernel, by decide +kernel, by decide, by decide⟩, inG (mt3 (List.mem_of_getElem? (i := 148) rfl)) rfl, inG (mp_ (List.mem_of_getElem? (i := 5) rfl)) rfl⟩
abbrev mX11_checkQuarters : Mt := (none, RX11, false, [])
set_option maxRecDepth 20000 in
theorem msX11_checkQuarters : MS yX11_checkQuarters cX11_checkQuarters 1 mX11_checkQuarters 1 := ⟨⟨inG (mt3 (List.mem_of_getElem? (i := 154) rfl)) rfl, gi_RX11, ⟨by decide +kernel, by decide +kernel⟩, by decide +kernel, by decide +kernel, by decide, by decide⟩, inG (mt3 (List.mem_of_getElem? (i := 153) rfl)) rfl⟩
abbrev mX10_refusal : Mt := ((some .int), RX10, false, [])
set_option maxRecDepth 20000 in
theorem mvX10_refusal : MV yX10_refusal cX10_refusal 9 mX10_refusal 4 := ⟨⟨inG (mt3 (List.mem_of_getElem? (i := 158) rfl)) rfl, gi_RX10, ⟨by decide +kernel, by decide +kernel⟩, by decide +kernel, by decide +kernel, by decide, by decide⟩, inG (mt3 (List.mem_of_getElem? (i := 156) rfl)) rfl, inG (mt3 (List.mem_of_getElem? (i := 157) rfl)) rfl⟩
abbrev mX10_land : Mt := ((some .boolean), RX10, false, [])
set_option maxRecDepth 20000 in
theorem mvX10_land : MV yX10_land cX10_land 6 mX10_land 3 := ⟨⟨inG (mt3 (List.mem_of_getElem? (i := 163) rfl)) rfl, gi_RX10, ⟨by decide +kernel, by decide +kernel⟩, by decide +kernel, by decide +kernel, by decide, by decide⟩, inG (mt3 (List.mem_of_getElem? (i := 162) rfl)) rfl, inG (mp_ (List.mem_of_getElem? (i := 6) rfl)) rfl⟩
abbrev mX10_swung : Mt := ((some .int), RX10, false, [])
set_option maxRecDepth 20000 in
theorem msX10_swung : MS yX10_swung cX10_swung 7 mX10_swung 3 := ⟨⟨inG (mt3 (List.mem_of_getElem? (i := 168) rfl)) rfl, gi_RX10, ⟨by decide +kernel, by decide +kernel⟩, by decide +kernel, by decide +kernel, by decide, by decide⟩, inG (mt3 (List.mem_of_getElem? (i := 167) rfl)) rfl⟩
abbrev mX0_noteTurn : Mt := (none, RX0, false, [])
set_option maxRecDepth 20000 in
theorem mvX0_noteTurn : MV yX0_noteTurn cX0_noteTurn 2 mX0_noteTurn 1 := ⟨⟨inG (mt3 (List.mem_of_getElem? (i := 177) rfl)) rfl, gi_RX0, ⟨by decide +kernel, by decide +kernel⟩, by decide +kernel, by decide +kernel, by decide, by decide⟩, inG (mt3 (List.mem_of_getElem? (i := 175) rfl)) rfl, inG (mt3 (List.mem_of_getElem? (i := 176) rfl)) rfl⟩
abbrev mX10_moveSites : Mt := (none, RX10, false, [])
set_option maxRecDepth 20000 in
theorem mvX10_moveSites : MV yX10_moveSites cX10_moveSites 6 mX10_moveSites 3 := ⟨⟨inG (mt3 (List.mem_of_getElem? (i := 181) rfl)) rfl, gi_RX10, ⟨by decide +kernel, by decide +kernel⟩, by decide +kernel, by decide +kernel, by decide, by decide⟩, inG (mt3 (List.mem_of_getElem? (i := 179) rfl)) rfl, inG (mt3 (List.mem_of_getElem? (i := 180) rfl)) rfl⟩
abbrev mL_reverse : Mt := ((some .int), RL, false, [(0, 5, 6, 16)])
set_option maxRecDepth 20000 in
theorem msL_reverse : MS yL_reverse cL_reverse 3 mL_reverse 2 := ⟨⟨inG (mt3 (List.mem_of_getElem? (i := 186) rfl)) rfl, gi_RL, ⟨by decide +kernel, by decide +kernel⟩, by decide +kernel, by decide +kernel, by decide, by decide⟩, inG (mt3 (List.mem_of_getElem? (i := 185) rfl)) rfl⟩
abbrev mX11_reverse : Mt := ((some .int), RX11, false, [])
set_option maxRecDepth 20000 in
theorem mvX11_reverse : MV yX11_reverse cX11_reverse 2 mX11_reverse 1 := ⟨⟨inG (mt3 (List.mem_of_getElem? (i := 190) rfl)) rfl, gi_RX11, ⟨by decide +kernel, by decide +kernel⟩, by decide +kernel, by decide +kernel, by decide, by decide⟩, inG (mt3 (List.mem_of_getElem? (i := 188) rfl)) rfl, inG (mt3 (List.mem_of_getElem? (i := 189) rfl)) rfl⟩
abbrev mX0_flip : Mt := ((some .int), RX0, false, [])
set_option maxRecDepth 20000 in
theorem mvX0_flip : MV yX0_flip cX0_flip 2 mX0_flip 1 := ⟨⟨inG (mt3 (List.mem_of_getElem? (i := 194) rfl)) rfl, gi_RX0, ⟨by decide +kernel, by decide +kernel⟩, by decide +kernel, by decide +kernel, by decide, by decide⟩, inG (mt3 (List.mem_of_getElem? (i := 192) rfl)) rfl, inG (mt3 (List.mem_of_getElem? (i := 193) rfl)) rfl⟩
abbrev mX9_flip : Mt := (none, RX9, false, [])
set_option maxRecDepth 20000 in
theorem mvX9_flip : MV yX9_flip cX9_flip 4 mX9_flip 0 := ⟨⟨inG (mt3 (List.mem_of_getElem? (i := 198) rfl)) rfl, gi_RX9, ⟨by decide +kernel, by decide +kernel⟩, by decide +kernel, by decide +kernel, by decide, by decide⟩, inG (mt3 (List.mem_of_getElem? (i := 196) rfl)) rfl, inG (mt3 (List.mem_of_getElem? (i := 197) rfl)) rfl⟩
abbrev mL_join : Mt := ((some .int), RL, false, [(0, 6, 7, 16), (0, 6, 11, 23), (0, 6, 15, 18)])
set_option maxRecDepth 20000 in
theorem msL_join : MS yL_join cL_join 4 mL_join 3 := ⟨⟨inG (mt3 (List.mem_of_getElem? (i := 201) rfl)) rfl, gi_RL, ⟨by decide +kernel, by decide +kernel⟩, by decide +kernel, by decide +kernel, by decide, by decide⟩, inG (mt3 (List.mem_of_getElem? (i := 200) rfl)) rfl⟩
abbrev mX11_join : Mt := ((some .int), RX11, false, [])
set_option maxRecDepth 20000 in
theorem mvX11_join : MV yX11_join cX11_join 5 mX11_join 2 := ⟨⟨inG (mt3 (List.mem_of_getElem? (i := 205) rfl)) rfl, gi_RX11, ⟨by decide +kernel, by decide +kernel⟩, by decide +kernel, by decide +kernel, by decide, by decide⟩, inG (mt3 (List.mem_of_getElem? (i := 203) rfl)) rfl, inG (mt3 (List.mem_of_getElem? (i := 204) rfl)) rfl⟩
abbrev mX11_checkTwoPaths : Mt := (none, RX11, false, [])
set_option maxRecDepth 20000 in
theorem mvX11_checkTwoPaths : MV yX11_checkTwoPaths cX11_checkTwoPaths 3 mX11_checkTwoPaths 2 := ⟨⟨inG (mt3 (List.mem_of_getElem? (i := 209) rfl)) rfl, gi_RX11, ⟨by decide +kernel, by decide +kernel⟩, by decide +kernel, by decide +kernel, by decide, by decide⟩, inG (mt3 (List.mem_of_getElem? (i := 208) rfl)) rfl, inG (mp_ (List.mem_of_getElem? (i := 7) rfl)) rfl⟩
abbrev mX2_areNeighbours : Mt := ((some .boolean), RX2, false, [])
set_option maxRecDepth 20000 in
theorem msX2_areNeighbours : MS yX2_areNeighbours cX2_areNeighbours 2 mX2_areNeighbours 2 := ⟨⟨inG (mt3 (List.mem_of_getElem? (i := 214) rfl)) rfl, gi_RX2, ⟨by decide +kernel, by decide +kernel⟩, by decide +kernel, by decide +kernel, by decide, by decide⟩, inG (mt3 (List.mem_of_getElem? (i := 213) rfl)) rfl⟩
abbrev mX2_squaredDistance : Mt := ((some .int), RX2, false, [])
set_option maxRecDepth 20000 in
theorem msX2_squaredDistance : MS yX2_squaredDistance cX2_squaredDistance 4 mX2_squaredDistance 2 := ⟨⟨inG (mt3 (List.mem_of_getElem? (i := 217) rfl)) rfl, gi_RX2, ⟨by decide +kernel, by decide +kernel⟩, by decide +kernel, by decide +kernel, by decide, by decide⟩, inG (mt3 (List.mem_of_getElem? (i := 216) rfl)) rfl⟩
abbrev mX0_weld : Mt := ((some .int), RX0, false, [])
set_option maxRecDepth 20000 in
theorem mvX0_weld : MV yX0_weld cX0_weld 6 mX0_weld 2 := ⟨⟨inG (mt3 (List.mem_of_getElem? (i := 222) rfl)) rfl, gi_RX0, ⟨by decide +kernel, by decide +kernel⟩, by decide +kernel, by decide +kernel, by decide, by decide⟩, inG (mt3 (List.mem_of_getElem? (i := 220) rfl)) rfl, inG (mt3 (List.mem_of_getElem? (i := 221) rfl)) rfl⟩
abbrev mX0_drop : Mt := (none, RX0, false, [])
set_option maxRecDepth 20000 in
theorem mvX0_drop : MV yX0_drop cX0_drop 4 mX0_drop 1 := ⟨⟨inG (mt3 (List.mem_of_getElem? (i := 226) rfl)) rfl, gi_RX0, ⟨by decide +kernel, by decide +kernel⟩, by decide +kernel, by decide +kernel, by decide, by decide⟩, inG (mt3 (List.mem_of_getElem? (i := 224) rfl)) rfl, inG (mt3 (List.mem_of_getElem? (i := 225) rfl)) rfl⟩
abbrev mL_split : Mt := ((some .int), RL, false, [(0, 6, 7, 16), (0, 6, 11, 18)])
set_option maxRecDepth 20000 in
theorem msL_split : MS yL_split cL_split 4 mL_split 3 := ⟨⟨inG (mt3 (List.mem_of_getElem? (i := 229) rfl)) rfl, gi_RL, ⟨by decide +kernel, by decide +kernel⟩, by decide +kernel, by decide +kernel, by decide, by decide⟩, inG (mt3 (List.mem_of_getElem? (i := 228) rfl)) rfl⟩
abbrev mX11_split : Mt := ((some .int), RX11, false, [])
set_option maxRecDepth 20000 in
theorem mvX11_split : MV yX11_split cX11_split 3 mX11_split 2 := ⟨⟨inG (mt3 (List.mem_of_getElem? (i := 233) rfl)) rfl, gi_RX11, ⟨by decide +kernel, by decide +kernel⟩, by decide +kernel, by decide +kernel, by decide, by decide⟩, inG (mt3 (List.mem_of_getElem? (i := 231) rfl)) rfl, inG (mt3 (List.mem_of_getElem? (i := 232) rfl)) rfl⟩
abbrev mX0_cut : Mt := ((some .int), RX0, false, [])
set_option maxRecDepth 20000 in
theorem mvX0_cut : MV yX0_cut cX0_cut 4 mX0_cut 2 := ⟨⟨inG (mt3 (List.mem_of_getElem? (i := 239) rfl)) rfl, gi_RX0, ⟨by decide +kernel, by decide +kernel⟩, by decide +kernel, by decide +kernel, by decide, by decide⟩, inG (mt3 (List.mem_of_getElem? (i := 237) rfl)) rfl, inG (mt3 (List.mem_of_getElem? (i := 238) rfl)) rfl⟩
abbrev mL_remove : Mt := ((some .int), RL, false, [(0, 5, 6, 16)])
set_option maxRecDepth 20000 in
theorem msL_remove : MS yL_remove cL_remove 3 mL_remove 2 := ⟨⟨inG (mt4 (List.mem_of_getElem? (i := 2) rfl)) rfl, gi_RL, ⟨by decide +kernel, by decide +kernel⟩, by decide +kernel, by decide +kernel, by decide, by decide⟩, inG (mt4 (List.mem_of_getElem? (i := 1) rfl)) rfl⟩
abbrev mX11_remove : Mt := ((some .int), RX11, false, [])
set_option maxRecDepth 20000 in
theorem mvX11_remove : MV yX11_remove cX11_remove 2 mX11_remove 1 := ⟨⟨inG (mt4 (List.mem_of_getElem? (i := 6) rfl)) rfl, gi_RX11, ⟨by decide +kernel, by decide +kernel⟩, by decide +kernel, by decide +kernel, by decide, by decide⟩, inG (mt4 (List.mem_of_getElem? (i := 4) rfl)) rfl, inG (mt4 (List.mem_of_getElem? (i := 5) rfl)) rfl⟩
abbrev mL_undo : Mt := ((some .int), RL, false, [(0, 4, 5, 18)])
set_option maxRecDepth 20000 in
theorem msL_undo : MS yL_undo cL_undo 2 mL_undo 1 := ⟨⟨inG (mt2 (List.mem_of_getElem? (i := 21) rfl)) rfl, gi_RL, ⟨by decide +kernel, by decide +kernel⟩, by decide +kernel, by decide +kernel, by decide, by decide⟩, inG (mt2 (List.mem_of_getElem? (i := 20) rfl)) rfl⟩
abbrev mX11_undo : Mt := ((some .int), RX11, false, [])
set_option maxRecDepth 20000 in
theorem mvX11_undo : MV yX11_undo cX11_undo 1 mX11_undo 0 := ⟨⟨inG (mt2 (List.mem_of_getElem? (i := 26) rfl)) rfl, gi_RX11, ⟨by decide +kernel, by decide +kernel⟩, by decide +kernel, by decide +kernel, by decide, by decide⟩, inG (mt2 (List.mem_of_getElem? (i := 24) rfl)) rfl, inG (mt2 (List.mem_of_getElem? (i := 25) rfl)) rfl⟩
abbrev mX1_restoreLast : Mt := (none, RX1, false, [])
set_option maxRecDepth 20000 in
theorem mvX1_restoreLast : MV yX1_restoreLast cX1_restoreLast 2 mX1_restoreLast 1 := ⟨⟨inG (mt2 (List.mem_of_getElem? (i := 102) rfl)) rfl, gi_RX1, ⟨by decide +kernel, by decide +kernel⟩, by decide +kernel, by decide +kernel, by decide, by decide⟩, inG (mt2 (List.mem_of_getElem? (i := 100) rfl)) rfl, inG (mt2 (List.mem_of_getElem? (i := 101) rfl)) rfl⟩
abbrev mX5_putInto : Mt := (none, RX5, false, [])
set_option maxRecDepth 20000 in
theorem mvX5_putInto : MV yX5_putInto cX5_putInto 6 mX5_putInto 1 := ⟨⟨inG (mt2 (List.mem_of_getElem? (i := 106) rfl)) rfl, gi_RX5, ⟨by decide +kernel, by decide +kernel⟩, by decide +kernel, by decide +kernel, by decide, by decide⟩, inG (mt2 (List.mem_of_getElem? (i := 104) rfl)) rfl, inG (mt2 (List.mem_of_getElem? (i := 105) rfl)) rfl⟩
abbrev mL_due : Mt := ((some .int), RL, false, [])
set_option maxRecDepth 20000 in
theorem msL_due : MS yL_due cL_due 8 mL_due 6 := ⟨⟨inG (mt4 (List.mem_of_getElem? (i := 10) rfl)) rfl, gi_RL, ⟨by decide +kernel, by decide +kernel⟩, by decide +kernel, by decide +kernel, by decide, by decide⟩, inG (mt4 (List.mem_of_getElem? (i := 9) rfl)) rfl⟩
abbrev mL_whose : Mt := ((some .int), RL, false, [])
set_option maxRecDepth 20000 in
theorem msL_whose : MS yL_whose cL_whose 5 mL_whose 3 := ⟨⟨inG (mt4 (List.mem_of_getElem? (i := 13) rfl)) rfl, gi_RL, ⟨by decide +kernel, by decide +kernel⟩, by decide +kernel, by decide +kernel, by decide, by decide⟩, inG (mt4 (List.mem_of_getElem? (i := 12) rfl)) rfl⟩
abbrev mL_at : Mt := ((some .int), RL, false, [])
set_option maxRecDepth 20000 in
theorem msL_at : MS yL_at cL_at 3 mL_at 3 := ⟨⟨inG (mt4 (List.mem_of_getElem? (i := 16) rfl)) rfl, gi_RL, ⟨by decide +kernel, by decide +kernel⟩, by decide +kernel, by decide +kernel, by decide, by decide⟩, inG (mt4 (List.mem_of_getElem? (i := 15) rfl)) rfl⟩
abbrev mL_puts : Mt := (none, RL, false, [])
set_option maxRecDepth 20000 in
theorem msL_puts : MS yL_puts cL_puts 5 mL_puts 4 := ⟨⟨inG (mt4 (List.mem_of_getElem? (i := 19) rfl)) rfl, gi_RL, ⟨by decide +kernel, by decide +kernel⟩, by decide +kernel, by decide +kernel, by decide, by decide⟩, inG (mt4 (List.mem_of_getElem? (i := 18) rfl)) rfl⟩
abbrev mL_stepped : Mt := ((some .int), RL, false, [])
set_option maxRecDepth 20000 in
theorem msL_stepped : MS yL_stepped cL_stepped 8 mL_stepped 5 := ⟨⟨inG (mt4 (List.mem_of_getElem? (i := 22) rfl)) rfl, gi_RL, ⟨by decide +kernel, by decide +kernel⟩, by decide +kernel, by decide +kernel, by decide, by decide⟩, inG (mt4 (List.mem_of_getElem? (i := 21) rfl)) rfl⟩
abbrev mL_go : Mt := ((some .int), RL, false, [])
set_option maxRecDepth 20000 in
theorem msL_go : MS yL_go cL_go 2 mL_go 2 := ⟨⟨inG (mt4 (List.mem_of_getElem? (i := 25) rfl)) rfl, gi_RL, ⟨by decide +kernel, by decide +kernel⟩, by decide +kernel, by decide +kernel, by decide, by decide⟩, inG (mt4 (List.mem_of_getElem? (i := 24) rfl)) rfl⟩
abbrev mL_why : Mt := ((some .int), RL, false, [])
set_option maxRecDepth 20000 in
theorem msL_why : MS yL_why cL_why 6 mL_why 5 := ⟨⟨inG (mt4 (List.mem_of_getElem? (i := 28) rfl)) rfl, gi_RL, ⟨by decide +kernel, by decide +kernel⟩, by decide +kernel, by decide +kernel, by decide, by decide⟩, inG (mt4 (List.mem_of_getElem? (i := 27) rfl)) rfl⟩
abbrev mL_turns : Mt := ((some .int), RL, false, [])
set_option maxRecDepth 20000 in
theorem msL_turns : MS yL_turns cL_turns 7 mL_turns 5 := ⟨⟨inG (mt4 (List.mem_of_getElem? (i := 31) rfl)) rfl, gi_RL, ⟨by decide +kernel, by decide +kernel⟩, by decide +kernel, by decide +kernel, by decide, by decide⟩, inG (mt4 (List.mem_of_getElem? (i := 30) rfl)) rfl⟩
abbrev mL_whyNotTurned : Mt := ((some .int), RL, false, [])
set_option maxRecDepth 20000 in
theorem msL_whyNotTurned : MS yL_whyNotTurned cL_whyNotTurned 11 mL_whyNotTurned 5 := ⟨⟨inG (mt4 (List.mem_of_getElem? (i := 34) rfl)) rfl, gi_RL, ⟨by decide +kernel, by decide +kernel⟩, by decide +kernel, by decide +kernel, by decide, by decide⟩, inG (mt4 (List.mem_of_getElem? (i := 33) rfl)) rfl⟩
abbrev mL_turned : Mt := ((some .int), RL, false, [])
set_option maxRecDepth 20000 in
theorem msL_turned : MS yL_turned cL_turned 7 mL_turned 3 := ⟨⟨inG (mt4 (List.mem_of_getElem? (i := 37) rfl)) rfl, gi_RL, ⟨by decide +kernel, by decide +kernel⟩, by decide +kernel, by decide +kernel, by decide, by decide⟩, inG (mt4 (List.mem_of_getElem? (i := 36) rfl)) rfl⟩
abbrev mL_joined : Mt := ((some .int), RL, false, [])
set_option maxRecDepth 20000 in
theorem msL_joined : MS yL_joined cL_joined 7 mL_joined 4 := ⟨⟨inG (mt4 (List.mem_of_getElem? (i := 40) rfl)) rfl, gi_RL, ⟨by decide +kernel, by decide +kernel⟩, by decide +kernel, by decide +kernel, by decide, by decide⟩, inG (mt4 (List.mem_of_getElem? (i := 39) rfl)) rfl⟩
abbrev mL_drops : Mt := (none, RL, false, [])
set_option maxRecDepth 20000 in
theorem msL_drops : MS yL_drops cL_drops 5 mL_drops 3 := ⟨⟨inG (mt4 (List.mem_of_getElem? (i := 43) rfl)) rfl, gi_RL, ⟨by decide +kernel, by decide +kernel⟩, by decide +kernel, by decide +kernel, by decide, by decide⟩, inG (mt4 (List.mem_of_getElem? (i := 42) rfl)) rfl⟩
abbrev mL_isSo : Mt := ((some .boolean), RL, false, [])
set_option maxRecDepth 20000 in
theorem msL_isSo : MS yL_isSo cL_isSo 18 mL_isSo 4 := ⟨⟨inG (mt4 (List.mem_of_getElem? (i := 46) rfl)) rfl, gi_RL, ⟨by decide +kernel, by decide +kernel⟩, by decide +kernel, by decide +kernel, by decide, by decide⟩, inG (mt4 (List.mem_of_getElem? (i := 45) rfl)) rfl⟩
abbrev mX11_share : Mt := ((some .float), RX11, false, [])
set_option maxRecDepth 20000 in
theorem mvX11_share : MV yX11_share cX11_share 1 mX11_share 0 := ⟨⟨inG (mt4 (List.mem_of_getElem? (i := 50) rfl)) rfl, gi_RX11, ⟨by decide +kernel, by decide +kernel⟩, by decide +kernel, by decide +kernel, by decide, by decide⟩, inG (mt4 (List.mem_of_getElem? (i := 48) rfl)) rfl, inG (mt4 (List.mem_of_getElem? (i := 49) rfl)) rfl⟩
abbrev mX11_trapped : Mt := ((some .int), RX11, false, [])
set_option maxRecDepth 20000 in
theorem mvX11_trapped : MV yX11_trapped cX11_trapped 3 mX11_trapped 0 := ⟨⟨inG (mt4 (List.mem_of_getElem? (i := 56) rfl)) rfl, gi_RX11, ⟨by decide +kernel, by decide +kernel⟩, by decide +kernel, by decide +kernel, by decide, by decide⟩, inG (mt4 (List.mem_of_getElem? (i := 54) rfl)) rfl, inG (mt4 (List.mem_of_getElem? (i := 55) rfl)) rfl⟩
abbrev mL_isPath : Mt := ((some .boolean), RL, false, [])
set_option maxRecDepth 20000 in
theorem msL_isPath : MS yL_isPath cL_isPath 17 mL_isPath 4 := ⟨⟨inG (mt4 (List.mem_of_getElem? (i := 59) rfl)) rfl, gi_RL, ⟨by decide +kernel, by decide +kernel⟩, by decide +kernel, by decide +kernel, by decide, by decide⟩, inG (mt4 (List.mem_of_getElem? (i := 58) rfl)) rfl⟩
abbrev mL_place : Mt := ((some .int), RL, false, [(0, 6, 7, 16)])
set_option maxRecDepth 20000 in
theorem msL_place : MS yL_place cL_place 4 mL_place 3 := ⟨⟨inG (mt4 (List.mem_of_getElem? (i := 62) rfl)) rfl, gi_RL, ⟨by decide +kernel, by decide +kernel⟩, by decide +kernel, by decide +kernel, by decide, by decide⟩, inG (mt4 (List.mem_of_getElem? (i := 61) rfl)) rfl⟩
abbrev mX11_place : Mt := ((some .int), RX11, false, [])
set_option maxRecDepth 20000 in
theorem mvX11_place : MV yX11_place cX11_place 3 mX11_place 2 := ⟨⟨inG (mt4 (List.mem_of_getElem? (i := 66) rfl)) rfl, gi_RX11, ⟨by decide +kernel, by decide +kernel⟩, by decide +kernel, by decide +kernel, by decide, by decide⟩, inG (mt4 (List.mem_of_getElem? (i := 64) rfl)) rfl, inG (mt4 (List.mem_of_getElem? (i := 65) rfl)) rfl⟩
abbrev mL_path : Mt := ((some .int), RL, false, [(0, 6, 7, 16), (0, 6, 11, 23)])
set_option maxRecDepth 20000 in
theorem msL_path : MS yL_path cL_path 4 mL_path 3 := ⟨⟨inG (mt4 (List.mem_of_getElem? (i := 70) rfl)) rfl, gi_RL, ⟨by decide +kernel, by decide +kernel⟩, by decide +kernel, by decide +kernel, by decide, by decide⟩, inG (mt4 (List.mem_of_getElem? (i := 69) rfl)) rfl⟩
abbrev mX11_path : Mt := ((some .int), RX11, false, [])
set_option maxRecDepth 20000 in
theorem mvX11_path : MV yX11_path cX11_path 4 mX11_path 2 := ⟨⟨inG (mt4 (List.mem_of_getElem? (i := 74) rfl)) rfl, gi_RX11, ⟨by decide +kernel, by decide +kernel⟩, by decide +kernel, by decide +kernel, by decide, by decide⟩, inG (mt4 (List.mem_of_getElem? (i := 72) rfl)) rfl, inG (mt4 (List.mem_of_getElem? (i := 73) rfl)) rfl⟩
abbrev mX9_corners : Mt := ((some .int), RX9, false, [])
set_option maxRecDepth 20000 in
theorem mvX9_corners : MV yX9_corners cX9_corners 3 mX9_corners 0 := ⟨⟨inG (mt4 (List.mem_of_getElem? (i := 78) rfl)) rfl, gi_RX9, ⟨by decide +kernel, by decide +kernel⟩, by decide +kernel, by decide +kernel, by decide, by decide⟩, inG (mt4 (List.mem_of_getElem? (i := 76) rfl)) rfl, inG (mt4 (List.mem_of_getElem? (i := 77) rfl)) rfl⟩
abbrev mX9_steps : Mt := ((some .int), RX9, false, [])
set_option maxRecDepth 20000 in
theorem mvX9_steps : MV yX9_steps cX9_steps 1 mX9_steps 0 := ⟨⟨inG (mt4 (List.mem_of_getElem? (i := 82) rfl)) rfl, gi_RX9, ⟨by decide +kernel, by decide +kernel⟩, by decide +kernel, by decide +kernel, by decide, by decide⟩, inG (mt4 (List.mem_of_getElem? (i := 80) rfl)) rfl, inG (mt4 (List.mem_of_getElem? (i := 81) rfl)) rfl⟩
abbrev mX9_stepAt : Mt := ((some .int), RX9, false, [])
set_option maxRecDepth 20000 in
theorem mvX9_stepAt : MV yX9_stepAt cX9_stepAt 2 mX9_stepAt 1 := ⟨⟨inG (mt4 (List.mem_of_getElem? (i := 86) rfl)) rfl, gi_RX9, ⟨by decide +kernel, by decide +kernel⟩, by decide +kernel, by decide +kernel, by decide, by decide⟩, inG (mt4 (List.mem_of_getElem? (i := 84) rfl)) rfl, inG (mt4 (List.mem_of_getElem? (i := 85) rfl)) rfl⟩
abbrev mX2_direction : Mt := ((some .int), RX2, false, [])
set_option maxRecDepth 20000 in
theorem msX2_direction : MS yX2_direction cX2_direction 3 mX2_direction 2 := ⟨⟨inG (mt4 (List.mem_of_getElem? (i := 89) rfl)) rfl, gi_RX2, ⟨by decide +kernel, by decide +kernel⟩, by decide +kernel, by decide +kernel, by decide, by decide⟩, inG (mt4 (List.mem_of_getElem? (i := 88) rfl)) rfl⟩
abbrev mX0_contacts : Mt := ((some .int), RX0, false, [])
set_option maxRecDepth 20000 in
theorem mvX0_contacts : MV yX0_contacts cX0_contacts 7 mX0_contacts 1 := ⟨⟨inG (mt4 (List.mem_of_getElem? (i := 94) rfl)) rfl, gi_RX0, ⟨by decide +kernel, by decide +kernel⟩, by decide +kernel, by decide +kernel, by decide, by decide⟩, inG (mt4 (List.mem_of_getElem? (i := 92) rfl)) rfl, inG (mt4 (List.mem_of_getElem? (i := 93) rfl)) rfl⟩
abbrev mX9_width : Mt := ((some .int), RX9, false, [])
set_option maxRecDepth 20000 in
theorem mvX9_width : MV yX9_width cX9_width 4 mX9_width 0 := ⟨⟨inG (mt4 (List.mem_of_getElem? (i := 102) rfl)) rfl, gi_RX9, ⟨by decide +kernel, by decide +kernel⟩, by decide +kernel, by decide +kernel, by decide, by decide⟩, inG (mt4 (List.mem_of_getElem? (i := 100) rfl)) rfl, inG (mt4 (List.mem_of_getElem? (i := 101) rfl)) rfl⟩
abbrev mX9_height : Mt := ((some .int), RX9, false, [])
set_option maxRecDepth 20000 in
theorem mvX9_height : MV yX9_height cX9_height 4 mX9_height 0 := ⟨⟨inG (mt4 (List.mem_of_getElem? (i := 113) rfl)) rfl, gi_RX9, ⟨by decide +kernel, by decide +kernel⟩, by decide +kernel, by decide +kernel, by decide, by decide⟩, inG (mt4 (List.mem_of_getElem? (i := 111) rfl)) rfl, inG (mt4 (List.mem_of_getElem? (i := 112) rfl)) rfl⟩
abbrev mX9_moment : Mt := ((some .int), RX9, false, [])
set_option maxRecDepth 20000 in
theorem mvX9_moment : MV yX9_moment cX9_moment 7 mX9_moment 0 := ⟨⟨inG (mt4 (List.mem_of_getElem? (i := 120) rfl)) rfl, gi_RX9, ⟨by decide +kernel, by decide +kernel⟩, by decide +kernel, by decide +kernel, by decide, by decide⟩, inG (mt4 (List.mem_of_getElem? (i := 118) rfl)) rfl, inG (mt4 (List.mem_of_getElem? (i := 119) rfl)) rfl⟩
abbrev mX0_freeBorder : Mt := ((some .int), RX0, false, [])
set_option maxRecDepth 20000 in
theorem mvX0_freeBorder : MV yX0_freeBorder cX0_freeBorder 4 mX0_freeBorder 1 := ⟨⟨inG (mt4 (List.mem_of_getElem? (i := 124) rfl)) rfl, gi_RX0, ⟨by decide +kernel, by decide +kernel⟩, by decide +kernel, by decide +kernel, by decide, by decide⟩, inG (mt4 (List.mem_of_getElem? (i := 122) rfl)) rfl, inG (mt4 (List.mem_of_getElem? (i := 123) rfl)) rfl⟩
abbrev mX0_neighboursIn : Mt := ((some .int), RX0, false, [])
set_option maxRecDepth 20000 in
theorem mvX0_neighboursIn : MV yX0_neighboursIn cX0_neighboursIn 5 mX0_neighboursIn 2 := ⟨⟨inG (mt4 (List.mem_of_getElem? (i := 128) rfl)) rfl, gi_RX0, ⟨by decide +kernel, by decide +kernel⟩, by decide +kernel, by decide +kernel, by decide, by decide⟩, inG (mt4 (List.mem_of_getElem? (i := 127) rfl)) rfl, inG (mp_ (List.mem_of_getElem? (i := 8) rfl)) rfl⟩
abbrev mX11_spread : Mt := ((some .double), RX11, false, [])
set_option maxRecDepth 20000 in
theorem mvX11_spread : MV yX11_spread cX11_spread 5 mX11_spread 1 := ⟨⟨inG (mt4 (List.mem_of_getElem? (i := 132) rfl)) rfl, gi_RX11, ⟨by decide +kernel, by decide +kernel⟩, by decide +kernel, by decide +kernel, by decide, by decide⟩, inG (mt4 (List.mem_of_getElem? (i := 130) rfl)) rfl, inG (mt4 (List.mem_of_getElem? (i := 131) rfl)) rfl⟩
abbrev mL_touching : Mt := ((some .int), RL, false, [(0, 6, 7, 16), (0, 6, 11, 23)])
set_option maxRecDepth 20000 in
theorem msL_touching : MS yL_touching cL_touching 4 mL_touching 3 := ⟨⟨inG (mt4 (List.mem_of_getElem? (i := 135) rfl)) rfl, gi_RL, ⟨by decide +kernel, by decide +kernel⟩, by decide +kernel, by decide +kernel, by decide, by decide⟩, inG (mt4 (List.mem_of_getElem? (i := 134) rfl)) rfl⟩
abbrev mX11_touching : Mt := ((some .int), RX11, false, [])
set_option maxRecDepth 20000 in
theorem mvX11_touching : MV yX11_touching cX11_touching 3 mX11_touching 2 := ⟨⟨inG (mt4 (List.mem_of_getElem? (i := 139) rfl)) rfl, gi_RX11, ⟨by decide +kernel, by decide +kernel⟩, by decide +kernel, by decide +kernel, by decide, by decide⟩, inG (mt4 (List.mem_of_getElem? (i := 137) rfl)) rfl, inG (mt4 (List.mem_of_getElem? (i := 138) rfl)) rfl⟩
abbrev mX0_touchingPairs : Mt := ((some .int), RX0, false, [])
set_option maxRecDepth 20000 in
theorem mvX0_touchingPairs : MV yX0_touchingPairs cX0_touchingPairs 6 mX0_touchingPairs 2 := ⟨⟨inG (mt4 (List.mem_of_getElem? (i := 143) rfl)) rfl, gi_RX0, ⟨by decide +kernel, by decide +kernel⟩, by decide +kernel, by decide +kernel, by decide, by decide⟩, inG (mt4 (List.mem_of_getElem? (i := 141) rfl)) rfl, inG (mt4 (List.mem_of_getElem? (i := 142) rfl)) rfl⟩
abbrev mL_ifTurned : Mt := ((some .int), RL, false, [(0, 7, 8, 16), (0, 7, 13, 23)])
set_option maxRecDepth 20000 in
theorem msL_ifTurned : MS yL_ifTurned cL_ifTurned 5 mL_ifTurned 4 := ⟨⟨inG (mt4 (List.mem_of_getElem? (i := 146) rfl)) rfl, gi_RL, ⟨by decide +kernel, by decide +kernel⟩, by decide +kernel, by decide +kernel, by decide, by decide⟩, inG (mt4 (List.mem_of_getElem? (i := 145) rfl)) rfl⟩
abbrev mX11_ifTurned : Mt := ((some .int), RX11, false, [])
set_option maxRecDepth 20000 in
theorem mvX11_ifTurned : MV yX11_ifTurned cX11_ifTurned 4 mX11_ifTurned 3 := ⟨⟨inG (mt4 (List.mem_of_getElem? (i := 150) rfl)) rfl, gi_RX11, ⟨by decide +kernel, by decide +kernel⟩, by decide +kernel, by decide +kernel, by decide, by decide⟩, inG (mt4 (List.mem_of_getElem? (i := 148) rfl)) rfl, inG (mt4 (List.mem_of_getElem? (i := 149) rfl)) rfl⟩
set_option maxRecDepth 20000 in
theorem lkL_170 : Cond.methodLink RL 170 yX11_init ∈ GW := inG (mt1 (List.mem_of_getElem? (i := 23) rfl)) rfl
set_option maxRecDepth 20000 in
theorem lkX11_3 : Cond.methodLink RX11 3 objectInit ∈ GW := inG (mt1 (List.mem_of_getElem? (i := 26) rfl)) rfl
set_option maxRecDepth 20000 in
theorem lkX11_11 : Cond.methodLink RX11 11 yX0_init ∈ GW := inG (mt1 (List.mem_of_getElem? (i := 31) rfl)) rfl
set_option maxRecDepth 20000 in
theorem lkX0_3 : Cond.methodLink RX0 3 objectInit ∈ GW := inG (mt1 (List.mem_of_getElem? (i := 34) rfl)) rfl
set_option maxRecDepth 20000 in
theorem lkX9_3 : Cond.methodLink RX9 3 objectInit ∈ GW := inG (mt1 (List.mem_of_getElem? (i := 41) rfl)) rfl
set_option maxRecDepth 20000 in
theorem lkX0_25 : Cond.methodLink RX0 25 yJ7_fill_53178 ∈ GW := inG (mt1 (List.mem_of_getElem? (i := 50) rfl)) rfl
set_option maxRecDepth 20000 in
theorem lkX11_18 : Cond.methodLink RX11 18 yX1_init ∈ GW := inG (mt1 (List.mem_of_getElem? (i := 85) rfl)) rfl
set_option maxRecDepth 20000 in
theorem lkX1_3 : Cond.methodLink RX1 3 objectInit ∈ GW := inG (mt1 (List.mem_of_getElem? (i := 88) rfl)) rfl
set_option maxRecDepth 20000 in
theorem lkX5_3 : Cond.methodLink RX5 3 objectInit ∈ GW := inG (mt1 (List.mem_of_getElem? (i := 95) rfl)) rfl
set_option maxRecDepth 20000 in
theorem lkX11_25 : Cond.methodLink RX11 25 yX8_init ∈ GW := inG (mt1 (List.mem_of_getElem? (i := 127) rfl)) rfl
set_option maxRecDepth 20000 in
theorem lkX8_3 : Cond.methodLink RX8 3 objectInit ∈ GW := inG (mt1 (List.mem_of_getElem? (i := 130) rfl)) rfl
set_option maxRecDepth 20000 in
theorem lkX3_3 : Cond.methodLink RX3 3 objectInit ∈ GW := inG (mt1 (List.mem_of_getElem? (i := 146) rfl)) rfl
set_option maxRecDepth 20000 in
theorem lkX10_3 : Cond.methodLink RX10 3 objectInit ∈ GW := inG (mt1 (List.mem_of_getElem? (i := 162) rfl)) rfl
set_option maxRecDepth 20000 in
theorem lkX6_3 : Cond.methodLink RX6 3 objectInit ∈ GW := inG (mt1 (List.mem_of_getElem? (i := 172) rfl)) rfl
set_option maxRecDepth 20000 in
theorem lkX4_3 : Cond.methodLink RX4 3 objectInit ∈ GW := inG (mt1 (List.mem_of_getElem? (i := 182) rfl)) rfl
set_option maxRecDepth 20000 in
theorem lkX7_3 : Cond.methodLink RX7 3 objectInit ∈ GW := inG (mt1 (List.mem_of_getElem? (i := 203) rfl)) rfl
set_option maxRecDepth 20000 in
theorem lkL_171 : Cond.methodLink RL 171 yL_cell ∈ GW := inG (mt2 (List.mem_of_getElem? (i := 10) rfl)) rfl
set_option maxRecDepth 20000 in
theorem lkL_151 : Cond.methodLink RL 151 yL_low ∈ GW := inG (mt2 (List.mem_of_getElem? (i := 15) rfl)) rfl
set_option maxRecDepth 20000 in
theorem lkL_175 : Cond.methodLink RL 175 yL_told ∈ GW := inG (mt2 (List.mem_of_getElem? (i := 142) rfl)) rfl
set_option maxRecDepth 20000 in
theorem lkL_87 : Cond.methodLink RL 87 yL_count ∈ GW := inG (mt2 (List.mem_of_getElem? (i := 147) rfl)) rfl
set_option maxRecDepth 20000 in
theorem lkL_64 : Cond.methodLink RL 64 yX11_count ∈ GW := inG (mt2 (List.mem_of_getElem? (i := 151) rfl)) rfl
set_option maxRecDepth 20000 in
theorem lkX11_186 : Cond.methodLink RX11 186 yX11_checkRange ∈ GW := inG (mt2 (List.mem_of_getElem? (i := 155) rfl)) rfl
set_option maxRecDepth 20000 in
theorem lkX11_183 : Cond.methodLink RX11 183 yX0_pathCount ∈ GW := inG (mt2 (List.mem_of_getElem? (i := 174) rfl)) rfl
set_option maxRecDepth 20000 in
theorem lkX11_296 : Cond.methodLink RX11 296 yX0_takenSites ∈ GW := inG (mt2 (List.mem_of_getElem? (i := 178) rfl)) rfl
set_option maxRecDepth 20000 in
theorem lkX11_323 : Cond.methodLink RX11 323 yX0_stepsMade ∈ GW := inG (mt2 (List.mem_of_getElem? (i := 182) rfl)) rfl
set_option maxRecDepth 20000 in
theorem lkX11_326 : Cond.methodLink RX11 326 yX0_refusals ∈ GW := inG (mt2 (List.mem_of_getElem? (i := 186) rfl)) rfl
set_option maxRecDepth 20000 in
theorem lkX11_329 : Cond.methodLink RX11 329 yX0_turnsMade ∈ GW := inG (mt2 (List.mem_of_getElem? (i := 190) rfl)) rfl
set_option maxRecDepth 20000 in
theorem lkX11_221 : Cond.methodLink RX11 221 yX1_size ∈ GW := inG (mt2 (List.mem_of_getElem? (i := 27) rfl)) rfl
set_option maxRecDepth 20000 in
theorem lkX11_196 : Cond.methodLink RX11 196 yX3_length ∈ GW := inG (mt2 (List.mem_of_getElem? (i := 194) rfl)) rfl
set_option maxRecDepth 20000 in
theorem lkL_92 : Cond.methodLink RL 92 yL_site ∈ GW := inG (mt2 (List.mem_of_getElem? (i := 199) rfl)) rfl
set_option maxRecDepth 20000 in
theorem lkL_52 : Cond.methodLink RL 52 yX11_site ∈ GW := inG (mt2 (List.mem_of_getElem? (i := 203) rfl)) rfl
set_option maxRecDepth 20000 in
theorem lkX11_75 : Cond.methodLink RX11 75 yX11_checkedSite ∈ GW := inG (mt2 (List.mem_of_getElem? (i := 207) rfl)) rfl
set_option maxRecDepth 20000 in
theorem lkX11_336 : Cond.methodLink RX11 336 yX2_number ∈ GW := inG (mt2 (List.mem_of_getElem? (i := 210) rfl)) rfl
set_option maxRecDepth 20000 in
theorem lkX11_242 : Cond.methodLink RX11 242 yX0_pathAt ∈ GW := inG (mt2 (List.mem_of_getElem? (i := 229) rfl)) rfl
set_option maxRecDepth 20000 in
theorem lkX0_50 : Cond.methodLink RX0 50 yX2_isSite ∈ GW := inG (mt2 (List.mem_of_getElem? (i := 139) rfl)) rfl
set_option maxRecDepth 20000 in
theorem lkX11_245 : Cond.methodLink RX11 245 yX0_placeAt ∈ GW := inG (mt2 (List.mem_of_getElem? (i := 233) rfl)) rfl
set_option maxRecDepth 20000 in
theorem lkX11_248 : Cond.methodLink RX11 248 yX0_freeDirections ∈ GW := inG (mt2 (List.mem_of_getElem? (i := 237) rfl)) rfl
set_option maxRecDepth 20000 in
theorem lkX0_75 : Cond.methodLink RX0 75 yX2_neighbour ∈ GW := inG (mt3 (List.mem_of_getElem? (i := 1) rfl)) rfl
set_option maxRecDepth 20000 in
theorem lkX2_9 : Cond.methodLink RX2 9 yX2_column ∈ GW := inG (mt3 (List.mem_of_getElem? (i := 4) rfl)) rfl
set_option maxRecDepth 20000 in
theorem lkX2_19 : Cond.methodLink RX2 19 yX2_row ∈ GW := inG (mt3 (List.mem_of_getElem? (i := 9) rfl)) rfl
set_option maxRecDepth 20000 in
theorem lkX2_25 : Cond.methodLink RX2 25 yX2_number ∈ GW := inG (mt3 (List.mem_of_getElem? (i := 14) rfl)) rfl
set_option maxRecDepth 20000 in
theorem lkX0_101 : Cond.methodLink RX0 101 yX0_isFree ∈ GW := inG (mt3 (List.mem_of_getElem? (i := 15) rfl)) rfl
set_option maxRecDepth 20000 in
theorem lkL_179 : Cond.methodLink RL 179 yL_call ∈ GW := inG (mt3 (List.mem_of_getElem? (i := 19) rfl)) rfl
set_option maxRecDepth 20000 in
theorem lkL_95 : Cond.methodLink RL 95 yL_start ∈ GW := inG (mt3 (List.mem_of_getElem? (i := 22) rfl)) rfl
set_option maxRecDepth 20000 in
theorem lkL_10 : Cond.methodLink RL 10 yX11_start ∈ GW := inG (mt3 (List.mem_of_getElem? (i := 25) rfl)) rfl
set_option maxRecDepth 20000 in
theorem lkX11_79 : Cond.methodLink RX11 79 yX0_isFree ∈ GW := inG (mt3 (List.mem_of_getElem? (i := 29) rfl)) rfl
set_option maxRecDepth 20000 in
theorem lkX11_83 : Cond.methodLink RX11 83 yX0_isFull ∈ GW := inG (mt3 (List.mem_of_getElem? (i := 30) rfl)) rfl
set_option maxRecDepth 20000 in
theorem lkX11_94 : Cond.methodLink RX11 94 yX1_save ∈ GW := inG (mt3 (List.mem_of_getElem? (i := 35) rfl)) rfl
set_option maxRecDepth 20000 in
theorem lkX1_25 : Cond.methodLink RX1 25 yX5_take ∈ GW := inG (mt3 (List.mem_of_getElem? (i := 39) rfl)) rfl
set_option maxRecDepth 20000 in
theorem lkX5_29 : Cond.methodLink RX5 29 yX9_length ∈ GW := inG (mt3 (List.mem_of_getElem? (i := 43) rfl)) rfl
set_option maxRecDepth 20000 in
theorem lkX5_35 : Cond.methodLink RX5 35 yX9_at ∈ GW := inG (mt3 (List.mem_of_getElem? (i := 44) rfl)) rfl
set_option maxRecDepth 20000 in
theorem lkX9_19 : Cond.methodLink RX9 19 yX9_has ∈ GW := inG (mt2 (List.mem_of_getElem? (i := 131) rfl)) rfl
set_option maxRecDepth 20000 in
theorem lkX11_98 : Cond.methodLink RX11 98 yX9_begin ∈ GW := inG (mt3 (List.mem_of_getElem? (i := 45) rfl)) rfl
set_option maxRecDepth 20000 in
theorem lkX9_27 : Cond.methodLink RX9 27 yX9_clear ∈ GW := inG (mt3 (List.mem_of_getElem? (i := 49) rfl)) rfl
set_option maxRecDepth 20000 in
theorem lkX9_30 : Cond.methodLink RX9 30 yX9_push ∈ GW := inG (mt3 (List.mem_of_getElem? (i := 50) rfl)) rfl
set_option maxRecDepth 20000 in
theorem lkX9_34 : Cond.methodLink RX9 34 yX9_isFull ∈ GW := inG (mt2 (List.mem_of_getElem? (i := 115) rfl)) rfl
set_option maxRecDepth 20000 in
theorem lkX11_102 : Cond.methodLink RX11 102 yX0_add ∈ GW := inG (mt3 (List.mem_of_getElem? (i := 51) rfl)) rfl
set_option maxRecDepth 20000 in
theorem lkX0_65 : Cond.methodLink RX0 65 yX9_copyFrom ∈ GW := inG (mt3 (List.mem_of_getElem? (i := 55) rfl)) rfl
set_option maxRecDepth 20000 in
theorem lkX9_23 : Cond.methodLink RX9 23 yX9_at ∈ GW := inG (mt3 (List.mem_of_getElem? (i := 59) rfl)) rfl
set_option maxRecDepth 20000 in
theorem lkX0_69 : Cond.methodLink RX0 69 yX0_markSites ∈ GW := inG (mt3 (List.mem_of_getElem? (i := 60) rfl)) rfl
set_option maxRecDepth 20000 in
theorem lkX0_38 : Cond.methodLink RX0 38 yX9_length ∈ GW := inG (mt2 (List.mem_of_getElem? (i := 123) rfl)) rfl
set_option maxRecDepth 20000 in
theorem lkX0_42 : Cond.methodLink RX0 42 yX9_at ∈ GW := inG (mt2 (List.mem_of_getElem? (i := 127) rfl)) rfl
set_option maxRecDepth 20000 in
theorem lkX0_46 : Cond.methodLink RX0 46 yX0_mark ∈ GW := inG (mt2 (List.mem_of_getElem? (i := 135) rfl)) rfl
set_option maxRecDepth 20000 in
theorem lkL_98 : Cond.methodLink RL 98 yL_step ∈ GW := inG (mt3 (List.mem_of_getElem? (i := 61) rfl)) rfl
set_option maxRecDepth 20000 in
theorem lkL_20 : Cond.methodLink RL 20 yX11_step ∈ GW := inG (mt3 (List.mem_of_getElem? (i := 64) rfl)) rfl
set_option maxRecDepth 20000 in
theorem lkX11_106 : Cond.methodLink RX11 106 yX11_checkPath ∈ GW := inG (mt3 (List.mem_of_getElem? (i := 68) rfl)) rfl
set_option maxRecDepth 20000 in
theorem lkX11_109 : Cond.methodLink RX11 109 yX11_checkDirection ∈ GW := inG (mt3 (List.mem_of_getElem? (i := 73) rfl)) rfl
set_option maxRecDepth 20000 in
theorem lkX11_112 : Cond.methodLink RX11 112 yX0_lengthen ∈ GW := inG (mt3 (List.mem_of_getElem? (i := 76) rfl)) rfl
set_option maxRecDepth 20000 in
theorem lkX0_72 : Cond.methodLink RX0 72 yX9_head ∈ GW := inG (mt3 (List.mem_of_getElem? (i := 80) rfl)) rfl
set_option maxRecDepth 20000 in
theorem lkX0_79 : Cond.methodLink RX0 79 yX0_refusalAt ∈ GW := inG (mt3 (List.mem_of_getElem? (i := 84) rfl)) rfl
set_option maxRecDepth 20000 in
theorem lkX0_99 : Cond.methodLink RX0 99 yX0_pathAt ∈ GW := inG (mt3 (List.mem_of_getElem? (i := 88) rfl)) rfl
set_option maxRecDepth 20000 in
theorem lkX0_82 : Cond.methodLink RX0 82 yX9_isFull ∈ GW := inG (mt3 (List.mem_of_getElem? (i := 89) rfl)) rfl
set_option maxRecDepth 20000 in
theorem lkX0_86 : Cond.methodLink RX0 86 yX9_push ∈ GW := inG (mt3 (List.mem_of_getElem? (i := 90) rfl)) rfl
set_option maxRecDepth 20000 in
theorem lkX0_90 : Cond.methodLink RX0 90 yX0_noteStep ∈ GW := inG (mt3 (List.mem_of_getElem? (i := 91) rfl)) rfl
set_option maxRecDepth 20000 in
theorem lkL_100 : Cond.methodLink RL 100 yL_back ∈ GW := inG (mt3 (List.mem_of_getElem? (i := 95) rfl)) rfl
set_option maxRecDepth 20000 in
theorem lkL_25 : Cond.methodLink RL 25 yX11_back ∈ GW := inG (mt3 (List.mem_of_getElem? (i := 98) rfl)) rfl
set_option maxRecDepth 20000 in
theorem lkX11_115 : Cond.methodLink RX11 115 yX0_trail ∈ GW := inG (mt3 (List.mem_of_getElem? (i := 102) rfl)) rfl
set_option maxRecDepth 20000 in
theorem lkX11_119 : Cond.methodLink RX11 119 yX9_length ∈ GW := inG (mt3 (List.mem_of_getElem? (i := 106) rfl)) rfl
set_option maxRecDepth 20000 in
theorem lkX11_125 : Cond.methodLink RX11 125 yX0_shorten ∈ GW := inG (mt3 (List.mem_of_getElem? (i := 108) rfl)) rfl
set_option maxRecDepth 20000 in
theorem lkX0_104 : Cond.methodLink RX0 104 yX9_endAt ∈ GW := inG (mt3 (List.mem_of_getElem? (i := 112) rfl)) rfl
set_option maxRecDepth 20000 in
theorem lkL_102 : Cond.methodLink RL 102 yL_slither ∈ GW := inG (mt3 (List.mem_of_getElem? (i := 116) rfl)) rfl
set_option maxRecDepth 20000 in
theorem lkL_29 : Cond.methodLink RL 29 yX11_slither ∈ GW := inG (mt3 (List.mem_of_getElem? (i := 119) rfl)) rfl
set_option maxRecDepth 20000 in
theorem lkX11_129 : Cond.methodLink RX11 129 yX0_creep ∈ GW := inG (mt3 (List.mem_of_getElem? (i := 123) rfl)) rfl
set_option maxRecDepth 20000 in
theorem lkX0_93 : Cond.methodLink RX0 93 yX9_tail ∈ GW := inG (mt3 (List.mem_of_getElem? (i := 127) rfl)) rfl
set_option maxRecDepth 20000 in
theorem lkX0_96 : Cond.methodLink RX0 96 yX9_advanceTo ∈ GW := inG (mt3 (List.mem_of_getElem? (i := 131) rfl)) rfl
set_option maxRecDepth 20000 in
theorem lkX9_38 : Cond.methodLink RX9 38 yX9_put ∈ GW := inG (mt3 (List.mem_of_getElem? (i := 135) rfl)) rfl
set_option maxRecDepth 20000 in
theorem lkL_104 : Cond.methodLink RL 104 yL_turn ∈ GW := inG (mt3 (List.mem_of_getElem? (i := 139) rfl)) rfl
set_option maxRecDepth 20000 in
theorem lkL_32 : Cond.methodLink RL 32 yX11_turn ∈ GW := inG (mt3 (List.mem_of_getElem? (i := 142) rfl)) rfl
set_option maxRecDepth 20000 in
theorem lkX11_132 : Cond.methodLink RX11 132 yX11_checkPlace ∈ GW := inG (mt3 (List.mem_of_getElem? (i := 146) rfl)) rfl
set_option maxRecDepth 20000 in
theorem lkX11_343 : Cond.methodLink RX11 343 yX9_has ∈ GW := inG (mt3 (List.mem_of_getElem? (i := 150) rfl)) rfl
set_option maxRecDepth 20000 in
theorem lkX11_136 : Cond.methodLink RX11 136 yX11_checkQuarters ∈ GW := inG (mt3 (List.mem_of_getElem? (i := 152) rfl)) rfl
set_option maxRecDepth 20000 in
theorem lkX11_139 : Cond.methodLink RX11 139 yX10_refusal ∈ GW := inG (mt3 (List.mem_of_getElem? (i := 155) rfl)) rfl
set_option maxRecDepth 20000 in
theorem lkX10_15 : Cond.methodLink RX10 15 yX0_trail ∈ GW := inG (mt3 (List.mem_of_getElem? (i := 159) rfl)) rfl
set_option maxRecDepth 20000 in
theorem lkX10_21 : Cond.methodLink RX10 21 yX10_land ∈ GW := inG (mt3 (List.mem_of_getElem? (i := 160) rfl)) rfl
set_option maxRecDepth 20000 in
theorem lkX10_38 : Cond.methodLink RX10 38 yX9_at ∈ GW := inG (mt3 (List.mem_of_getElem? (i := 164) rfl)) rfl
set_option maxRecDepth 20000 in
theorem lkX10_25 : Cond.methodLink RX10 25 yX9_length ∈ GW := inG (mt3 (List.mem_of_getElem? (i := 165) rfl)) rfl
set_option maxRecDepth 20000 in
theorem lkX10_41 : Cond.methodLink RX10 41 yX10_swung ∈ GW := inG (mt3 (List.mem_of_getElem? (i := 166) rfl)) rfl
set_option maxRecDepth 20000 in
theorem lkX10_45 : Cond.methodLink RX10 45 yX2_column ∈ GW := inG (mt3 (List.mem_of_getElem? (i := 169) rfl)) rfl
set_option maxRecDepth 20000 in
theorem lkX10_50 : Cond.methodLink RX10 50 yX2_row ∈ GW := inG (mt3 (List.mem_of_getElem? (i := 170) rfl)) rfl
set_option maxRecDepth 20000 in
theorem lkX10_53 : Cond.methodLink RX10 53 yX2_number ∈ GW := inG (mt3 (List.mem_of_getElem? (i := 171) rfl)) rfl
set_option maxRecDepth 20000 in
theorem lkX10_31 : Cond.methodLink RX10 31 yX0_pathAt ∈ GW := inG (mt3 (List.mem_of_getElem? (i := 172) rfl)) rfl
set_option maxRecDepth 20000 in
theorem lkX10_35 : Cond.methodLink RX10 35 yX0_placeAt ∈ GW := inG (mt3 (List.mem_of_getElem? (i := 173) rfl)) rfl
set_option maxRecDepth 20000 in
theorem lkX11_143 : Cond.methodLink RX11 143 yX0_noteTurn ∈ GW := inG (mt3 (List.mem_of_getElem? (i := 174) rfl)) rfl
set_option maxRecDepth 20000 in
theorem lkX11_146 : Cond.methodLink RX11 146 yX10_moveSites ∈ GW := inG (mt3 (List.mem_of_getElem? (i := 178) rfl)) rfl
set_option maxRecDepth 20000 in
theorem lkX10_57 : Cond.methodLink RX10 57 yX9_put ∈ GW := inG (mt3 (List.mem_of_getElem? (i := 182) rfl)) rfl
set_option maxRecDepth 20000 in
theorem lkX10_61 : Cond.methodLink RX10 61 yX0_markSites ∈ GW := inG (mt3 (List.mem_of_getElem? (i := 183) rfl)) rfl
set_option maxRecDepth 20000 in
theorem lkL_106 : Cond.methodLink RL 106 yL_reverse ∈ GW := inG (mt3 (List.mem_of_getElem? (i := 184) rfl)) rfl
set_option maxRecDepth 20000 in
theorem lkL_36 : Cond.methodLink RL 36 yX11_reverse ∈ GW := inG (mt3 (List.mem_of_getElem? (i := 187) rfl)) rfl
set_option maxRecDepth 20000 in
theorem lkX11_150 : Cond.methodLink RX11 150 yX0_flip ∈ GW := inG (mt3 (List.mem_of_getElem? (i := 191) rfl)) rfl
set_option maxRecDepth 20000 in
theorem lkX0_107 : Cond.methodLink RX0 107 yX9_flip ∈ GW := inG (mt3 (List.mem_of_getElem? (i := 195) rfl)) rfl
set_option maxRecDepth 20000 in
theorem lkL_108 : Cond.methodLink RL 108 yL_join ∈ GW := inG (mt3 (List.mem_of_getElem? (i := 199) rfl)) rfl
set_option maxRecDepth 20000 in
theorem lkL_39 : Cond.methodLink RL 39 yX11_join ∈ GW := inG (mt3 (List.mem_of_getElem? (i := 202) rfl)) rfl
set_option maxRecDepth 20000 in
theorem lkX11_153 : Cond.methodLink RX11 153 yX11_checkTwoPaths ∈ GW := inG (mt3 (List.mem_of_getElem? (i := 206) rfl)) rfl
set_option maxRecDepth 20000 in
theorem lkX11_156 : Cond.methodLink RX11 156 yX9_head ∈ GW := inG (mt3 (List.mem_of_getElem? (i := 211) rfl)) rfl
set_option maxRecDepth 20000 in
theorem lkX11_159 : Cond.methodLink RX11 159 yX2_areNeighbours ∈ GW := inG (mt3 (List.mem_of_getElem? (i := 212) rfl)) rfl
set_option maxRecDepth 20000 in
theorem lkX2_32 : Cond.methodLink RX2 32 yX2_squaredDistance ∈ GW := inG (mt3 (List.mem_of_getElem? (i := 215) rfl)) rfl
set_option maxRecDepth 20000 in
theorem lkX11_167 : Cond.methodLink RX11 167 yX0_weld ∈ GW := inG (mt3 (List.mem_of_getElem? (i := 219) rfl)) rfl
set_option maxRecDepth 20000 in
theorem lkX0_110 : Cond.methodLink RX0 110 yX0_drop ∈ GW := inG (mt3 (List.mem_of_getElem? (i := 223) rfl)) rfl
set_option maxRecDepth 20000 in
theorem lkL_110 : Cond.methodLink RL 110 yL_split ∈ GW := inG (mt3 (List.mem_of_getElem? (i := 227) rfl)) rfl
set_option maxRecDepth 20000 in
theorem lkL_42 : Cond.methodLink RL 42 yX11_split ∈ GW := inG (mt3 (List.mem_of_getElem? (i := 230) rfl)) rfl
set_option maxRecDepth 20000 in
theorem lkX11_177 : Cond.methodLink RX11 177 yX0_cut ∈ GW := inG (mt3 (List.mem_of_getElem? (i := 236) rfl)) rfl
set_option maxRecDepth 20000 in
theorem lkL_112 : Cond.methodLink RL 112 yL_remove ∈ GW := inG (mt4 (List.mem_of_getElem? (i := 0) rfl)) rfl
set_option maxRecDepth 20000 in
theorem lkL_45 : Cond.methodLink RL 45 yX11_remove ∈ GW := inG (mt4 (List.mem_of_getElem? (i := 3) rfl)) rfl
set_option maxRecDepth 20000 in
theorem lkX11_180 : Cond.methodLink RX11 180 yX0_drop ∈ GW := inG (mt4 (List.mem_of_getElem? (i := 7) rfl)) rfl
set_option maxRecDepth 20000 in
theorem lkL_183 : Cond.methodLink RL 183 yL_undo ∈ GW := inG (mt2 (List.mem_of_getElem? (i := 19) rfl)) rfl
set_option maxRecDepth 20000 in
theorem lkL_48 : Cond.methodLink RL 48 yX11_undo ∈ GW := inG (mt2 (List.mem_of_getElem? (i := 23) rfl)) rfl
set_option maxRecDepth 20000 in
theorem lkX11_226 : Cond.methodLink RX11 226 yX1_restoreLast ∈ GW := inG (mt2 (List.mem_of_getElem? (i := 99) rfl)) rfl
set_option maxRecDepth 20000 in
theorem lkX1_29 : Cond.methodLink RX1 29 yX5_putInto ∈ GW := inG (mt2 (List.mem_of_getElem? (i := 103) rfl)) rfl
set_option maxRecDepth 20000 in
theorem lkX5_51 : Cond.methodLink RX5 51 yX9_clear ∈ GW := inG (mt2 (List.mem_of_getElem? (i := 107) rfl)) rfl
set_option maxRecDepth 20000 in
theorem lkX5_54 : Cond.methodLink RX5 54 yX9_push ∈ GW := inG (mt2 (List.mem_of_getElem? (i := 111) rfl)) rfl
set_option maxRecDepth 20000 in
theorem lkX5_58 : Cond.methodLink RX5 58 yX0_markSites ∈ GW := inG (mt2 (List.mem_of_getElem? (i := 119) rfl)) rfl
set_option maxRecDepth 20000 in
theorem lkL_186 : Cond.methodLink RL 186 yL_due ∈ GW := inG (mt4 (List.mem_of_getElem? (i := 8) rfl)) rfl
set_option maxRecDepth 20000 in
theorem lkL_76 : Cond.methodLink RL 76 yL_whose ∈ GW := inG (mt4 (List.mem_of_getElem? (i := 11) rfl)) rfl
set_option maxRecDepth 20000 in
theorem lkL_70 : Cond.methodLink RL 70 yL_at ∈ GW := inG (mt4 (List.mem_of_getElem? (i := 14) rfl)) rfl
set_option maxRecDepth 20000 in
theorem lkL_121 : Cond.methodLink RL 121 yL_puts ∈ GW := inG (mt4 (List.mem_of_getElem? (i := 17) rfl)) rfl
set_option maxRecDepth 20000 in
theorem lkL_132 : Cond.methodLink RL 132 yL_stepped ∈ GW := inG (mt4 (List.mem_of_getElem? (i := 20) rfl)) rfl
set_option maxRecDepth 20000 in
theorem lkL_114 : Cond.methodLink RL 114 yL_go ∈ GW := inG (mt4 (List.mem_of_getElem? (i := 23) rfl)) rfl
set_option maxRecDepth 20000 in
theorem lkL_117 : Cond.methodLink RL 117 yL_why ∈ GW := inG (mt4 (List.mem_of_getElem? (i := 26) rfl)) rfl
set_option maxRecDepth 20000 in
theorem lkL_136 : Cond.methodLink RL 136 yL_turns ∈ GW := inG (mt4 (List.mem_of_getElem? (i := 29) rfl)) rfl
set_option maxRecDepth 20000 in
theorem lkL_125 : Cond.methodLink RL 125 yL_whyNotTurned ∈ GW := inG (mt4 (List.mem_of_getElem? (i := 32) rfl)) rfl
set_option maxRecDepth 20000 in
theorem lkL_80 : Cond.methodLink RL 80 yL_turned ∈ GW := inG (mt4 (List.mem_of_getElem? (i := 35) rfl)) rfl
set_option maxRecDepth 20000 in
theorem lkL_139 : Cond.methodLink RL 139 yL_joined ∈ GW := inG (mt4 (List.mem_of_getElem? (i := 38) rfl)) rfl
set_option maxRecDepth 20000 in
theorem lkL_128 : Cond.methodLink RL 128 yL_drops ∈ GW := inG (mt4 (List.mem_of_getElem? (i := 41) rfl)) rfl
set_option maxRecDepth 20000 in
theorem lkL_190 : Cond.methodLink RL 190 yL_isSo ∈ GW := inG (mt4 (List.mem_of_getElem? (i := 44) rfl)) rfl
set_option maxRecDepth 20000 in
theorem lkL_154 : Cond.methodLink RL 154 yX11_share ∈ GW := inG (mt4 (List.mem_of_getElem? (i := 47) rfl)) rfl
set_option maxRecDepth 20000 in
theorem lkL_159 : Cond.methodLink RL 159 yX11_trapped ∈ GW := inG (mt4 (List.mem_of_getElem? (i := 53) rfl)) rfl
set_option maxRecDepth 20000 in
theorem lkL_162 : Cond.methodLink RL 162 yL_isPath ∈ GW := inG (mt4 (List.mem_of_getElem? (i := 57) rfl)) rfl
set_option maxRecDepth 20000 in
theorem lkL_143 : Cond.methodLink RL 143 yL_place ∈ GW := inG (mt4 (List.mem_of_getElem? (i := 60) rfl)) rfl
set_option maxRecDepth 20000 in
theorem lkL_55 : Cond.methodLink RL 55 yX11_place ∈ GW := inG (mt4 (List.mem_of_getElem? (i := 63) rfl)) rfl
set_option maxRecDepth 20000 in
theorem lkX11_251 : Cond.methodLink RX11 251 yX9_at ∈ GW := inG (mt4 (List.mem_of_getElem? (i := 67) rfl)) rfl
set_option maxRecDepth 20000 in
theorem lkL_145 : Cond.methodLink RL 145 yL_path ∈ GW := inG (mt4 (List.mem_of_getElem? (i := 68) rfl)) rfl
set_option maxRecDepth 20000 in
theorem lkL_58 : Cond.methodLink RL 58 yX11_path ∈ GW := inG (mt4 (List.mem_of_getElem? (i := 71) rfl)) rfl
set_option maxRecDepth 20000 in
theorem lkX11_254 : Cond.methodLink RX11 254 yX9_corners ∈ GW := inG (mt4 (List.mem_of_getElem? (i := 75) rfl)) rfl
set_option maxRecDepth 20000 in
theorem lkX9_48 : Cond.methodLink RX9 48 yX9_steps ∈ GW := inG (mt4 (List.mem_of_getElem? (i := 79) rfl)) rfl
set_option maxRecDepth 20000 in
theorem lkX9_52 : Cond.methodLink RX9 52 yX9_stepAt ∈ GW := inG (mt4 (List.mem_of_getElem? (i := 83) rfl)) rfl
set_option maxRecDepth 20000 in
theorem lkX9_42 : Cond.methodLink RX9 42 yX2_direction ∈ GW := inG (mt4 (List.mem_of_getElem? (i := 87) rfl)) rfl
set_option maxRecDepth 20000 in
theorem lkX2_29 : Cond.methodLink RX2 29 yX2_neighbour ∈ GW := inG (mt4 (List.mem_of_getElem? (i := 90) rfl)) rfl
set_option maxRecDepth 20000 in
theorem lkX11_257 : Cond.methodLink RX11 257 yX0_contacts ∈ GW := inG (mt4 (List.mem_of_getElem? (i := 91) rfl)) rfl
set_option maxRecDepth 20000 in
theorem lkX0_115 : Cond.methodLink RX0 115 Lib.Math.abs.name ∈ GW := inG (mt4 (List.mem_of_getElem? (i := 96) rfl)) rfl
set_option maxRecDepth 20000 in
theorem lkX0_113 : Cond.methodLink RX0 113 yX0_placeAt ∈ GW := inG (mt4 (List.mem_of_getElem? (i := 95) rfl)) rfl
set_option maxRecDepth 20000 in
theorem lkX11_260 : Cond.methodLink RX11 260 yX9_width ∈ GW := inG (mt4 (List.mem_of_getElem? (i := 99) rfl)) rfl
set_option maxRecDepth 20000 in
theorem lkX9_58 : Cond.methodLink RX9 58 Lib.Math.min.name ∈ GW := inG (mt4 (List.mem_of_getElem? (i := 104) rfl)) rfl
set_option maxRecDepth 20000 in
theorem lkX9_63 : Cond.methodLink RX9 63 Lib.Math.max.name ∈ GW := inG (mt4 (List.mem_of_getElem? (i := 107) rfl)) rfl
set_option maxRecDepth 20000 in
theorem lkX9_55 : Cond.methodLink RX9 55 yX2_column ∈ GW := inG (mt4 (List.mem_of_getElem? (i := 103) rfl)) rfl
set_option maxRecDepth 20000 in
theorem lkX11_263 : Cond.methodLink RX11 263 yX9_height ∈ GW := inG (mt4 (List.mem_of_getElem? (i := 110) rfl)) rfl
set_option maxRecDepth 20000 in
theorem lkX9_66 : Cond.methodLink RX9 66 yX2_row ∈ GW := inG (mt4 (List.mem_of_getElem? (i := 114) rfl)) rfl
set_option maxRecDepth 20000 in
theorem lkX11_266 : Cond.methodLink RX11 266 yX9_tail ∈ GW := inG (mt4 (List.mem_of_getElem? (i := 115) rfl)) rfl
set_option maxRecDepth 20000 in
theorem lkX11_269 : Cond.methodLink RX11 269 yX2_squaredDistance ∈ GW := inG (mt4 (List.mem_of_getElem? (i := 116) rfl)) rfl
set_option maxRecDepth 20000 in
theorem lkX11_272 : Cond.methodLink RX11 272 yX9_moment ∈ GW := inG (mt4 (List.mem_of_getElem? (i := 117) rfl)) rfl
set_option maxRecDepth 20000 in
theorem lkX11_275 : Cond.methodLink RX11 275 yX0_freeBorder ∈ GW := inG (mt4 (List.mem_of_getElem? (i := 121) rfl)) rfl
set_option maxRecDepth 20000 in
theorem lkX0_120 : Cond.methodLink RX0 120 yX0_neighboursIn ∈ GW := inG (mt4 (List.mem_of_getElem? (i := 125) rfl)) rfl
set_option maxRecDepth 20000 in
theorem lkL_147 : Cond.methodLink RL 147 yX11_spread ∈ GW := inG (mt4 (List.mem_of_getElem? (i := 129) rfl)) rfl
set_option maxRecDepth 20000 in
theorem lkL_166 : Cond.methodLink RL 166 yL_touching ∈ GW := inG (mt4 (List.mem_of_getElem? (i := 133) rfl)) rfl
set_option maxRecDepth 20000 in
theorem lkL_61 : Cond.methodLink RL 61 yX11_touching ∈ GW := inG (mt4 (List.mem_of_getElem? (i := 136) rfl)) rfl
set_option maxRecDepth 20000 in
theorem lkX11_278 : Cond.methodLink RX11 278 yX0_touchingPairs ∈ GW := inG (mt4 (List.mem_of_getElem? (i := 140) rfl)) rfl
set_option maxRecDepth 20000 in
theorem lkL_168 : Cond.methodLink RL 168 yL_ifTurned ∈ GW := inG (mt4 (List.mem_of_getElem? (i := 144) rfl)) rfl
set_option maxRecDepth 20000 in
theorem lkL_67 : Cond.methodLink RL 67 yX11_ifTurned ∈ GW := inG (mt4 (List.mem_of_getElem? (i := 147) rfl)) rfl
/-- what a kind's own tables say -/
def KT (ci : Nat) : Prop := ∃ (r : vw_C) (ty : Nat → FieldType), vwCl[ci]? = some r ∧ (∀ w ∈ u_ws r.1 r.2.1 r.2.2, w ∈ GW) ∧ (∀ k, k < r.2.2 → parseFieldDescriptor (r.2.1 k).2.2.1 = some (ty k)) ∧ (∀ a, a < r.2.2 → ∀ b, b < r.2.2 → a ≠ b → (r.2.1 a).2.1 ≠ (r.2.1 b).2.1)
def FL (own : String) (idx ci k : Nat) : Prop := KT ci ∧ ∃ r : vw_C, vwCl[ci]? = some r ∧ k < r.2.2 ∧ (r.2.1 k).1 = r.1 ∧ Cond.fieldLink own idx r.1 (r.2.1 k).2.1 (r.2.1 k).2.2.1 ∈ GW
set_option maxRecDepth 20000 in
theorem ly0_0 : u_lay RX0 TX0 0 ∈ GW := inG (mt1 (List.mem_of_getElem? (i := 66) rfl)) rfl
set_option maxRecDepth 20000 in
theorem ly0_1 : u_lay RX0 TX0 1 ∈ GW := inG (mt1 (List.mem_of_getElem? (i := 68) rfl)) rfl
set_option maxRecDepth 20000 in
theorem ly0_2 : u_lay RX0 TX0 2 ∈ GW := inG (mt1 (List.mem_of_getElem? (i := 70) rfl)) rfl
set_option maxRecDepth 20000 in
theorem ly0_3 : u_lay RX0 TX0 3 ∈ GW := inG (mt1 (List.mem_of_getElem? (i := 72) rfl)) rfl
set_option maxRecDepth 20000 in
theorem ly0_4 : u_lay RX0 TX0 4 ∈ GW := inG (mt1 (List.mem_of_getElem? (i := 74) rfl)) rfl
set_option maxRecDepth 20000 in
theorem ly0_5 : u_lay RX0 TX0 5 ∈ GW := inG (mt1 (List.mem_of_getElem? (i := 76) rfl)) rfl
set_option maxRecDepth 20000 in
theorem ly0_6 : u_lay RX0 TX0 6 ∈ GW := inG (mt1 (List.mem_of_getElem? (i := 78) rfl)) rfl
set_option maxRecDepth 20000 in
theorem ly0_7 : u_lay RX0 TX0 7 ∈ GW := inG (mt1 (List.mem_of_getElem? (i := 80) rfl)) rfl
theorem lys0 : ∀ w ∈ u_ws RX0 TX0 8, w ∈ GW := by
  intro w h
  obtain ⟨k, hk, rfl⟩ := List.mem_map.mp h
  have hk := List.mem_range.mp hk
  match k, hk with
  | 0, _ => exact ly0_0
  | 1, _ => exact ly0_1
  | 2, _ => exact ly0_2
  | 3, _ => exact ly0_3
  | 4, _ => exact ly0_4
  | 5, _ => exact ly0_5
  | 6, _ => exact ly0_6
  | 7, _ => exact ly0_7
theorem kt0 : KT 0 := ⟨(RX0, TX0, 8), tyX0, rfl, lys0, tyX0_ok, nmX0⟩
set_option maxRecDepth 20000 in
theorem ly1_0 : u_lay RX1 TX1 0 ∈ GW := inG (mt1 (List.mem_of_getElem? (i := 118) rfl)) rfl
set_option maxRecDepth 20000 in
theorem ly1_1 : u_lay RX1 TX1 1 ∈ GW := inG (mt1 (List.mem_of_getElem? (i := 120) rfl)) rfl
set_option maxRecDepth 20000 in
theorem ly1_2 : u_lay RX1 TX1 2 ∈ GW := inG (mt1 (List.mem_of_getElem? (i := 122) rfl)) rfl
theorem lys1 : ∀ w ∈ u_ws RX1 TX1 3, w ∈ GW := by
  intro w h
  obtain ⟨k, hk, rfl⟩ := List.mem_map.mp h
  have hk := List.mem_range.mp hk
  match k, hk with
  | 0, _ => exact ly1_0
  | 1, _ => exact ly1_1
  | 2, _ => exact ly1_2
theorem kt1 : KT 1 := ⟨(RX1, TX1, 3), tyX1, rfl, lys1, tyX1_ok, nmX1⟩
set_option maxRecDepth 20000 in
theorem ly2_0 : u_lay RX3 TX3 0 ∈ GW := inG (mt1 (List.mem_of_getElem? (i := 149) rfl)) rfl
set_option maxRecDepth 20000 in
theorem ly2_1 : u_lay RX3 TX3 1 ∈ GW := inG (mt1 (List.mem_of_getElem? (i := 151) rfl)) rfl
theorem lys2 : ∀ w ∈ u_ws RX3 TX3 2, w ∈ GW := by
  intro w h
  obtain ⟨k, hk, rfl⟩ := List.mem_map.mp h
  have hk := List.mem_range.mp hk
  match k, hk with
  | 0, _ => exact ly2_0
  | 1, _ => exact ly2_1
theorem kt2 : KT 2 := ⟨(RX3, TX3, 2), tyX3, rfl, lys2, tyX3_ok, nmX3⟩
set_option maxRecDepth 20000 in
theorem ly3_0 : u_lay RX4 TX4 0 ∈ GW := inG (mt1 (List.mem_of_getElem? (i := 187) rfl)) rfl
set_option maxRecDepth 20000 in
theorem ly3_1 : u_lay RX4 TX4 1 ∈ GW := inG (mt1 (List.mem_of_getElem? (i := 189) rfl)) rfl
set_option maxRecDepth 20000 in
theorem ly3_2 : u_lay RX4 TX4 2 ∈ GW := inG (mt1 (List.mem_of_getElem? (i := 191) rfl)) rfl
set_option maxRecDepth 20000 in
theorem ly3_3 : u_lay RX4 TX4 3 ∈ GW := inG (mt1 (List.mem_of_getElem? (i := 193) rfl)) rfl
set_option maxRecDepth 20000 in
theorem ly3_4 : u_lay RX4 TX4 4 ∈ GW := inG (mt1 (List.mem_of_getElem? (i := 195) rfl)) rfl
theorem lys3 : ∀ w ∈ u_ws RX4 TX4 5, w ∈ GW := by
  intro w h
  obtain ⟨k, hk, rfl⟩ := List.mem_map.mp h
  have hk := List.mem_range.mp hk
  match k, hk with
  | 0, _ => exact ly3_0
  | 1, _ => exact ly3_1
  | 2, _ => exact ly3_2
  | 3, _ => exact ly3_3
  | 4, _ => exact ly3_4
theorem kt3 : KT 3 := ⟨(RX4, TX4, 5), tyX4, rfl, lys3, tyX4_ok, nmX4⟩
set_option maxRecDepth 20000 in
theorem ly4_0 : u_lay RX5 TX5 0 ∈ GW := inG (mt1 (List.mem_of_getElem? (i := 102) rfl)) rfl
set_option maxRecDepth 20000 in
theorem ly4_1 : u_lay RX5 TX5 1 ∈ GW := inG (mt1 (List.mem_of_getElem? (i := 104) rfl)) rfl
set_option maxRecDepth 20000 in
theorem ly4_2 : u_lay RX5 TX5 2 ∈ GW := inG (mt1 (List.mem_of_getElem? (i := 106) rfl)) rfl
set_option maxRecDepth 20000 in
theorem ly4_3 : u_lay RX5 TX5 3 ∈ GW := inG (mt1 (List.mem_of_getElem? (i := 108) rfl)) rfl
set_option maxRecDepth 20000 in
theorem ly4_4 : u_lay RX5 TX5 4 ∈ GW := inG (mt1 (List.mem_of_getElem? (i := 110) rfl)) rfl
set_option maxRecDepth 20000 in
theorem ly4_5 : u_lay RX5 TX5 5 ∈ GW := inG (mt1 (List.mem_of_getElem? (i := 112) rfl)) rfl
theorem lys4 : ∀ w ∈ u_ws RX5 TX5 6, w ∈ GW := by
  intro w h
  obtain ⟨k, hk, rfl⟩ := List.mem_map.mp h
  have hk := List.mem_range.mp hk
  match k, hk with
  | 0, _ => exact ly4_0
  | 1, _ => exact ly4_1
  | 2, _ => exact ly4_2
  | 3, _ => exact ly4_3
  | 4, _ => exact ly4_4
  | 5, _ => exact ly4_5
theorem kt4 : KT 4 := ⟨(RX5, TX5, 6), tyX5, rfl, lys4, tyX5_ok, nmX5⟩
set_option maxRecDepth 20000 in
theorem ly5_0 : u_lay RX6 TX6 0 ∈ GW := inG (mt1 (List.mem_of_getElem? (i := 174) rfl)) rfl
theorem lys5 : ∀ w ∈ u_ws RX6 TX6 1, w ∈ GW := by
  intro w h
  obtain ⟨k, hk, rfl⟩ := List.mem_map.mp h
  have hk := List.mem_range.mp hk
  match k, hk with
  | 0, _ => exact ly5_0
theorem kt5 : KT 5 := ⟨(RX6, TX6, 1), tyX6, rfl, lys5, tyX6_ok, nmX6⟩
set_option maxRecDepth 20000 in
theorem ly6_0 : u_lay RX7 TX7 0 ∈ GW := inG (mt1 (List.mem_of_getElem? (i := 208) rfl)) rfl
set_option maxRecDepth 20000 in
theorem ly6_1 : u_lay RX7 TX7 1 ∈ GW := inG (mt1 (List.mem_of_getElem? (i := 210) rfl)) rfl
set_option maxRecDepth 20000 in
theorem ly6_2 : u_lay RX7 TX7 2 ∈ GW := inG (mt1 (List.mem_of_getElem? (i := 212) rfl)) rfl
set_option maxRecDepth 20000 in
theorem ly6_3 : u_lay RX7 TX7 3 ∈ GW := inG (mt1 (List.mem_of_getElem? (i := 214) rfl)) rfl
set_option maxRecDepth 20000 in
theorem ly6_4 : u_lay RX7 TX7 4 ∈ GW := inG (mt1 (List.mem_of_getElem? (i := 216) rfl)) rfl
theorem lys6 : ∀ w ∈ u_ws RX7 TX7 5, w ∈ GW := by
  intro w h
  obtain ⟨k, hk, rfl⟩ := List.mem_map.mp h
  have hk := List.mem_range.mp hk
  match k, hk with
  | 0, _ => exact ly6_0
  | 1, _ => exact ly6_1
  | 2, _ => exact ly6_2
  | 3, _ => exact ly6_3
  | 4, _ => exact ly6_4
theorem kt6 : KT 6 := ⟨(RX7, TX7, 5), tyX7, rfl, lys6, tyX7_ok, nmX7⟩
set_option maxRecDepth 20000 in
theorem ly7_0 : u_lay RX8 TX8 0 ∈ GW := inG (mt1 (List.mem_of_getElem? (i := 135) rfl)) rfl
set_option maxRecDepth 20000 in
theorem ly7_1 : u_lay RX8 TX8 1 ∈ GW := inG (mt1 (List.mem_of_getElem? (i := 137) rfl)) rfl
theorem lys7 : ∀ w ∈ u_ws RX8 TX8 2, w ∈ GW := by
  intro w h
  obtain ⟨k, hk, rfl⟩ := List.mem_map.mp h
  have hk := List.mem_range.mp hk
  match k, hk with
  | 0, _ => exact ly7_0
  | 1, _ => exact ly7_1
theorem kt7 : KT 7 := ⟨(RX8, TX8, 2), tyX8, rfl, lys7, tyX8_ok, nmX8⟩
set_option maxRecDepth 20000 in
theorem ly8_0 : u_lay RX9 TX9 0 ∈ GW := inG (mt1 (List.mem_of_getElem? (i := 44) rfl)) rfl
set_option maxRecDepth 20000 in
theorem ly8_1 : u_lay RX9 TX9 1 ∈ GW := inG (mt1 (List.mem_of_getElem? (i := 46) rfl)) rfl
theorem lys8 : ∀ w ∈ u_ws RX9 TX9 2, w ∈ GW := by
  intro w h
  obtain ⟨k, hk, rfl⟩ := List.mem_map.mp h
  have hk := List.mem_range.mp hk
  match k, hk with
  | 0, _ => exact ly8_0
  | 1, _ => exact ly8_1
theorem kt8 : KT 8 := ⟨(RX9, TX9, 2), tyX9, rfl, lys8, tyX9_ok, nmX9⟩
set_option maxRecDepth 20000 in
theorem ly9_0 : u_lay RX10 TX10 0 ∈ GW := inG (mt1 (List.mem_of_getElem? (i := 164) rfl)) rfl
theorem lys9 : ∀ w ∈ u_ws RX10 TX10 1, w ∈ GW := by
  intro w h
  obtain ⟨k, hk, rfl⟩ := List.mem_map.mp h
  have hk := List.mem_range.mp hk
  match k, hk with
  | 0, _ => exact ly9_0
theorem kt9 : KT 9 := ⟨(RX10, TX10, 1), tyX10, rfl, lys9, tyX10_ok, nmX10⟩
set_option maxRecDepth 20000 in
theorem ly10_0 : u_lay RX11 TX11 0 ∈ GW := inG (mt1 (List.mem_of_getElem? (i := 229) rfl)) rfl
set_option maxRecDepth 20000 in
theorem ly10_1 : u_lay RX11 TX11 1 ∈ GW := inG (mt1 (List.mem_of_getElem? (i := 231) rfl)) rfl
set_option maxRecDepth 20000 in
theorem ly10_2 : u_lay RX11 TX11 2 ∈ GW := inG (mt1 (List.mem_of_getElem? (i := 233) rfl)) rfl
set_option maxRecDepth 20000 in
theorem ly10_3 : u_lay RX11 TX11 3 ∈ GW := inG (mt1 (List.mem_of_getElem? (i := 235) rfl)) rfl
set_option maxRecDepth 20000 in
theorem ly10_4 : u_lay RX11 TX11 4 ∈ GW := inG (mt1 (List.mem_of_getElem? (i := 237) rfl)) rfl
set_option maxRecDepth 20000 in
theorem ly10_5 : u_lay RX11 TX11 5 ∈ GW := inG (mt1 (List.mem_of_getElem? (i := 239) rfl)) rfl
set_option maxRecDepth 20000 in
theorem ly10_6 : u_lay RX11 TX11 6 ∈ GW := inG (mt2 (List.mem_of_getElem? (i := 1) rfl)) rfl
set_option maxRecDepth 20000 in
theorem ly10_7 : u_lay RX11 TX11 7 ∈ GW := inG (mt2 (List.mem_of_getElem? (i := 3) rfl)) rfl
set_option maxRecDepth 20000 in
theorem ly10_8 : u_lay RX11 TX11 8 ∈ GW := inG (mt2 (List.mem_of_getElem? (i := 5) rfl)) rfl
set_option maxRecDepth 20000 in
theorem ly10_9 : u_lay RX11 TX11 9 ∈ GW := inG (mt2 (List.mem_of_getElem? (i := 7) rfl)) rfl
theorem lys10 : ∀ w ∈ u_ws RX11 TX11 10, w ∈ GW := by
  intro w h
  obtain ⟨k, hk, rfl⟩ := List.mem_map.mp h
  have hk := List.mem_range.mp hk
  match k, hk with
  | 0, _ => exact ly10_0
  | 1, _ => exact ly10_1
  | 2, _ => exact ly10_2
  | 3, _ => exact ly10_3
  | 4, _ => exact ly10_4
  | 5, _ => exact ly10_5
  | 6, _ => exact ly10_6
  | 7, _ => exact ly10_7
  | 8, _ => exact ly10_8
  | 9, _ => exact ly10_9
theorem kt10 : KT 10 := ⟨(RX11, TX11, 10), tyX11, rfl, lys10, tyX11_ok, nmX11⟩
set_option maxRecDepth 20000 in
theorem flX11_12 : FL RX11 12 10 0 := ⟨kt10, (RX11, TX11, 10), rfl, by decide, rfl, inG (mt1 (List.mem_of_getElem? (i := 219) rfl)) rfl⟩
set_option maxRecDepth 20000 in
theorem flX11_19 : FL RX11 19 10 1 := ⟨kt10, (RX11, TX11, 10), rfl, by decide, rfl, inG (mt1 (List.mem_of_getElem? (i := 220) rfl)) rfl⟩
set_option maxRecDepth 20000 in
theorem flX11_26 : FL RX11 26 10 2 := ⟨kt10, (RX11, TX11, 10), rfl, by decide, rfl, inG (mt1 (List.mem_of_getElem? (i := 221) rfl)) rfl⟩
set_option maxRecDepth 20000 in
theorem flX11_33 : FL RX11 33 10 3 := ⟨kt10, (RX11, TX11, 10), rfl, by decide, rfl, inG (mt1 (List.mem_of_getElem? (i := 222) rfl)) rfl⟩
set_option maxRecDepth 20000 in
theorem flX11_40 : FL RX11 40 10 4 := ⟨kt10, (RX11, TX11, 10), rfl, by decide, rfl, inG (mt1 (List.mem_of_getElem? (i := 223) rfl)) rfl⟩
set_option maxRecDepth 20000 in
theorem flX11_47 : FL RX11 47 10 5 := ⟨kt10, (RX11, TX11, 10), rfl, by decide, rfl, inG (mt1 (List.mem_of_getElem? (i := 224) rfl)) rfl⟩
set_option maxRecDepth 20000 in
theorem flX11_54 : FL RX11 54 10 6 := ⟨kt10, (RX11, TX11, 10), rfl, by decide, rfl, inG (mt1 (List.mem_of_getElem? (i := 225) rfl)) rfl⟩
set_option maxRecDepth 20000 in
theorem flX11_61 : FL RX11 61 10 7 := ⟨kt10, (RX11, TX11, 10), rfl, by decide, rfl, inG (mt1 (List.mem_of_getElem? (i := 226) rfl)) rfl⟩
set_option maxRecDepth 20000 in
theorem flX11_68 : FL RX11 68 10 8 := ⟨kt10, (RX11, TX11, 10), rfl, by decide, rfl, inG (mt1 (List.mem_of_getElem? (i := 227) rfl)) rfl⟩
set_option maxRecDepth 20000 in
theorem flX11_72 : FL RX11 72 10 9 := ⟨kt10, (RX11, TX11, 10), rfl, by decide, rfl, inG (mt1 (List.mem_of_getElem? (i := 228) rfl)) rfl⟩
set_option maxRecDepth 20000 in
theorem flX0_11 : FL RX0 11 0 0 := ⟨kt0, (RX0, TX0, 8), rfl, by decide, rfl, inG (mt1 (List.mem_of_getElem? (i := 53) rfl)) rfl⟩
set_option maxRecDepth 20000 in
theorem flX0_17 : FL RX0 17 0 5 := ⟨kt0, (RX0, TX0, 8), rfl, by decide, rfl, inG (mt1 (List.mem_of_getElem? (i := 63) rfl)) rfl⟩
set_option maxRecDepth 20000 in
theorem flX0_21 : FL RX0 21 0 6 := ⟨kt0, (RX0, TX0, 8), rfl, by decide, rfl, inG (mt1 (List.mem_of_getElem? (i := 64) rfl)) rfl⟩
set_option maxRecDepth 20000 in
theorem flX9_9 : FL RX9 9 8 0 := ⟨kt8, (RX9, TX9, 2), rfl, by decide, rfl, inG (mt1 (List.mem_of_getElem? (i := 42) rfl)) rfl⟩
set_option maxRecDepth 20000 in
theorem flX1_11 : FL RX1 11 1 0 := ⟨kt1, (RX1, TX1, 3), rfl, by decide, rfl, inG (mt1 (List.mem_of_getElem? (i := 115) rfl)) rfl⟩
set_option maxRecDepth 20000 in
theorem flX5_9 : FL RX5 9 4 0 := ⟨kt4, (RX5, TX5, 6), rfl, by decide, rfl, inG (mt1 (List.mem_of_getElem? (i := 96) rfl)) rfl⟩
set_option maxRecDepth 20000 in
theorem flX5_15 : FL RX5 15 4 1 := ⟨kt4, (RX5, TX5, 6), rfl, by decide, rfl, inG (mt1 (List.mem_of_getElem? (i := 97) rfl)) rfl⟩
set_option maxRecDepth 20000 in
theorem flX8_11 : FL RX8 11 7 0 := ⟨kt7, (RX8, TX8, 2), rfl, by decide, rfl, inG (mt1 (List.mem_of_getElem? (i := 133) rfl)) rfl⟩
set_option maxRecDepth 20000 in
theorem flX8_17 : FL RX8 17 7 1 := ⟨kt7, (RX8, TX8, 2), rfl, by decide, rfl, inG (mt1 (List.mem_of_getElem? (i := 134) rfl)) rfl⟩
set_option maxRecDepth 20000 in
theorem flX3_9 : FL RX3 9 2 0 := ⟨kt2, (RX3, TX3, 2), rfl, by decide, rfl, inG (mt1 (List.mem_of_getElem? (i := 147) rfl)) rfl⟩
set_option maxRecDepth 20000 in
theorem flX10_9 : FL RX10 9 9 0 := ⟨kt9, (RX10, TX10, 1), rfl, by decide, rfl, inG (mt1 (List.mem_of_getElem? (i := 163) rfl)) rfl⟩
set_option maxRecDepth 20000 in
theorem flX6_9 : FL RX6 9 5 0 := ⟨kt5, (RX6, TX6, 1), rfl, by decide, rfl, inG (mt1 (List.mem_of_getElem? (i := 173) rfl)) rfl⟩
set_option maxRecDepth 20000 in
theorem flX4_9 : FL RX4 9 3 0 := ⟨kt3, (RX4, TX4, 5), rfl, by decide, rfl, inG (mt1 (List.mem_of_getElem? (i := 183) rfl)) rfl⟩
set_option maxRecDepth 20000 in
theorem flX4_15 : FL RX4 15 3 1 := ⟨kt3, (RX4, TX4, 5), rfl, by decide, rfl, inG (mt1 (List.mem_of_getElem? (i := 184) rfl)) rfl⟩
set_option maxRecDepth 20000 in
theorem flX4_18 : FL RX4 18 3 2 := ⟨kt3, (RX4, TX4, 5), rfl, by decide, rfl, inG (mt1 (List.mem_of_getElem? (i := 185) rfl)) rfl⟩
set_option maxRecDepth 20000 in
theorem flX4_22 : FL RX4 22 3 3 := ⟨kt3, (RX4, TX4, 5), rfl, by decide, rfl, inG (mt1 (List.mem_of_getElem? (i := 186) rfl)) rfl⟩
set_option maxRecDepth 20000 in
theorem flX7_9 : FL RX7 9 6 0 := ⟨kt6, (RX7, TX7, 5), rfl, by decide, rfl, inG (mt1 (List.mem_of_getElem? (i := 204) rfl)) rfl⟩
set_option maxRecDepth 20000 in
theorem flX7_15 : FL RX7 15 6 1 := ⟨kt6, (RX7, TX7, 5), rfl, by decide, rfl, inG (mt1 (List.mem_of_getElem? (i := 205) rfl)) rfl⟩
set_option maxRecDepth 20000 in
theorem flX7_18 : FL RX7 18 6 2 := ⟨kt6, (RX7, TX7, 5), rfl, by decide, rfl, inG (mt1 (List.mem_of_getElem? (i := 206) rfl)) rfl⟩
set_option maxRecDepth 20000 in
theorem flX7_21 : FL RX7 21 6 3 := ⟨kt6, (RX7, TX7, 5), rfl, by decide, rfl, inG (mt1 (List.mem_of_getElem? (i := 207) rfl)) rfl⟩
set_option maxRecDepth 20000 in
theorem flX0_35 : FL RX0 35 0 1 := ⟨kt0, (RX0, TX0, 8), rfl, by decide, rfl, inG (mt1 (List.mem_of_getElem? (i := 56) rfl)) rfl⟩
set_option maxRecDepth 20000 in
theorem flX0_31 : FL RX0 31 0 7 := ⟨kt0, (RX0, TX0, 8), rfl, by decide, rfl, inG (mt1 (List.mem_of_getElem? (i := 65) rfl)) rfl⟩
set_option maxRecDepth 20000 in
theorem flX0_56 : FL RX0 56 0 2 := ⟨kt0, (RX0, TX0, 8), rfl, by decide, rfl, inG (mt1 (List.mem_of_getElem? (i := 58) rfl)) rfl⟩
set_option maxRecDepth 20000 in
theorem flX0_59 : FL RX0 59 0 3 := ⟨kt0, (RX0, TX0, 8), rfl, by decide, rfl, inG (mt1 (List.mem_of_getElem? (i := 60) rfl)) rfl⟩
set_option maxRecDepth 20000 in
theorem flX0_62 : FL RX0 62 0 4 := ⟨kt0, (RX0, TX0, 8), rfl, by decide, rfl, inG (mt1 (List.mem_of_getElem? (i := 62) rfl)) rfl⟩
set_option maxRecDepth 20000 in
theorem flX1_18 : FL RX1 18 1 2 := ⟨kt1, (RX1, TX1, 3), rfl, by decide, rfl, inG (mt1 (List.mem_of_getElem? (i := 117) rfl)) rfl⟩
set_option maxRecDepth 20000 in
theorem flX3_15 : FL RX3 15 2 1 := ⟨kt2, (RX3, TX3, 2), rfl, by decide, rfl, inG (mt1 (List.mem_of_getElem? (i := 148) rfl)) rfl⟩
set_option maxRecDepth 20000 in
theorem fsX2_15 : Cond.fieldLink RX2 15 "LatticePaths$Lattice" "ACROSS" "[I" ∈ GW := inG (mt3 (List.mem_of_getElem? (i := 7) rfl)) rfl
set_option maxRecDepth 20000 in
theorem fsX2_22 : Cond.fieldLink RX2 22 "LatticePaths$Lattice" "ALONG" "[I" ∈ GW := inG (mt3 (List.mem_of_getElem? (i := 12) rfl)) rfl
set_option maxRecDepth 20000 in
theorem flX1_22 : FL RX1 22 1 1 := ⟨kt1, (RX1, TX1, 3), rfl, by decide, rfl, inG (mt1 (List.mem_of_getElem? (i := 116) rfl)) rfl⟩
set_option maxRecDepth 20000 in
theorem flX5_24 : FL RX5 24 4 2 := ⟨kt4, (RX5, TX5, 6), rfl, by decide, rfl, inG (mt1 (List.mem_of_getElem? (i := 98) rfl)) rfl⟩
set_option maxRecDepth 20000 in
theorem flX5_42 : FL RX5 42 4 3 := ⟨kt4, (RX5, TX5, 6), rfl, by decide, rfl, inG (mt1 (List.mem_of_getElem? (i := 99) rfl)) rfl⟩
set_option maxRecDepth 20000 in
theorem flX5_46 : FL RX5 46 4 4 := ⟨kt4, (RX5, TX5, 6), rfl, by decide, rfl, inG (mt1 (List.mem_of_getElem? (i := 100) rfl)) rfl⟩
set_option maxRecDepth 20000 in
theorem flX5_50 : FL RX5 50 4 5 := ⟨kt4, (RX5, TX5, 6), rfl, by decide, rfl, inG (mt1 (List.mem_of_getElem? (i := 101) rfl)) rfl⟩
set_option maxRecDepth 20000 in
theorem flX9_15 : FL RX9 15 8 1 := ⟨kt8, (RX9, TX9, 2), rfl, by decide, rfl, inG (mt1 (List.mem_of_getElem? (i := 43) rfl)) rfl⟩
set_option maxRecDepth 20000 in
theorem clL_11 : Cond.classLink RL 11 RX11 ∈ GW := inG (mt1 (List.mem_of_getElem? (i := 21) rfl)) rfl
set_option maxRecDepth 20000 in
theorem itX11 : Cond.instantiable RX11 10 ∈ GW := inG (mt1 (List.mem_of_getElem? (i := 22) rfl)) rfl
set_option maxRecDepth 20000 in
theorem ac_int : Cond.arrayClass .int ∈ GW := inG (mt1 (List.mem_of_getElem? (i := 49) rfl)) rfl
set_option maxRecDepth 20000 in
theorem clX11_9 : Cond.classLink RX11 9 RX0 ∈ GW := inG (mt1 (List.mem_of_getElem? (i := 29) rfl)) rfl
set_option maxRecDepth 20000 in
theorem itX0 : Cond.instantiable RX0 8 ∈ GW := inG (mt1 (List.mem_of_getElem? (i := 30) rfl)) rfl
set_option maxRecDepth 20000 in
theorem clX11_16 : Cond.classLink RX11 16 RX1 ∈ GW := inG (mt1 (List.mem_of_getElem? (i := 83) rfl)) rfl
set_option maxRecDepth 20000 in
theorem itX1 : Cond.instantiable RX1 3 ∈ GW := inG (mt1 (List.mem_of_getElem? (i := 84) rfl)) rfl
set_option maxRecDepth 20000 in
theorem clX11_23 : Cond.classLink RX11 23 RX8 ∈ GW := inG (mt1 (List.mem_of_getElem? (i := 125) rfl)) rfl
set_option maxRecDepth 20000 in
theorem itX8 : Cond.instantiable RX8 2 ∈ GW := inG (mt1 (List.mem_of_getElem? (i := 126) rfl)) rfl
set_option maxRecDepth 20000 in
theorem clX11_30 : Cond.classLink RX11 30 RX3 ∈ GW := inG (mt1 (List.mem_of_getElem? (i := 141) rfl)) rfl
set_option maxRecDepth 20000 in
theorem itX3 : Cond.instantiable RX3 2 ∈ GW := inG (mt1 (List.mem_of_getElem? (i := 142) rfl)) rfl
set_option maxRecDepth 20000 in
theorem clX11_37 : Cond.classLink RX11 37 RX9 ∈ GW := inG (mt1 (List.mem_of_getElem? (i := 155) rfl)) rfl
set_option maxRecDepth 20000 in
theorem itX9 : Cond.instantiable RX9 2 ∈ GW := inG (mt1 (List.mem_of_getElem? (i := 37) rfl)) rfl
set_option maxRecDepth 20000 in
theorem clX11_44 : Cond.classLink RX11 44 RX10 ∈ GW := inG (mt1 (List.mem_of_getElem? (i := 157) rfl)) rfl
set_option maxRecDepth 20000 in
theorem itX10 : Cond.instantiable RX10 1 ∈ GW := inG (mt1 (List.mem_of_getElem? (i := 158) rfl)) rfl
set_option maxRecDepth 20000 in
theorem clX11_51 : Cond.classLink RX11 51 RX6 ∈ GW := inG (mt1 (List.mem_of_getElem? (i := 167) rfl)) rfl
set_option maxRecDepth 20000 in
theorem itX6 : Cond.instantiable RX6 1 ∈ GW := inG (mt1 (List.mem_of_getElem? (i := 168) rfl)) rfl
set_option maxRecDepth 20000 in
theorem clX11_58 : Cond.classLink RX11 58 RX4 ∈ GW := inG (mt1 (List.mem_of_getElem? (i := 177) rfl)) rfl
set_option maxRecDepth 20000 in
theorem itX4 : Cond.instantiable RX4 5 ∈ GW := inG (mt1 (List.mem_of_getElem? (i := 178) rfl)) rfl
set_option maxRecDepth 20000 in
theorem clX11_65 : Cond.classLink RX11 65 RX7 ∈ GW := inG (mt1 (List.mem_of_getElem? (i := 198) rfl)) rfl
set_option maxRecDepth 20000 in
theorem itX7 : Cond.instantiable RX7 5 ∈ GW := inG (mt1 (List.mem_of_getElem? (i := 199) rfl)) rfl
set_option maxRecDepth 20000 in
theorem clX0_9 : Cond.classLink RX0 9 RX9 ∈ GW := inG (mt1 (List.mem_of_getElem? (i := 35) rfl)) rfl
set_option maxRecDepth 20000 in
theorem clX1_9 : Cond.classLink RX1 9 RX5 ∈ GW := inG (mt1 (List.mem_of_getElem? (i := 89) rfl)) rfl
set_option maxRecDepth 20000 in
theorem itX5 : Cond.instantiable RX5 6 ∈ GW := inG (mt1 (List.mem_of_getElem? (i := 91) rfl)) rfl
set_option maxRecDepth 20000 in
theorem clX8_9 : Cond.classLink RX8 9 RX5 ∈ GW := inG (mt1 (List.mem_of_getElem? (i := 131) rfl)) rfl
set_option maxRecDepth 20000 in
theorem ac_boolean : Cond.arrayClass .boolean ∈ GW := inG (mt1 (List.mem_of_getElem? (i := 140) rfl)) rfl
set_option maxRecDepth 20000 in
theorem ac_char : Cond.arrayClass .char ∈ GW := inG (mt1 (List.mem_of_getElem? (i := 154) rfl)) rfl
set_option maxRecDepth 20000 in
theorem cqL_83 : Cond.constantLong RL 83 (71) ∈ GW := inG (mt2 (List.mem_of_getElem? (i := 145) rfl)) rfl
set_option maxRecDepth 20000 in
theorem cqL_85 : Cond.constantLong RL 85 (31) ∈ GW := inG (mt2 (List.mem_of_getElem? (i := 146) rfl)) rfl
set_option maxRecDepth 20000 in
theorem cqL_90 : Cond.constantLong RL 90 (100) ∈ GW := inG (mt2 (List.mem_of_getElem? (i := 198) rfl)) rfl
set_option maxRecDepth 20000 in
theorem clL_23 : Cond.classLink RL 23 "java/lang/IllegalArgumentException" ∈ GW := inG (mt2 (List.mem_of_getElem? (i := 150) rfl)) rfl
set_option maxRecDepth 20000 in
theorem clX11_206 : Cond.classLink RX11 206 "java/lang/IllegalArgumentException" ∈ GW := inG (mt2 (List.mem_of_getElem? (i := 158) rfl)) rfl
set_option maxRecDepth 20000 in
theorem gi_IllegalArgumentException : Cond.initialized "java/lang/IllegalArgumentException" ∈ GW := inG (mt1 (List.mem_of_getElem? (i := 16) rfl)) rfl
set_option maxRecDepth 20000 in
theorem clL_16 : Cond.classLink RL 16 "java/lang/IndexOutOfBoundsException" ∈ GW := inG (mt2 (List.mem_of_getElem? (i := 202) rfl)) rfl
set_option maxRecDepth 20000 in
theorem clX11_170 : Cond.classLink RX11 170 "java/lang/IndexOutOfBoundsException" ∈ GW := inG (mt2 (List.mem_of_getElem? (i := 213) rfl)) rfl
set_option maxRecDepth 20000 in
theorem gi_IndexOutOfBoundsException : Cond.initialized "java/lang/IndexOutOfBoundsException" ∈ GW := inG (mt1 (List.mem_of_getElem? (i := 18) rfl)) rfl
set_option maxRecDepth 20000 in
theorem clL_18 : Cond.classLink RL 18 "java/lang/IllegalStateException" ∈ GW := inG (mt2 (List.mem_of_getElem? (i := 22) rfl)) rfl
set_option maxRecDepth 20000 in
theorem clX11_87 : Cond.classLink RX11 87 "java/lang/IllegalStateException" ∈ GW := inG (mt2 (List.mem_of_getElem? (i := 31) rfl)) rfl
set_option maxRecDepth 20000 in
theorem gi_IllegalStateException : Cond.initialized "java/lang/IllegalStateException" ∈ GW := inG (mt1 (List.mem_of_getElem? (i := 19) rfl)) rfl
set_option maxRecDepth 20000 in
theorem cfL_158 : Cond.constantFloat RL 158 (1120403456) ∈ GW := inG (mt4 (List.mem_of_getElem? (i := 52) rfl)) rfl
set_option maxRecDepth 20000 in
theorem cfX11_332 : Cond.constantFloat RX11 332 (1120403456) ∈ GW := inG (mt4 (List.mem_of_getElem? (i := 51) rfl)) rfl
set_option maxRecDepth 20000 in
theorem gi_Math : Cond.initialized "java/lang/Math" ∈ GW := inG (mt1 (List.mem_of_getElem? (i := 20) rfl)) rfl
set_option maxRecDepth 20000 in
theorem gMstat_max : Cond.static Lib.Math.max.name ∈ GW := inG (mt4 (List.mem_of_getElem? (i := 108) rfl)) rfl
set_option maxRecDepth 20000 in
theorem gMcode_max : Cond.code Lib.Math.max.name Lib.Math.max.code 2 (some .int) ∈ GW := inG (mt4 (List.mem_of_getElem? (i := 109) rfl)) rfl
set_option maxRecDepth 20000 in
theorem gMstat_min : Cond.static Lib.Math.min.name ∈ GW := inG (mt4 (List.mem_of_getElem? (i := 105) rfl)) rfl
set_option maxRecDepth 20000 in
theorem gMcode_min : Cond.code Lib.Math.min.name Lib.Math.min.code 2 (some .int) ∈ GW := inG (mt4 (List.mem_of_getElem? (i := 106) rfl)) rfl
set_option maxRecDepth 20000 in
theorem gMstat_abs : Cond.static Lib.Math.abs.name ∈ GW := inG (mt4 (List.mem_of_getElem? (i := 97) rfl)) rfl
set_option maxRecDepth 20000 in
theorem gMcode_abs : Cond.code Lib.Math.abs.name Lib.Math.abs.code 1 (some .int) ∈ GW := inG (mt4 (List.mem_of_getElem? (i := 98) rfl)) rfl
set_option maxRecDepth 20000 in
theorem gOi_inst : Cond.instanceMethod objectInit ∈ GW := inG (mt1 (List.mem_of_getElem? (i := 27) rfl)) rfl
set_option maxRecDepth 20000 in
theorem gOi_code : Cond.code objectInit ⟨#[0xb1]⟩ 1 none ∈ GW := inG (mt1 (List.mem_of_getElem? (i := 28) rfl)) rfl
