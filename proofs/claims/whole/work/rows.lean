section
-- ===== PART A: goes FIRST, ahead of the names: the tables' words, and 'selects' of the private methods out of them =====
/-- a private method of a class that the tables say can be made, by its rows of tables_1 -/
def lw_okq (q : MethodName × Nat) : Prop := (q.1.cls ≠ "java/lang/invoke/MethodHandle" ∧ q.1.cls ≠ "java/lang/invoke/VarHandle") ∧ Cond.instantiable q.1.cls q.2 ∈ tables_1 ∧ Cond.privateMethod q.1 ∈ tables_1 ∧ Cond.instanceMethod q.1 ∈ tables_1
theorem lw_p0 : lw_okq (⟨"java/lang/Throwable", "fillInStackTrace", "(I)Ljava/lang/Throwable;"⟩, 6) := ⟨⟨by decide +kernel, by decide +kernel⟩, List.mem_of_getElem? (i := 482) (by decide +kernel), List.mem_of_getElem? (i := 480) (by decide +kernel), List.mem_of_getElem? (i := 481) (by decide +kernel)⟩
theorem lw_p1 : lw_okq (⟨"LatticePaths$Board", "mark", "(III)V"⟩, 8) := ⟨⟨by decide +kernel, by decide +kernel⟩, List.mem_of_getElem? (i := 37) (by decide +kernel), List.mem_of_getElem? (i := 575) (by decide +kernel), List.mem_of_getElem? (i := 576) (by decide +kernel)⟩
theorem lw_p2 : lw_okq (⟨"LatticePaths", "checkPath", "(I)V"⟩, 10) := ⟨⟨by decide +kernel, by decide +kernel⟩, List.mem_of_getElem? (i := 29) (by decide +kernel), List.mem_of_getElem? (i := 587) (by decide +kernel), List.mem_of_getElem? (i := 588) (by decide +kernel)⟩
theorem lw_p3 : lw_okq (⟨"LatticePaths$Board", "refusalAt", "(II)I"⟩, 8) := ⟨⟨by decide +kernel, by decide +kernel⟩, List.mem_of_getElem? (i := 37) (by decide +kernel), List.mem_of_getElem? (i := 619) (by decide +kernel), List.mem_of_getElem? (i := 620) (by decide +kernel)⟩
theorem lw_p4 : lw_okq (⟨"LatticePaths$Board", "noteStep", "(I)V"⟩, 8) := ⟨⟨by decide +kernel, by decide +kernel⟩, List.mem_of_getElem? (i := 37) (by decide +kernel), List.mem_of_getElem? (i := 629) (by decide +kernel), List.mem_of_getElem? (i := 630) (by decide +kernel)⟩
theorem lw_p5 : lw_okq (⟨"LatticePaths", "checkPlace", "(II)V"⟩, 10) := ⟨⟨by decide +kernel, by decide +kernel⟩, List.mem_of_getElem? (i := 29) (by decide +kernel), List.mem_of_getElem? (i := 680) (by decide +kernel), List.mem_of_getElem? (i := 681) (by decide +kernel)⟩
theorem lw_p6 : lw_okq (⟨"LatticePaths$Turning", "land", "(LLatticePaths$Trail;II)Z"⟩, 1) := ⟨⟨by decide +kernel, by decide +kernel⟩, List.mem_of_getElem? (i := 165) (by decide +kernel), List.mem_of_getElem? (i := 694) (by decide +kernel), List.mem_of_getElem? (i := 695) (by decide +kernel)⟩
theorem lw_p7 : lw_okq (⟨"LatticePaths", "checkTwoPaths", "(II)V"⟩, 10) := ⟨⟨by decide +kernel, by decide +kernel⟩, List.mem_of_getElem? (i := 29) (by decide +kernel), List.mem_of_getElem? (i := 743) (by decide +kernel), List.mem_of_getElem? (i := 744) (by decide +kernel)⟩
theorem lw_p8 : lw_okq (⟨"LatticePaths$Board", "neighboursIn", "(II)I"⟩, 8) := ⟨⟨by decide +kernel, by decide +kernel⟩, List.mem_of_getElem? (i := 37) (by decide +kernel), List.mem_of_getElem? (i := 989) (by decide +kernel), List.mem_of_getElem? (i := 990) (by decide +kernel)⟩
theorem lw_p9 : lw_okq (⟨"LatticePaths$Shape", "consider", "([IIZ)V"⟩, 5) := ⟨⟨by decide +kernel, by decide +kernel⟩, List.mem_of_getElem? (i := 207) (by decide +kernel), List.mem_of_getElem? (i := 1022) (by decide +kernel), List.mem_of_getElem? (i := 1023) (by decide +kernel)⟩
theorem lw_p10 : lw_okq (⟨"LatticePaths$Shape", "isViewLess", "()Z"⟩, 5) := ⟨⟨by decide +kernel, by decide +kernel⟩, List.mem_of_getElem? (i := 207) (by decide +kernel), List.mem_of_getElem? (i := 1029) (by decide +kernel), List.mem_of_getElem? (i := 1030) (by decide +kernel)⟩
theorem lw_p11 : lw_okq (⟨"LatticePaths$Regions", "isUnseen", "(LLatticePaths$Board;I)Z"⟩, 5) := ⟨⟨by decide +kernel, by decide +kernel⟩, List.mem_of_getElem? (i := 185) (by decide +kernel), List.mem_of_getElem? (i := 1063) (by decide +kernel), List.mem_of_getElem? (i := 1064) (by decide +kernel)⟩
theorem lw_p12 : lw_okq (⟨"LatticePaths$Regions", "flood", "(LLatticePaths$Board;I)I"⟩, 5) := ⟨⟨by decide +kernel, by decide +kernel⟩, List.mem_of_getElem? (i := 185) (by decide +kernel), List.mem_of_getElem? (i := 1068) (by decide +kernel), List.mem_of_getElem? (i := 1069) (by decide +kernel)⟩
theorem lw_p13 : lw_okq (⟨"LatticePaths", "regionsAtHeads", "()I"⟩, 10) := ⟨⟨by decide +kernel, by decide +kernel⟩, List.mem_of_getElem? (i := 29) (by decide +kernel), List.mem_of_getElem? (i := 1082) (by decide +kernel), List.mem_of_getElem? (i := 1083) (by decide +kernel)⟩
theorem lw_p14 : lw_okq (⟨"LatticePaths$Scout", "survey", "(LLatticePaths$Board;)V"⟩, 1) := ⟨⟨by decide +kernel, by decide +kernel⟩, List.mem_of_getElem? (i := 175) (by decide +kernel), List.mem_of_getElem? (i := 1106) (by decide +kernel), List.mem_of_getElem? (i := 1107) (by decide +kernel)⟩
theorem lw_p15 : lw_okq (⟨"LatticePathsModel", "fails", "(I)I"⟩, 20) := ⟨⟨by decide +kernel, by decide +kernel⟩, List.mem_of_getElem? (i := 1190) (by decide +kernel), List.mem_of_getElem? (i := 1265) (by decide +kernel), List.mem_of_getElem? (i := 1266) (by decide +kernel)⟩
def lw_privs_1 : List (MethodName × Nat) := [(⟨"java/lang/Throwable", "fillInStackTrace", "(I)Ljava/lang/Throwable;"⟩, 6), (⟨"LatticePaths$Board", "mark", "(III)V"⟩, 8), (⟨"LatticePaths", "checkPath", "(I)V"⟩, 10), (⟨"LatticePaths$Board", "refusalAt", "(II)I"⟩, 8), (⟨"LatticePaths$Board", "noteStep", "(I)V"⟩, 8), (⟨"LatticePaths", "checkPlace", "(II)V"⟩, 10), (⟨"LatticePaths$Turning", "land", "(LLatticePaths$Trail;II)Z"⟩, 1), (⟨"LatticePaths", "checkTwoPaths", "(II)V"⟩, 10), (⟨"LatticePaths$Board", "neighboursIn", "(II)I"⟩, 8), (⟨"LatticePaths$Shape", "consider", "([IIZ)V"⟩, 5), (⟨"LatticePaths$Shape", "isViewLess", "()Z"⟩, 5), (⟨"LatticePaths$Regions", "isUnseen", "(LLatticePaths$Board;I)Z"⟩, 5), (⟨"LatticePaths$Regions", "flood", "(LLatticePaths$Board;I)I"⟩, 5), (⟨"LatticePaths", "regionsAtHeads", "()I"⟩, 10), (⟨"LatticePaths$Scout", "survey", "(LLatticePaths$Board;)V"⟩, 1), (⟨"LatticePathsModel", "fails", "(I)I"⟩, 20)]
theorem lw_r1 : ∀ q ∈ lw_privs_1, lw_okq q := List.forall_mem_cons.mpr ⟨lw_p0, List.forall_mem_cons.mpr ⟨lw_p1, List.forall_mem_cons.mpr ⟨lw_p2, List.forall_mem_cons.mpr ⟨lw_p3, List.forall_mem_cons.mpr ⟨lw_p4, List.forall_mem_cons.mpr ⟨lw_p5, List.forall_mem_cons.mpr ⟨lw_p6, List.forall_mem_cons.mpr ⟨lw_p7, List.forall_mem_cons.mpr ⟨lw_p8, List.forall_mem_cons.mpr ⟨lw_p9, List.forall_mem_cons.mpr ⟨lw_p10, List.forall_mem_cons.mpr ⟨lw_p11, List.forall_mem_cons.mpr ⟨lw_p12, List.forall_mem_cons.mpr ⟨lw_p13, List.forall_mem_cons.mpr ⟨lw_p14, List.forall_mem_cons.mpr ⟨lw_p15, fun _ h => absurd h List.not_mem_nil⟩⟩⟩⟩⟩⟩⟩⟩⟩⟩⟩⟩⟩⟩⟩⟩
theorem lw_p16 : lw_okq (⟨"LatticePathsModel", "save", "()V"⟩, 20) := ⟨⟨by decide +kernel, by decide +kernel⟩, List.mem_of_getElem? (i := 1190) (by decide +kernel), List.mem_of_getElem? (i := 1280) (by decide +kernel), List.mem_of_getElem? (i := 1281) (by decide +kernel)⟩
theorem lw_p17 : lw_okq (⟨"LatticePathsModel", "lay", "()V"⟩, 20) := ⟨⟨by decide +kernel, by decide +kernel⟩, List.mem_of_getElem? (i := 1190) (by decide +kernel), List.mem_of_getElem? (i := 1288) (by decide +kernel), List.mem_of_getElem? (i := 1289) (by decide +kernel)⟩
theorem lw_p18 : lw_okq (⟨"LatticePathsModel", "lengthOf", "(I)I"⟩, 20) := ⟨⟨by decide +kernel, by decide +kernel⟩, List.mem_of_getElem? (i := 1190) (by decide +kernel), List.mem_of_getElem? (i := 1292) (by decide +kernel), List.mem_of_getElem? (i := 1293) (by decide +kernel)⟩
theorem lw_p19 : lw_okq (⟨"LatticePathsModel", "siteOf", "(II)I"⟩, 20) := ⟨⟨by decide +kernel, by decide +kernel⟩, List.mem_of_getElem? (i := 1190) (by decide +kernel), List.mem_of_getElem? (i := 1296) (by decide +kernel), List.mem_of_getElem? (i := 1297) (by decide +kernel)⟩
theorem lw_p20 : lw_okq (⟨"LatticePathsModel", "addPath", "()I"⟩, 20) := ⟨⟨by decide +kernel, by decide +kernel⟩, List.mem_of_getElem? (i := 1190) (by decide +kernel), List.mem_of_getElem? (i := 1300) (by decide +kernel), List.mem_of_getElem? (i := 1301) (by decide +kernel)⟩
theorem lw_p21 : lw_okq (⟨"LatticePathsModel", "setSite", "(III)V"⟩, 20) := ⟨⟨by decide +kernel, by decide +kernel⟩, List.mem_of_getElem? (i := 1190) (by decide +kernel), List.mem_of_getElem? (i := 1304) (by decide +kernel), List.mem_of_getElem? (i := 1305) (by decide +kernel)⟩
theorem lw_p22 : lw_okq (⟨"LatticePathsModel", "isPath", "(I)Z"⟩, 20) := ⟨⟨by decide +kernel, by decide +kernel⟩, List.mem_of_getElem? (i := 1190) (by decide +kernel), List.mem_of_getElem? (i := 1312) (by decide +kernel), List.mem_of_getElem? (i := 1313) (by decide +kernel)⟩
theorem lw_p23 : lw_okq (⟨"LatticePathsModel", "headOf", "(I)I"⟩, 20) := ⟨⟨by decide +kernel, by decide +kernel⟩, List.mem_of_getElem? (i := 1190) (by decide +kernel), List.mem_of_getElem? (i := 1316) (by decide +kernel), List.mem_of_getElem? (i := 1317) (by decide +kernel)⟩
theorem lw_p24 : lw_okq (⟨"LatticePathsModel", "reason", "(II)I"⟩, 20) := ⟨⟨by decide +kernel, by decide +kernel⟩, List.mem_of_getElem? (i := 1190) (by decide +kernel), List.mem_of_getElem? (i := 1323) (by decide +kernel), List.mem_of_getElem? (i := 1324) (by decide +kernel)⟩
theorem lw_p25 : lw_okq (⟨"LatticePathsModel", "takeRow", "(I)V"⟩, 20) := ⟨⟨by decide +kernel, by decide +kernel⟩, List.mem_of_getElem? (i := 1190) (by decide +kernel), List.mem_of_getElem? (i := 1335) (by decide +kernel), List.mem_of_getElem? (i := 1336) (by decide +kernel)⟩
theorem lw_p26 : lw_okq (⟨"LatticePathsModel", "giveRow", "(I)V"⟩, 20) := ⟨⟨by decide +kernel, by decide +kernel⟩, List.mem_of_getElem? (i := 1190) (by decide +kernel), List.mem_of_getElem? (i := 1339) (by decide +kernel), List.mem_of_getElem? (i := 1340) (by decide +kernel)⟩
theorem lw_p27 : lw_okq (⟨"LatticePathsModel", "isSite", "(II)Z"⟩, 20) := ⟨⟨by decide +kernel, by decide +kernel⟩, List.mem_of_getElem? (i := 1190) (by decide +kernel), List.mem_of_getElem? (i := 1347) (by decide +kernel), List.mem_of_getElem? (i := 1348) (by decide +kernel)⟩
theorem lw_p28 : lw_okq (⟨"LatticePathsModel", "whyNotTurned", "(III)I"⟩, 20) := ⟨⟨by decide +kernel, by decide +kernel⟩, List.mem_of_getElem? (i := 1190) (by decide +kernel), List.mem_of_getElem? (i := 1351) (by decide +kernel), List.mem_of_getElem? (i := 1352) (by decide +kernel)⟩
theorem lw_p29 : lw_okq (⟨"LatticePathsModel", "reverseRow", "()V"⟩, 20) := ⟨⟨by decide +kernel, by decide +kernel⟩, List.mem_of_getElem? (i := 1190) (by decide +kernel), List.mem_of_getElem? (i := 1362) (by decide +kernel), List.mem_of_getElem? (i := 1363) (by decide +kernel)⟩
theorem lw_p30 : lw_okq (⟨"LatticePathsModel", "dropPath", "(I)V"⟩, 20) := ⟨⟨by decide +kernel, by decide +kernel⟩, List.mem_of_getElem? (i := 1190) (by decide +kernel), List.mem_of_getElem? (i := 1373) (by decide +kernel), List.mem_of_getElem? (i := 1374) (by decide +kernel)⟩
theorem lw_p31 : lw_okq (⟨"LatticePathsModel", "findError", "()I"⟩, 20) := ⟨⟨by decide +kernel, by decide +kernel⟩, List.mem_of_getElem? (i := 1190) (by decide +kernel), List.mem_of_getElem? (i := 1397) (by decide +kernel), List.mem_of_getElem? (i := 1398) (by decide +kernel)⟩
def lw_privs_2 : List (MethodName × Nat) := [(⟨"LatticePathsModel", "save", "()V"⟩, 20), (⟨"LatticePathsModel", "lay", "()V"⟩, 20), (⟨"LatticePathsModel", "lengthOf", "(I)I"⟩, 20), (⟨"LatticePathsModel", "siteOf", "(II)I"⟩, 20), (⟨"LatticePathsModel", "addPath", "()I"⟩, 20), (⟨"LatticePathsModel", "setSite", "(III)V"⟩, 20), (⟨"LatticePathsModel", "isPath", "(I)Z"⟩, 20), (⟨"LatticePathsModel", "headOf", "(I)I"⟩, 20), (⟨"LatticePathsModel", "reason", "(II)I"⟩, 20), (⟨"LatticePathsModel", "takeRow", "(I)V"⟩, 20), (⟨"LatticePathsModel", "giveRow", "(I)V"⟩, 20), (⟨"LatticePathsModel", "isSite", "(II)Z"⟩, 20), (⟨"LatticePathsModel", "whyNotTurned", "(III)I"⟩, 20), (⟨"LatticePathsModel", "reverseRow", "()V"⟩, 20), (⟨"LatticePathsModel", "dropPath", "(I)V"⟩, 20), (⟨"LatticePathsModel", "findError", "()I"⟩, 20)]
theorem lw_r2 : ∀ q ∈ lw_privs_2, lw_okq q := List.forall_mem_cons.mpr ⟨lw_p16, List.forall_mem_cons.mpr ⟨lw_p17, List.forall_mem_cons.mpr ⟨lw_p18, List.forall_mem_cons.mpr ⟨lw_p19, List.forall_mem_cons.mpr ⟨lw_p20, List.forall_mem_cons.mpr ⟨lw_p21, List.forall_mem_cons.mpr ⟨lw_p22, List.forall_mem_cons.mpr ⟨lw_p23, List.forall_mem_cons.mpr ⟨lw_p24, List.forall_mem_cons.mpr ⟨lw_p25, List.forall_mem_cons.mpr ⟨lw_p26, List.forall_mem_cons.mpr ⟨lw_p27, List.forall_mem_cons.mpr ⟨lw_p28, List.forall_mem_cons.mpr ⟨lw_p29, List.forall_mem_cons.mpr ⟨lw_p30, List.forall_mem_cons.mpr ⟨lw_p31, fun _ h => absurd h List.not_mem_nil⟩⟩⟩⟩⟩⟩⟩⟩⟩⟩⟩⟩⟩⟩⟩⟩
theorem lw_p32 : lw_okq (⟨"LatticePathsModel", "isGood", "(I)Z"⟩, 20) := ⟨⟨by decide +kernel, by decide +kernel⟩, List.mem_of_getElem? (i := 1190) (by decide +kernel), List.mem_of_getElem? (i := 1401) (by decide +kernel), List.mem_of_getElem? (i := 1402) (by decide +kernel)⟩
theorem lw_p33 : lw_okq (⟨"LatticePathsModel", "readsRow", "()Z"⟩, 20) := ⟨⟨by decide +kernel, by decide +kernel⟩, List.mem_of_getElem? (i := 1190) (by decide +kernel), List.mem_of_getElem? (i := 1415) (by decide +kernel), List.mem_of_getElem? (i := 1416) (by decide +kernel)⟩
theorem lw_p34 : lw_okq (⟨"LatticePathsModel", "isFree", "(I)Z"⟩, 20) := ⟨⟨by decide +kernel, by decide +kernel⟩, List.mem_of_getElem? (i := 1190) (by decide +kernel), List.mem_of_getElem? (i := 1419) (by decide +kernel), List.mem_of_getElem? (i := 1420) (by decide +kernel)⟩
theorem lw_p35 : lw_okq (⟨"LatticePathsModel", "freeAround", "(I)I"⟩, 20) := ⟨⟨by decide +kernel, by decide +kernel⟩, List.mem_of_getElem? (i := 1190) (by decide +kernel), List.mem_of_getElem? (i := 1431) (by decide +kernel), List.mem_of_getElem? (i := 1432) (by decide +kernel)⟩
theorem lw_p36 : lw_okq (⟨"LatticePathsModel", "tellsPath", "(II)I"⟩, 20) := ⟨⟨by decide +kernel, by decide +kernel⟩, List.mem_of_getElem? (i := 1190) (by decide +kernel), List.mem_of_getElem? (i := 1443) (by decide +kernel), List.mem_of_getElem? (i := 1444) (by decide +kernel)⟩
theorem lw_p37 : lw_okq (⟨"LatticePathsModel", "corners", "(I)I"⟩, 20) := ⟨⟨by decide +kernel, by decide +kernel⟩, List.mem_of_getElem? (i := 1190) (by decide +kernel), List.mem_of_getElem? (i := 1447) (by decide +kernel), List.mem_of_getElem? (i := 1448) (by decide +kernel)⟩
theorem lw_p38 : lw_okq (⟨"LatticePathsModel", "stepOf", "(II)I"⟩, 20) := ⟨⟨by decide +kernel, by decide +kernel⟩, List.mem_of_getElem? (i := 1190) (by decide +kernel), List.mem_of_getElem? (i := 1451) (by decide +kernel), List.mem_of_getElem? (i := 1452) (by decide +kernel)⟩
theorem lw_p39 : lw_okq (⟨"LatticePathsModel", "contacts", "(I)I"⟩, 20) := ⟨⟨by decide +kernel, by decide +kernel⟩, List.mem_of_getElem? (i := 1190) (by decide +kernel), List.mem_of_getElem? (i := 1455) (by decide +kernel), List.mem_of_getElem? (i := 1456) (by decide +kernel)⟩
theorem lw_p40 : lw_okq (⟨"LatticePathsModel", "span", "(IZ)I"⟩, 20) := ⟨⟨by decide +kernel, by decide +kernel⟩, List.mem_of_getElem? (i := 1190) (by decide +kernel), List.mem_of_getElem? (i := 1459) (by decide +kernel), List.mem_of_getElem? (i := 1460) (by decide +kernel)⟩
theorem lw_p41 : lw_okq (⟨"LatticePathsModel", "moment", "(I)I"⟩, 20) := ⟨⟨by decide +kernel, by decide +kernel⟩, List.mem_of_getElem? (i := 1190) (by decide +kernel), List.mem_of_getElem? (i := 1466) (by decide +kernel), List.mem_of_getElem? (i := 1467) (by decide +kernel)⟩
theorem lw_p42 : lw_okq (⟨"LatticePathsModel", "freeBeside", "(I)I"⟩, 20) := ⟨⟨by decide +kernel, by decide +kernel⟩, List.mem_of_getElem? (i := 1190) (by decide +kernel), List.mem_of_getElem? (i := 1470) (by decide +kernel), List.mem_of_getElem? (i := 1471) (by decide +kernel)⟩
theorem lw_p43 : lw_okq (⟨"LatticePathsModel", "layShape", "(I)V"⟩, 20) := ⟨⟨by decide +kernel, by decide +kernel⟩, List.mem_of_getElem? (i := 1190) (by decide +kernel), List.mem_of_getElem? (i := 1486) (by decide +kernel), List.mem_of_getElem? (i := 1487) (by decide +kernel)⟩
theorem lw_p44 : lw_okq (⟨"LatticePathsModel", "laySteps", "(II)V"⟩, 20) := ⟨⟨by decide +kernel, by decide +kernel⟩, List.mem_of_getElem? (i := 1190) (by decide +kernel), List.mem_of_getElem? (i := 1490) (by decide +kernel), List.mem_of_getElem? (i := 1491) (by decide +kernel)⟩
theorem lw_p45 : lw_okq (⟨"LatticePathsModel", "hasShapeOf", "(II)Z"⟩, 20) := ⟨⟨by decide +kernel, by decide +kernel⟩, List.mem_of_getElem? (i := 1190) (by decide +kernel), List.mem_of_getElem? (i := 1498) (by decide +kernel), List.mem_of_getElem? (i := 1499) (by decide +kernel)⟩
theorem lw_p46 : lw_okq (⟨"LatticePathsModel", "findRegions", "()V"⟩, 20) := ⟨⟨by decide +kernel, by decide +kernel⟩, List.mem_of_getElem? (i := 1190) (by decide +kernel), List.mem_of_getElem? (i := 1506) (by decide +kernel), List.mem_of_getElem? (i := 1507) (by decide +kernel)⟩
theorem lw_p47 : lw_okq (⟨"LatticePathsModel", "growRegion", "(I)V"⟩, 20) := ⟨⟨by decide +kernel, by decide +kernel⟩, List.mem_of_getElem? (i := 1190) (by decide +kernel), List.mem_of_getElem? (i := 1510) (by decide +kernel), List.mem_of_getElem? (i := 1511) (by decide +kernel)⟩
def lw_privs_3 : List (MethodName × Nat) := [(⟨"LatticePathsModel", "isGood", "(I)Z"⟩, 20), (⟨"LatticePathsModel", "readsRow", "()Z"⟩, 20), (⟨"LatticePathsModel", "isFree", "(I)Z"⟩, 20), (⟨"LatticePathsModel", "freeAround", "(I)I"⟩, 20), (⟨"LatticePathsModel", "tellsPath", "(II)I"⟩, 20), (⟨"LatticePathsModel", "corners", "(I)I"⟩, 20), (⟨"LatticePathsModel", "stepOf", "(II)I"⟩, 20), (⟨"LatticePathsModel", "contacts", "(I)I"⟩, 20), (⟨"LatticePathsModel", "span", "(IZ)I"⟩, 20), (⟨"LatticePathsModel", "moment", "(I)I"⟩, 20), (⟨"LatticePathsModel", "freeBeside", "(I)I"⟩, 20), (⟨"LatticePathsModel", "layShape", "(I)V"⟩, 20), (⟨"LatticePathsModel", "laySteps", "(II)V"⟩, 20), (⟨"LatticePathsModel", "hasShapeOf", "(II)Z"⟩, 20), (⟨"LatticePathsModel", "findRegions", "()V"⟩, 20), (⟨"LatticePathsModel", "growRegion", "(I)V"⟩, 20)]
theorem lw_r3 : ∀ q ∈ lw_privs_3, lw_okq q := List.forall_mem_cons.mpr ⟨lw_p32, List.forall_mem_cons.mpr ⟨lw_p33, List.forall_mem_cons.mpr ⟨lw_p34, List.forall_mem_cons.mpr ⟨lw_p35, List.forall_mem_cons.mpr ⟨lw_p36, List.forall_mem_cons.mpr ⟨lw_p37, List.forall_mem_cons.mpr ⟨lw_p38, List.forall_mem_cons.mpr ⟨lw_p39, List.forall_mem_cons.mpr ⟨lw_p40, List.forall_mem_cons.mpr ⟨lw_p41, List.forall_mem_cons.mpr ⟨lw_p42, List.forall_mem_cons.mpr ⟨lw_p43, List.forall_mem_cons.mpr ⟨lw_p44, List.forall_mem_cons.mpr ⟨lw_p45, List.forall_mem_cons.mpr ⟨lw_p46, List.forall_mem_cons.mpr ⟨lw_p47, fun _ h => absurd h List.not_mem_nil⟩⟩⟩⟩⟩⟩⟩⟩⟩⟩⟩⟩⟩⟩⟩⟩
theorem lw_p48 : lw_okq (⟨"LatticePathsModel", "isBeside", "(II)Z"⟩, 20) := ⟨⟨by decide +kernel, by decide +kernel⟩, List.mem_of_getElem? (i := 1190) (by decide +kernel), List.mem_of_getElem? (i := 1514) (by decide +kernel), List.mem_of_getElem? (i := 1515) (by decide +kernel)⟩
theorem lw_p49 : lw_okq (⟨"LatticePathsModel", "freeSites", "()I"⟩, 20) := ⟨⟨by decide +kernel, by decide +kernel⟩, List.mem_of_getElem? (i := 1190) (by decide +kernel), List.mem_of_getElem? (i := 1518) (by decide +kernel), List.mem_of_getElem? (i := 1519) (by decide +kernel)⟩
theorem lw_p50 : lw_okq (⟨"LatticePathsModel", "greatestRegion", "()I"⟩, 20) := ⟨⟨by decide +kernel, by decide +kernel⟩, List.mem_of_getElem? (i := 1190) (by decide +kernel), List.mem_of_getElem? (i := 1522) (by decide +kernel), List.mem_of_getElem? (i := 1523) (by decide +kernel)⟩
theorem lw_p51 : lw_okq (⟨"LatticePathsModel", "isBesideHead", "(I)Z"⟩, 20) := ⟨⟨by decide +kernel, by decide +kernel⟩, List.mem_of_getElem? (i := 1190) (by decide +kernel), List.mem_of_getElem? (i := 1526) (by decide +kernel), List.mem_of_getElem? (i := 1527) (by decide +kernel)⟩
theorem lw_p52 : lw_okq (⟨"LatticePathsModel", "waysFrom", "(II)I"⟩, 20) := ⟨⟨by decide +kernel, by decide +kernel⟩, List.mem_of_getElem? (i := 1190) (by decide +kernel), List.mem_of_getElem? (i := 1534) (by decide +kernel), List.mem_of_getElem? (i := 1535) (by decide +kernel)⟩
theorem lw_p53 : lw_okq (⟨"LatticePathsModel", "sitesInPaths", "()I"⟩, 20) := ⟨⟨by decide +kernel, by decide +kernel⟩, List.mem_of_getElem? (i := 1190) (by decide +kernel), List.mem_of_getElem? (i := 1558) (by decide +kernel), List.mem_of_getElem? (i := 1559) (by decide +kernel)⟩
def lw_privs_4 : List (MethodName × Nat) := [(⟨"LatticePathsModel", "isBeside", "(II)Z"⟩, 20), (⟨"LatticePathsModel", "freeSites", "()I"⟩, 20), (⟨"LatticePathsModel", "greatestRegion", "()I"⟩, 20), (⟨"LatticePathsModel", "isBesideHead", "(I)Z"⟩, 20), (⟨"LatticePathsModel", "waysFrom", "(II)I"⟩, 20), (⟨"LatticePathsModel", "sitesInPaths", "()I"⟩, 20)]
theorem lw_r4 : ∀ q ∈ lw_privs_4, lw_okq q := List.forall_mem_cons.mpr ⟨lw_p48, List.forall_mem_cons.mpr ⟨lw_p49, List.forall_mem_cons.mpr ⟨lw_p50, List.forall_mem_cons.mpr ⟨lw_p51, List.forall_mem_cons.mpr ⟨lw_p52, List.forall_mem_cons.mpr ⟨lw_p53, fun _ h => absurd h List.not_mem_nil⟩⟩⟩⟩⟩⟩
def lw_privs : List (MethodName × Nat) := lw_privs_1 ++ (lw_privs_2 ++ (lw_privs_3 ++ (lw_privs_4)))
def lw_tbl : List Cond := k2_sels lw_privs ++ tables_1
theorem lw_privs_ok : ∀ q ∈ lw_privs, lw_okq q := by
  show ∀ q ∈ lw_privs_1 ++ (lw_privs_2 ++ (lw_privs_3 ++ (lw_privs_4))), lw_okq q
  exact List.forall_mem_append.mpr ⟨lw_r1, List.forall_mem_append.mpr ⟨lw_r2, List.forall_mem_append.mpr ⟨lw_r3, lw_r4⟩⟩⟩
/-- the streams that the claim lets the run draw from -/
abbrev lw_cs : List Choice := [Jvm.Choice.named "NaN.bits"]
theorem lw_bits : nanBits ∈ lw_cs := by first | decide | exact List.mem_cons_self | simp [lw_cs, nanBits]
-- ===== end of PART A; then your names; then what follows =====
end
section
/-! ===== BEGIN words of one list among another's, by their places ===== -/
theorem goodIn_r {big : List Cond} (ws : List Cond) (ps : List Nat) (hp : ws = ps.filterMap (fun i => big[i]?)) (h : ws.all goodWord = true) : GoodIn big ws := by
  intro w hw
  have h1 := List.all_eq_true.mp h w hw
  rw [hp] at hw
  obtain ⟨i, -, hi⟩ := List.mem_filterMap.mp hw
  have hm : w ∈ big := by first | exact List.mem_of_getElem? hi | exact List.getElem?_mem hi
  exact ⟨hm, good_of_word h1⟩
theorem goodIn_app {big a b : List Cond} (ha : GoodIn big a) (hb : GoodIn big b) : GoodIn big (a ++ b) := fun w h => (List.mem_append.mp h).elim (ha w) (hb w)
theorem goodIn_ca {big a b : List Cond} {c : Cond} (ha : GoodIn big (c :: a)) (hb : GoodIn big b) : GoodIn big (c :: (a ++ b)) := fun w h => (List.mem_cons.mp h).elim (fun e => ha w (List.mem_cons.mpr (Or.inl e))) (fun h => (List.mem_append.mp h).elim (fun h => ha w (List.mem_cons.mpr (Or.inr h))) (hb w))
theorem goodIn_sub {big ws : List Cond} (hm : ∀ w ∈ ws, w ∈ big) (h : ws.all goodWord = true) : GoodIn big ws := fun w hw => ⟨hm w hw, good_of_word (List.all_eq_true.mp h w hw)⟩
/-! ===== END ===== -/

/-! ===== BEGIN exceptions that leave a method, and their catching by the caller (launches without stack traces) ===== -/
section VXA
/-! The laws vx_back, vx_callV, vx_callS, vx_callSW, vx_throw0, vx_throwS follow proofs of the library, with one case more: JvmDerived/Free/Laws.lean (Back.of_free), Shelf42/LK1.lean (callV, callS), Shelf/KitTraced.lean (throwNew0V, throwNewS). -/
/-- where a method has thrown q: the class by its name, the cell, what was written, the world -/
def vx_T (XC : String → State → State → Prop) (st : State) (q : Addr) (t : State) (mc ms : Nat) (free : Addr → Prop) : Prop :=
  ∃ (E : String) (ce : Cell) (L : List Loc), XC E st t ∧ t.heap[q]? = some ce ∧ ce.vm = .none ∧ st.vm.findClass E = some ce.cls ∧ st.WarmedH t.vm ∧ st.sameButNew ({ t with vm := st.vm } : State) L mc ms ∧ ∀ z ∈ L, free z.base
def vx_Q (Qc : Array Value → State → Outcome → State → Prop) (XC : String → State → State → Prop) (mc ms : Nat) (free : Addr → Prop) : Array Value → State → Outcome → State → Prop := fun a st o t =>
  (Qc a st o t ∧ ∃ L, FrameEnd st o t L mc ms ∧ ∀ q ∈ L, free q.base) ∨ ∃ q, o = .threw q ∧ vx_T XC st q t mc ms free
/-- a callee that returns or throws -/
def vx_Met (l : Launch) (y : MethodName) (ws : List Cond) (rm : Room) (Pc : Array Value → State → Prop) (Qc : Array Value → State → Outcome → State → Prop) (XC : String → State → State → Prop) (mc ms : Nat) (free : Addr → Prop) : Prop :=
  MetFree l y (headSpec ws rm) Pc (fun _ _ _ _ _ => True) (vx_Q Qc XC mc ms free)
def vx_Post (XC : String → State → State → Prop) (mc ms : Nat) (free : Addr → Prop) : Pt → Array Value → Addr → Pt → Prop := fun A a q B =>
  ∃ (g : JFrame) (mk : MethodId) (t : State) (L : List Loc) (E : String) (ce : Cell), B.U.heap = t.heap ∧ B.U.vm = t.vm ∧ XC E (A.U.calling g mk a) t ∧ t.heap[q]? = some ce ∧ ce.vm = .none ∧ A.U.vm.findClass E = some ce.cls ∧ B.locs = A.locs ++ L ∧ (∀ z ∈ L, free z.base) ∧ B.cells = A.cells + mc ∧ B.slots = A.slots + ms
def vx_Back (l : Launch) (R : Room) (p : Program) (e : Env) (below : List Frame) (s : State) (sargs : Array Value) (y : MethodName) (len W9 : Nat)
    (Pre : Pt → Array Value → Prop) (Post : Pt → Array Value → Option Value → Pt → Prop) (PostX : Pt → Array Value → Addr → Pt → Prop) : Prop :=
  ∀ (m : MethodId) (meth : Method) (c : Code) (A : Pt) (g : JFrame) (ig : Instr) (mk : MethodId) (a : Array Value),
    Stand p l e R s m sargs below meth c A.U A.locs A.cells A.slots → g.method = m → g.locals.size = c.maxLocals → decode c.code g.pc = .ok (ig, len) →
    2 * g.monitorRoom + (g.stack.map fun v => v.category).sum ≤ W9 → A.U.methodNamed? y = some mk → Pre A a →
    (∃ (v : Option Value) (B : Pt), Stand p l e R s m sargs below meth c B.U B.locs B.cells B.slots ∧ Post A a v B ∧
      Steps p.tables e below (doInvoke e (A.U.setTop g) [] mk a).1 (B.U.setTop { g with pc := g.pc + len, stack := v.toList ++ g.stack })) ∨
    (∃ (q : Addr) (B : Pt), Stand p l e R s m sargs below meth c B.U B.locs B.cells B.slots ∧ PostX A a q B ∧
      Steps p.tables e below (doInvoke e (A.U.setTop g) [] mk a).1 ((B.U.setTop g).pushFrame (.throwing q)))
section Payer
variable {l : Launch} {R : Room} {p : Program} {e : Env} {below : List Frame} {s : State} {sargs : Array Value} {y : MethodName} {len W9 : Nat}
theorem vx_back {ws : List Cond} {rm : Room} {Pc : Array Value → State → Prop} {Qc : Array Value → State → Outcome → State → Prop} {XC : String → State → State → Prop} {mc ms : Nat} {free : Addr → Prop} {bytes : ByteArray} {maxL : Nat} {ret : Option FieldType}
    (hM : vx_Met l y ws rm Pc Qc XC mc ms free) (hblind : FrameBlind Pc) (hrc : rm.cells = mc) (hrs : rm.slots = ms)
    (hframes : rm.frames + 1 ≤ R.frames) (hlocals : W9 + (maxL + 11) + rm.locals ≤ R.locals)
    (hws : ∀ w ∈ ws, ∀ a' U, s.WarmedH U.vm → w.before a' U = true) (hcode : Cond.code y bytes maxL ret ∈ ws) (hinit : ∀ a' U, s.WarmedH U.vm → (Cond.initialized y.cls).before a' U = true) :
    vx_Back l R p e below s sargs y len W9 (PreOf R mc ms Pc) (PostOf Qc mc ms free) (vx_Post XC mc ms free) := by
  intro m meth c A g ig mk a X hg hsize hdg hW hn hp
  have h1 : (headSpec ws rm).pre.before a A.U = true := atoms_intro fun w hw => hws w hw _ _ X.warmed
  have h2 : (Cond.code y bytes maxL ret).before a A.U = true := hws _ hcode _ _ X.warmed
  have h3 : (Cond.initialized y.cls).before a A.U = true := hinit _ _ X.warmed
  have h4 : A.cells + (headSpec ws rm).room.cells ≤ R.cells := by rw [show (headSpec ws rm).room.cells = mc from hrc]; exact hp.1
  have h5 : A.slots + (headSpec ws rm).room.slots ≤ R.slots := by rw [show (headSpec ws rm).room.slots = ms from hrs]; exact hp.2.1
  have hPc : Pc a (A.U.calling g mk a) := hblind _ _ _ _ hp.2.2
  obtain ⟨U, Ls, c0, s0⟩ := A
  dsimp only [Pt.U, Pt.locs, Pt.cells, Pt.slots] at h1 h2 h3 h4 h5 X hn hPc ⊢
  obtain ⟨methY, cY, hmY, hcY, -, hlY, -, -, -, -⟩ := Cond.code_spec hn h2
  obtain ⟨kY, hkY, -⟩ := className_of_methodNamed hn
  have hinitY : kY.init = .initialized := Cond.initialized_spec (findClass_of_methodNamed hn) hkY h3
  have h : At U g.method c below := by rw [hg]; exact X.here
  have hlocals9 : W9 + (maxL + 11) + (headSpec ws rm).room.locals ≤ R.locals := hlocals
  have happ : (headSpec ws rm).appliesLoose y e.platform (U.calling g mk a) = true :=
    Spec.appliesLoose_calling (g := g) h hdg hn hkY hinitY
      (X.room_calling (g := g) (R' := (headSpec ws rm).room) hsize hmY hcY hframes (by rw [hlY]; omega) h4 h5) h1
  obtain ⟨mid, hmid⟩ := h.above
  have hfr : (U.setTop g).frames = (.java g :: mid) ++ below := by rw [State.frames_setTop' g h.top, hmid]; rfl
  obtain ⟨o, s₂, hsteps, -, hend, hq⟩ := Steps.callFree hM p X.admits X.cas X.clock (acts := []) hfr happ hPc trivial
  have hq' : vx_Q Qc XC mc ms free a (U.calling g mk a) o s₂ := hq
  rw [State.frames_setTop' g h.top] at hend
  obtain ⟨g₀, hg0⟩ := Option.isSome_iff_exists.mp h.top
  obtain ⟨r, hr⟩ := State.topJava?_eq_some.mp hg0
  have hr' : (({ U with heap := s₂.heap, slotsUsed := s₂.slotsUsed } : State).setVm s₂.vm).frames = .java g₀ :: r := hr
  rcases hq' with ⟨hqc, L, hfe, hL⟩ | ⟨q, rfl, E, ce, L, hx, hce, hcv, hcl, hW₂, hsm, hL⟩
  · obtain ⟨⟨v, rfl⟩, hW₂, e2, q2, q3, q4, q5, q6⟩ := id hfe
    have e3 : s₂ = ({ (U.calling g mk a).setFrames s₂.frames with heap := s₂.heap, slotsUsed := s₂.slotsUsed } : State).setVm s₂.vm := by
      have : s₂ = ({ s₂ with vm := (U.calling g mk a).vm } : State).setVm s₂.vm := rfl
      rw [e2] at this
      exact this
    obtain ⟨c₂, i₂, len₂, hc₂, hd₂, hf₂⟩ := hend
    have hW' : U.WarmedH s₂.vm := hW₂
    have hcc : c₂ = c := by
      have h1 : s₂.code? g.method = U.code? g.method := by
        rw [State.code?_eq, State.code?_eq, hW'.alike.method?]
      exact Option.some.inj (hc₂.symm.trans (h1.trans h.code))
    subst hcc
    have hlen : len₂ = len := by rw [hdg] at hd₂; cases hd₂; rfl
    subst hlen
    have hs₂ : s₂ = (({ U with heap := s₂.heap, slotsUsed := s₂.slotsUsed } : State).setVm s₂.vm).setTop { g with pc := g.pc + len₂, stack := v.toList ++ g.stack } := by
      refine e3.trans ?_
      rw [hf₂, State.calling_eq h.top, State.setFrames_setFrames, State.setTop_of_frames _ hr', hr]
      rfl
    have hsame : U.sameButNew ({ U with heap := s₂.heap, slotsUsed := s₂.slotsUsed } : State) L mc ms := by
      refine ⟨?_, q2, q3, q4, q5, q6⟩
      obtain ⟨t, ht, -⟩ := State.frames_cons hr
      show ({ U with heap := s₂.heap, slotsUsed := s₂.slotsUsed } : State) = { U.setFrames U.frames with heap := s₂.heap, slotsUsed := s₂.slotsUsed }
      rw [State.setFrames_self ht]
    subst hg
    refine Or.inl ⟨v, ⟨(({ U with heap := s₂.heap, slotsUsed := s₂.slotsUsed } : State).setVm s₂.vm), Ls ++ L, c0 + mc, s0 + ms⟩,
      ⟨X.admits, X.cas, X.clock, X.frames, X.room, X.hears, X.method, X.code, (X.here.setHeapUsed s₂.heap s₂.slotsUsed).setVm hW'.alike, X.tail, State.WarmedH.trans X.warmed hW', X.limits, X.bytes, X.same.trans (hsame.setVm s.vm)⟩,
      ⟨g, mk, s₂, L, rfl, rfl, hqc, rfl, hL, rfl, rfl⟩, ?_⟩
    show Steps p.tables e below _ ((({ U with heap := s₂.heap, slotsUsed := s₂.slotsUsed } : State).setVm s₂.vm).setTop { g with pc := g.pc + len₂, stack := v.toList ++ g.stack })
    rw [← hs₂]
    exact hsteps
  · obtain ⟨e2, q2, q3, q4, q5, q6⟩ := id hsm
    have e3 : s₂ = ({ (U.calling g mk a).setFrames s₂.frames with heap := s₂.heap, slotsUsed := s₂.slotsUsed } : State).setVm s₂.vm := by
      have : s₂ = ({ s₂ with vm := (U.calling g mk a).vm } : State).setVm s₂.vm := rfl
      rw [e2] at this
      exact this
    have hf₂ : s₂.frames = .throwing q :: .java g :: U.frames.tail := hend
    have hW' : U.WarmedH s₂.vm := hW₂
    have hs₂ : s₂ = ((({ U with heap := s₂.heap, slotsUsed := s₂.slotsUsed } : State).setVm s₂.vm).setTop g).pushFrame (.throwing q) := by
      refine e3.trans ?_
      rw [hf₂, State.calling_eq h.top, State.setFrames_setFrames, State.pushFrame, State.frames_setTop _ hr', State.setTop_of_frames _ hr', State.setFrames_setFrames, hr]
      rfl
    have hsame : U.sameButNew ({ U with heap := s₂.heap, slotsUsed := s₂.slotsUsed } : State) L mc ms := by
      refine ⟨?_, q2, q3, q4, q5, q6⟩
      obtain ⟨t, ht, -⟩ := State.frames_cons hr
      show ({ U with heap := s₂.heap, slotsUsed := s₂.slotsUsed } : State) = { U.setFrames U.frames with heap := s₂.heap, slotsUsed := s₂.slotsUsed }
      rw [State.setFrames_self ht]
    subst hg
    refine Or.inr ⟨q, ⟨(({ U with heap := s₂.heap, slotsUsed := s₂.slotsUsed } : State).setVm s₂.vm), Ls ++ L, c0 + mc, s0 + ms⟩,
      ⟨X.admits, X.cas, X.clock, X.frames, X.room, X.hears, X.method, X.code, (X.here.setHeapUsed s₂.heap s₂.slotsUsed).setVm hW'.alike, X.tail, State.WarmedH.trans X.warmed hW', X.limits, X.bytes, X.same.trans (hsame.setVm s.vm)⟩,
      ⟨g, mk, s₂, L, E, ce, rfl, rfl, hx, hce, hcv, hcl, rfl, hL, rfl, rfl⟩, ?_⟩
    show Steps p.tables e below _ (((({ U with heap := s₂.heap, slotsUsed := s₂.slotsUsed } : State).setVm s₂.vm).setTop g).pushFrame (.throwing q))
    rw [← hs₂]
    exact hsteps
end Payer
section Calls
variable {p : Program} {l : Launch} {e : Env} {R : Room} {s : State} {m : MethodId} {args : Array Value} {below : List Frame} {meth : Method} {c : Code} {T : State} {locs : List Loc} {cells slots : Nat}
theorem vx_callV (X : Stand p l e R s m args below meth c T locs cells slots) (hexec : p.tables.exec = Jvm.exec) {own C : String} {index : Nat} {y : MethodName} {bytes : ByteArray} {maxL : Nat} {ret : Option FieldType}
    (hown : s.vm.findClass own = some m.cls) (hlink : (Cond.methodLink own index y).before args s = true) (hinst : (Cond.instanceMethod y).before args s = true) (hsel : (Cond.selects C y y).before args s = true)
    (hcode : (Cond.code y bytes maxL ret).before args s = true) (hy : y.cls ≠ "java/lang/invoke/MethodHandle" ∧ y.cls ≠ "java/lang/invoke/VarHandle")
    {W9 : Nat} {Pre : Pt → Array Value → Prop} {Post : Pt → Array Value → Option Value → Pt → Prop} {PostX : Pt → Array Value → Addr → Pt → Prop} (hK : vx_Back l R p e below s args y 3 W9 Pre Post PostX)
    {b : Addr} {cellB : Cell} (hcell : T.heap[b]? = some cellB) (hobj : cellB.vm.isStatics = false) (hcls : s.vm.findClass C = some cellB.cls)
    {g : JFrame} (hg : g.method = m) (hsize : g.locals.size = c.maxLocals) {argsL rest : List Value} (hlen : ∀ sig, parseMethodDescriptor y.desc = some sig → argsL.length = sig.parameters.length)
    (hstack : g.stack = argsL.reverse ++ .ref b :: rest) (hW : 2 * g.monitorRoom + (rest.map fun v => v.category).sum ≤ W9) (hdg : decode c.code g.pc = .ok (.invokevirtual index, 3))
    (hpre : ∀ vm₁, s.WarmedH vm₁ → Pre ⟨T.setVm vm₁, locs, cells, slots⟩ (Value.ref b :: argsL).toArray) :
    (∃ (v : Option Value) (vm₁ : Vm) (B : Pt), s.WarmedH vm₁ ∧ Stand p l e R s m args below meth c B.U B.locs B.cells B.slots ∧ Post ⟨T.setVm vm₁, locs, cells, slots⟩ (Value.ref b :: argsL).toArray v B ∧
      ∀ target, Steps p.tables e below (B.U.setTop { g with pc := g.pc + 3, stack := v.toList ++ rest }) target → Steps p.tables e below (T.setTop g) target) ∨
    (∃ (q : Addr) (vm₁ : Vm) (B : Pt), s.WarmedH vm₁ ∧ Stand p l e R s m args below meth c B.U B.locs B.cells B.slots ∧ PostX ⟨T.setVm vm₁, locs, cells, slots⟩ (Value.ref b :: argsL).toArray q B ∧
      Steps p.tables e below (T.setTop g) ((B.U.setTop { g with stack := rest }).pushFrame (.throwing q))) := by
  obtain ⟨mk, methM, hnamed, hmethM, hstM, habM⟩ := Cond.instanceMethod_spec hinst
  obtain ⟨methM', cM, hmethM', -, -, -, -, -, -, hsigM⟩ := Cond.code_spec hnamed hcode
  cases hmethM.symm.trans hmethM'
  obtain ⟨c2, r2, m2, q1, q2, q3, q4, kP, hkP, hkPi⟩ := Cond.selects_spec hsel
  cases hcls.symm.trans q1
  cases (State.methodFound?_of_named hnamed hy).symm.trans q2
  cases hnamed.symm.trans q3
  have hselP : selectMethod e.platform s.vm cellB.cls mk = .method mk := by rw [Launch.admits_selectMethod X.admits]; exact q4
  obtain ⟨vm₁, X₁, hstep₁⟩ := X.invokevirtual hexec hown hlink hnamed hmethM hstM hkP hkPi hy (a := b) (cell := cellB) hcell
    (fun z h => by rw [h] at hobj; cases hobj) hselP hmethM habM hkP hkPi (g := g) hg (argsL := argsL) (rest := rest) (hlen _ hsigM) hstack hdg
  rcases hK m meth c ⟨T.setVm vm₁, locs, cells, slots⟩ { g with stack := rest } (.invokevirtual index) mk (Value.ref b :: argsL).toArray X₁ hg hsize hdg hW (X₁.named hnamed) (hpre vm₁ X₁.warmed) with ⟨v, B, X', hpost, hsteps⟩ | ⟨q, B, X', hpost, hsteps⟩
  · exact Or.inl ⟨v, vm₁, B, X₁.warmed, X', hpost, fun target h => hstep₁ _ fun acts => by rw [doInvoke_state]; exact hsteps.trans h⟩
  · exact Or.inr ⟨q, vm₁, B, X₁.warmed, X', hpost, hstep₁ _ fun acts => by rw [doInvoke_state]; exact hsteps⟩
theorem vx_callS (X : Stand p l e R s m args below meth c T locs cells slots) (hexec : p.tables.exec = Jvm.exec) {own : String} {index : Nat} {y : MethodName} {bytes : ByteArray} {maxL : Nat} {ret : Option FieldType}
    (hown : s.vm.findClass own = some m.cls) (hlink : (Cond.methodLink own index y).before args s = true) (hstat : (Cond.static y).before args s = true) (hinit : (Cond.initialized y.cls).before args s = true)
    (hcode : (Cond.code y bytes maxL ret).before args s = true) (hy : y.cls ≠ "java/lang/invoke/MethodHandle" ∧ y.cls ≠ "java/lang/invoke/VarHandle")
    {W9 : Nat} {Pre : Pt → Array Value → Prop} {Post : Pt → Array Value → Option Value → Pt → Prop} {PostX : Pt → Array Value → Addr → Pt → Prop} (hK : vx_Back l R p e below s args y 3 W9 Pre Post PostX)
    {g : JFrame} (hg : g.method = m) (hsize : g.locals.size = c.maxLocals) {argsL rest : List Value} (hlen : ∀ sig, parseMethodDescriptor y.desc = some sig → argsL.length = sig.parameters.length)
    (hstack : g.stack = argsL.reverse ++ rest) (hW : 2 * g.monitorRoom + (rest.map fun v => v.category).sum ≤ W9) (hdg : decode c.code g.pc = .ok (.invokestatic index, 3))
    (hpre : ∀ vm₁, s.WarmedH vm₁ → Pre ⟨T.setVm vm₁, locs, cells, slots⟩ argsL.toArray) :
    (∃ (v : Option Value) (vm₁ : Vm) (B : Pt), s.WarmedH vm₁ ∧ Stand p l e R s m args below meth c B.U B.locs B.cells B.slots ∧ Post ⟨T.setVm vm₁, locs, cells, slots⟩ argsL.toArray v B ∧
      ∀ target, Steps p.tables e below (B.U.setTop { g with pc := g.pc + 3, stack := v.toList ++ rest }) target → Steps p.tables e below (T.setTop g) target) ∨
    (∃ (q : Addr) (vm₁ : Vm) (B : Pt), s.WarmedH vm₁ ∧ Stand p l e R s m args below meth c B.U B.locs B.cells B.slots ∧ PostX ⟨T.setVm vm₁, locs, cells, slots⟩ argsL.toArray q B ∧
      Steps p.tables e below (T.setTop g) ((B.U.setTop { g with stack := rest }).pushFrame (.throwing q))) := by
  obtain ⟨mk, hnamed⟩ := Cond.code_named hcode
  obtain ⟨methM, cM, hmethM, -, -, -, -, -, -, hsigM⟩ := Cond.code_spec hnamed hcode
  have hstatic : methM.isStatic = true := Cond.static_spec hnamed hmethM hstat
  obtain ⟨kP, hkP, -⟩ := className_of_methodNamed hnamed
  have hinitP : kP.init = .initialized := Cond.initialized_spec (findClass_of_methodNamed hnamed) hkP hinit
  obtain ⟨vm₁, X₁, hstep₁⟩ := X.invokestatic hexec hown hlink hnamed hmethM hstatic hkP hinitP hy (g := g) hg (argsL := argsL) (rest := rest) (hlen _ hsigM) hstack hdg
  rcases hK m meth c ⟨T.setVm vm₁, locs, cells, slots⟩ { g with stack := rest } (.invokestatic index) mk argsL.toArray X₁ hg hsize hdg hW (X₁.named hnamed) (hpre vm₁ X₁.warmed) with ⟨v, B, X', hpost, hsteps⟩ | ⟨q, B, X', hpost, hsteps⟩
  · exact Or.inl ⟨v, vm₁, B, X₁.warmed, X', hpost, fun target h => hstep₁ _ fun acts => by rw [doInvoke_state]; exact hsteps.trans h⟩
  · exact Or.inr ⟨q, vm₁, B, X₁.warmed, X', hpost, hstep₁ _ fun acts => by rw [doInvoke_state]; exact hsteps⟩
end Calls
theorem vx_cls {s : State} {T : State} {vm₁ : Vm} {E : String} {k : ClassId} (hW : s.WarmedH vm₁) (h : (T.setVm vm₁).vm.findClass E = some k) : s.vm.findClass E = some k := by
  have h1 : vm₁.findClass E = some k := h
  rw [hW.alike.findClass] at h1
  exact h1
/-- the method's frame g, with q thrown over it -/
def vx_W (p : Program) (l : Launch) (e : Env) (R : Room) (s : State) (m : MethodId) (args : Array Value) (below : List Frame) (meth : Method) (c : Code) (H : Heap) (locs : List Loc) (cells slots : Nat) (Q : State → Prop) (g : JFrame) (q : Addr) : Prop :=
  ∀ T : State, T.heap = H → Stand p l e R s m args below meth c T locs cells slots → ∃ t, Steps p.tables e below ((T.setTop g).pushFrame (.throwing q)) t ∧ Q t
def vx_Run (p : Program) (l : Launch) (e : Env) (R : Room) (s : State) (m : MethodId) (args : Array Value) (below : List Frame) (meth : Method) (c : Code) (H : Heap) (locs : List Loc) (cells slots mc ms : Nat) (g : JFrame) (rest : List Value) (Qa : State → Outcome → State → Prop) (XC : String → State → State → Prop) (free : Addr → Prop) : Prop :=
  ∀ T : State, T.heap = H → Stand p l e R s m args below meth c T locs cells slots →
    (∃ (v : Option Value) (st₀ t T' : State) (L : List Loc), st₀.heap = H ∧ Stand p l e R s m args below meth c T' (locs ++ L) (cells + mc) (slots + ms) ∧ (∀ q ∈ L, free q.base) ∧ T'.heap = t.heap ∧ T'.vm = t.vm ∧ Qa st₀ (.returned v) t ∧
      Goes p e below T g T' { g with pc := g.pc + 3, stack := v.toList ++ rest }) ∨
    (∃ (q : Addr) (st₀ t T' : State) (L : List Loc) (E : String) (ce : Cell), st₀.heap = H ∧ Stand p l e R s m args below meth c T' (locs ++ L) (cells + mc) (slots + ms) ∧ (∀ z ∈ L, free z.base) ∧ T'.heap = t.heap ∧ T'.vm = t.vm ∧ XC E st₀ t ∧ t.heap[q]? = some ce ∧ ce.vm = .none ∧ s.vm.findClass E = some ce.cls ∧
      Steps p.tables e below (T.setTop g) ((T'.setTop { g with stack := rest }).pushFrame (.throwing q)))
def vx_X {S : Type} (px : S → Prop) (B : String → S → State → Prop) (A : Nat → Prop) : String → State → State → Prop := fun E st t => ∃ u : S, px u ∧ B E u t ∧ va_F A st t
section Runs
variable {p : Program} {l : Launch} {e : Env} {R : Room} {s : State} {m : MethodId} {args : Array Value} {below : List Frame} {meth : Method} {c : Code} {H : Heap} {locs : List Loc} {cells slots : Nat}
variable {y : MethodName} {bytes cc : ByteArray} {maxL nL mc ms n index : Nat} {ret : Option FieldType} {ws : List Cond} {rm : Room} {Pc : Array Value → State → Prop} {Qc : Array Value → State → Outcome → State → Prop} {XC : String → State → State → Prop} {free : Addr → Prop} {Ts : List Cond} {own C : String} {b : Addr} {As rest : List Value} {g : JFrame}
theorem vx_callBack (cb : CallB R s args own index y bytes maxL ret ws rm mc ms n) (hM : vx_Met l y ws rm Pc Qc XC mc ms free) (hbl : FrameBlind Pc) : vx_Back l R p e below s args y 3 8 (PreOf R mc ms Pc) (PostOf Qc mc ms free) (vx_Post XC mc ms free) := by
  obtain ⟨hrc, hrs, hfr, hlo, hws, hcw, -, hini, -⟩ := cb
  exact vx_back (bytes := bytes) (maxL := maxL) (ret := ret) hM hbl hrc hrs hfr hlo hws hcw (fun a' U hW => word_at hW (Or.inl (by first | rfl | simp [Cond.onTables, Cond.keeps, Cond.steady])) hini)
theorem vx_runV (S : CallFix p m c cc nL s args Ts own) (hM : vx_Met l y ws rm Pc Qc XC mc ms free) (cw : CallW R s args own C index y bytes maxL ret ws rm mc ms n) (hp : PreV s H C b Pc As)
    (hg : g.method = m) (hn : As.length = n) (hsize : g.locals.size = nL) (hstack : g.stack = As.reverse ++ .ref b :: rest) (hW : 2 * g.monitorRoom + (rest.map fun v => v.category).sum ≤ 8) (hdg : decode cc g.pc = .ok (.invokevirtual index, 3)) (hf : cells + mc ≤ R.cells ∧ slots + ms ≤ R.slots) :
    vx_Run p l e R s m args below meth c H locs cells slots mc ms g rest (Qc (Value.ref b :: As).toArray) XC free := by
  have hK : vx_Back l R p e below s args y 3 8 (PreOf R mc ms Pc) (PostOf Qc mc ms free) (vx_Post XC mc ms free) := vx_callBack cw.1 hM hp.1
  obtain ⟨⟨-, -, -, -, -, -, hcode, -, hy, hlen, hl⟩, hin, hse⟩ := cw
  obtain ⟨hx, hb, hml, ho, -⟩ := S
  obtain ⟨-, ⟨cellB, hcB, hoB, hclB⟩, hPc⟩ := hp
  intro T hT X
  rcases vx_callV X hx (C := C) (bytes := bytes) (maxL := maxL) (ret := ret) ho hl hin hse hcode hy hK (by rw [hT]; exact hcB) hoB hclB hg (hsize.trans hml.symm) (argsL := As) (rest := rest) (fun sig h => hn.trans (hlen sig h)) hstack hW (by rw [hb]; exact hdg)
    (fun vm₁ hW₁ => ⟨hf.1, hf.2, hPc (T.setVm vm₁) hT hW₁⟩) with ⟨v, vm₁, ⟨U', l2, c2, s2⟩, hW₁, X', ⟨g', mk, t, L, e1, e2, hq, h1, hL, h2, h3⟩, st⟩ | ⟨q, vm₁, ⟨U', l2, c2, s2⟩, hW₁, X', ⟨g', mk, t, L, E, ce, e1, e2, hq, hce, hcv, hcl, h1, hL, h2, h3⟩, st⟩
  · dsimp only [Pt.U, Pt.locs, Pt.cells, Pt.slots] at X' e1 e2 h1 h2 h3 st
    subst h1; subst h2; subst h3
    exact Or.inl ⟨v, (T.setVm vm₁).calling g' mk (Value.ref b :: As).toArray, t, U', L, hT, X', hL, e1, e2, hq, st⟩
  · dsimp only [Pt.U, Pt.locs, Pt.cells, Pt.slots] at X' e1 e2 h1 h2 h3 st hcl
    subst h1; subst h2; subst h3
    exact Or.inr ⟨q, (T.setVm vm₁).calling g' mk (Value.ref b :: As).toArray, t, U', L, E, ce, hT, X', hL, e1, e2, hq, hce, hcv, vx_cls hW₁ hcl, st⟩
theorem vx_runS (S : CallFix p m c cc nL s args Ts own) (hM : vx_Met l y ws rm Pc Qc XC mc ms free) (cw : CallB R s args own index y bytes maxL ret ws rm mc ms n ∧ (Cond.static y).before args s = true) (hp : PreS s H Pc As)
    (hg : g.method = m) (hn : As.length = n) (hsize : g.locals.size = nL) (hstack : g.stack = As.reverse ++ rest) (hW : 2 * g.monitorRoom + (rest.map fun v => v.category).sum ≤ 8) (hdg : decode cc g.pc = .ok (.invokestatic index, 3)) (hf : cells + mc ≤ R.cells ∧ slots + ms ≤ R.slots) :
    vx_Run p l e R s m args below meth c H locs cells slots mc ms g rest (Qc As.toArray) XC free := by
  have hK : vx_Back l R p e below s args y 3 8 (PreOf R mc ms Pc) (PostOf Qc mc ms free) (vx_Post XC mc ms free) := vx_callBack cw.1 hM hp.1
  obtain ⟨⟨-, -, -, -, -, -, hcode, hini, hy, hlen, hl⟩, hstt⟩ := cw
  obtain ⟨hx, hb, hml, ho, -⟩ := S
  intro T hT X
  rcases vx_callS X hx (bytes := bytes) (maxL := maxL) (ret := ret) ho hl hstt hini hcode hy hK hg (hsize.trans hml.symm) (argsL := As) (rest := rest) (fun sig h => hn.trans (hlen sig h)) hstack hW (by rw [hb]; exact hdg)
    (fun vm₁ hW₁ => ⟨hf.1, hf.2, hp.2 (T.setVm vm₁) hT hW₁⟩) with ⟨v, vm₁, ⟨U', l2, c2, s2⟩, hW₁, X', ⟨g', mk, t, L, e1, e2, hq, h1, hL, h2, h3⟩, st⟩ | ⟨q, vm₁, ⟨U', l2, c2, s2⟩, hW₁, X', ⟨g', mk, t, L, E, ce, e1, e2, hq, hce, hcv, hcl, h1, hL, h2, h3⟩, st⟩
  · dsimp only [Pt.U, Pt.locs, Pt.cells, Pt.slots] at X' e1 e2 h1 h2 h3 st
    subst h1; subst h2; subst h3
    exact Or.inl ⟨v, (T.setVm vm₁).calling g' mk As.toArray, t, U', L, hT, X', hL, e1, e2, hq, st⟩
  · dsimp only [Pt.U, Pt.locs, Pt.cells, Pt.slots] at X' e1 e2 h1 h2 h3 st hcl
    subst h1; subst h2; subst h3
    exact Or.inr ⟨q, (T.setVm vm₁).calling g' mk As.toArray, t, U', L, E, ce, hT, X', hL, e1, e2, hq, hce, hcv, vx_cls hW₁ hcl, st⟩
end Runs
section Rows
variable {p : Program} {l : Launch} {e : Env} {R : Room} {s : State} {m : MethodId} {args : Array Value} {below : List Frame} {meth : Method} {c : Code} {H : Heap} {locs : List Loc} {cells slots : Nat} {Q : State → Prop}
variable {mc ms : Nat} {free : Addr → Prop} {A0 A1 : Nat → Prop} {H0 : Heap} {a : Array Value} {pc : Nat} {ls : Array Slot} {st0 rest : List Value}
theorem vx_keep {st₀ t T' : State} {L : List Loc} (h0 : st₀.heap = H) (e1 : T'.heap = t.heap) (hS : va_S A0 H0 H locs) (hA : ∀ q, q < H.size → A1 q → A0 q) (hf : ∀ q, free q → A0 q) (hL : ∀ q ∈ L, free q.base) (hF : va_F A1 st₀ t) :
    H.size ≤ T'.heap.size ∧ (∀ q : Nat, q < H.size → ¬ A1 q → T'.heap[q]? = H[q]?) ∧ va_S A0 H0 T'.heap (locs ++ L) := by
  obtain ⟨hz, hk⟩ := hF
  rw [h0] at hz hk
  exact ⟨by rw [e1]; exact hz, fun q h1 h2 => by rw [e1]; exact hk q h1 h2,
    ⟨Nat.le_trans hS.1 (by rw [e1]; exact hz), fun q h1 h2 => by rw [e1, hk q (Nat.lt_of_lt_of_le h1 hS.1) (fun z => h2 (hA q (Nat.lt_of_lt_of_le h1 hS.1) z))]; exact hS.2.1 q h1 h2, fun q hq => by
      rcases List.mem_append.mp hq with h | h
      · exact hS.2.2 q h
      · exact hf _ (hL q h)⟩⟩
theorem vx_calli {S SX : Type} {post : Int32 → S → Prop} {px : SX → Prop} {B : S → State → Prop} {BX : String → SX → State → Prop} {AX : Nat → Prop} (hr : vx_Run p l e R s m args below meth c H locs cells slots mc ms (F0 m pc ls st0) rest (va_Qi post B A1 a) (vx_X px BX AX) free) (hS : va_S A0 H0 H locs) (hA : ∀ q, q < H.size → A1 q → A0 q) (hf : ∀ q, free q → A0 q) (hAX : ∀ q, q < H.size → AX q → A0 q)
    (kx : ∀ (E : String) (ce : Cell) (q9 : Addr) (u : SX) (t : State) (H1 : Heap) (locs1 : List Loc), t.heap = H1 → s.vm.Alike t.vm → px u → BX E u t → H.size ≤ H1.size → (∀ q : Nat, q < H.size → ¬ AX q → H1[q]? = H[q]?) → va_S A0 H0 H1 locs1 → H1[q9]? = some ce → ce.vm = .none → s.vm.findClass E = some ce.cls → vx_W p l e R s m args below meth c H1 locs1 (cells + mc) (slots + ms) Q (F0 m pc ls rest) q9)
    (kk : ∀ (r : Int32) (u : S) (t : State) (H1 : Heap) (locs1 : List Loc), t.heap = H1 → s.vm.Alike t.vm → post r u → B u t → H.size ≤ H1.size → (∀ q : Nat, q < H.size → ¬ A1 q → H1[q]? = H[q]?) → va_S A0 H0 H1 locs1 → W p l e R s m args below meth c H1 locs1 (cells + mc) (slots + ms) Q (F0 m (pc + 3) ls (.int r :: rest))) : W p l e R s m args below meth c H locs cells slots Q (F0 m pc ls st0) := by
  intro T hT X
  rcases hr T hT X with ⟨v, st₀, t, T', L, h0, X', hL, e1, e2, ⟨⟨r, u, hv, hp, hb⟩, hF⟩, st⟩ | ⟨q, st₀, t, T', L, E, ce, h0, X', hL, e1, e2, ⟨u, hp, hb, hF⟩, hce, hcv, hcl, st⟩
  · cases hv
    obtain ⟨k1, k2, k3⟩ := vx_keep h0 e1 hS hA hf hL hF
    obtain ⟨t2, a1, b1⟩ := kk r u t T'.heap (locs ++ L) e1.symm (by rw [← e2]; exact X'.warmed.alike) hp hb k1 k2 k3 T' rfl X'
    exact ⟨t2, st t2 a1, b1⟩
  · obtain ⟨k1, k2, k3⟩ := vx_keep h0 e1 hS hAX hf hL hF
    obtain ⟨t2, a1, b1⟩ := kx E ce q u t T'.heap (locs ++ L) e1.symm (by rw [← e2]; exact X'.warmed.alike) hp hb k1 k2 k3 (by rw [e1]; exact hce) hcv hcl T' rfl X'
    exact ⟨t2, st.trans a1, b1⟩
theorem vx_calll {S SX : Type} {post : Int64 → S → Prop} {px : SX → Prop} {B : S → State → Prop} {BX : String → SX → State → Prop} {AX : Nat → Prop} (hr : vx_Run p l e R s m args below meth c H locs cells slots mc ms (F0 m pc ls st0) rest (va_Ql post B A1 a) (vx_X px BX AX) free) (hS : va_S A0 H0 H locs) (hA : ∀ q, q < H.size → A1 q → A0 q) (hf : ∀ q, free q → A0 q) (hAX : ∀ q, q < H.size → AX q → A0 q)
    (kx : ∀ (E : String) (ce : Cell) (q9 : Addr) (u : SX) (t : State) (H1 : Heap) (locs1 : List Loc), t.heap = H1 → s.vm.Alike t.vm → px u → BX E u t → H.size ≤ H1.size → (∀ q : Nat, q < H.size → ¬ AX q → H1[q]? = H[q]?) → va_S A0 H0 H1 locs1 → H1[q9]? = some ce → ce.vm = .none → s.vm.findClass E = some ce.cls → vx_W p l e R s m args below meth c H1 locs1 (cells + mc) (slots + ms) Q (F0 m pc ls rest) q9)
    (kk : ∀ (r : Int64) (u : S) (t : State) (H1 : Heap) (locs1 : List Loc), t.heap = H1 → s.vm.Alike t.vm → post r u → B u t → H.size ≤ H1.size → (∀ q : Nat, q < H.size → ¬ A1 q → H1[q]? = H[q]?) → va_S A0 H0 H1 locs1 → W p l e R s m args below meth c H1 locs1 (cells + mc) (slots + ms) Q (F0 m (pc + 3) ls (.long r :: rest))) : W p l e R s m args below meth c H locs cells slots Q (F0 m pc ls st0) := by
  intro T hT X
  rcases hr T hT X with ⟨v, st₀, t, T', L, h0, X', hL, e1, e2, ⟨⟨r, u, hv, hp, hb⟩, hF⟩, st⟩ | ⟨q, st₀, t, T', L, E, ce, h0, X', hL, e1, e2, ⟨u, hp, hb, hF⟩, hce, hcv, hcl, st⟩
  · cases hv
    obtain ⟨k1, k2, k3⟩ := vx_keep h0 e1 hS hA hf hL hF
    obtain ⟨t2, a1, b1⟩ := kk r u t T'.heap (locs ++ L) e1.symm (by rw [← e2]; exact X'.warmed.alike) hp hb k1 k2 k3 T' rfl X'
    exact ⟨t2, st t2 a1, b1⟩
  · obtain ⟨k1, k2, k3⟩ := vx_keep h0 e1 hS hAX hf hL hF
    obtain ⟨t2, a1, b1⟩ := kx E ce q u t T'.heap (locs ++ L) e1.symm (by rw [← e2]; exact X'.warmed.alike) hp hb k1 k2 k3 (by rw [e1]; exact hce) hcv hcl T' rfl X'
    exact ⟨t2, st.trans a1, b1⟩
theorem vx_callf {S SX : Type} {post : UInt32 → S → Prop} {px : SX → Prop} {B : S → State → Prop} {BX : String → SX → State → Prop} {AX : Nat → Prop} (hr : vx_Run p l e R s m args below meth c H locs cells slots mc ms (F0 m pc ls st0) rest (va_Qf post B A1 a) (vx_X px BX AX) free) (hS : va_S A0 H0 H locs) (hA : ∀ q, q < H.size → A1 q → A0 q) (hf : ∀ q, free q → A0 q) (hAX : ∀ q, q < H.size → AX q → A0 q)
    (kx : ∀ (E : String) (ce : Cell) (q9 : Addr) (u : SX) (t : State) (H1 : Heap) (locs1 : List Loc), t.heap = H1 → s.vm.Alike t.vm → px u → BX E u t → H.size ≤ H1.size → (∀ q : Nat, q < H.size → ¬ AX q → H1[q]? = H[q]?) → va_S A0 H0 H1 locs1 → H1[q9]? = some ce → ce.vm = .none → s.vm.findClass E = some ce.cls → vx_W p l e R s m args below meth c H1 locs1 (cells + mc) (slots + ms) Q (F0 m pc ls rest) q9)
    (kk : ∀ (r : UInt32) (u : S) (t : State) (H1 : Heap) (locs1 : List Loc), t.heap = H1 → s.vm.Alike t.vm → post r u → B u t → H.size ≤ H1.size → (∀ q : Nat, q < H.size → ¬ A1 q → H1[q]? = H[q]?) → va_S A0 H0 H1 locs1 → W p l e R s m args below meth c H1 locs1 (cells + mc) (slots + ms) Q (F0 m (pc + 3) ls (.float r :: rest))) : W p l e R s m args below meth c H locs cells slots Q (F0 m pc ls st0) := by
  intro T hT X
  rcases hr T hT X with ⟨v, st₀, t, T', L, h0, X', hL, e1, e2, ⟨⟨r, u, hv, hp, hb⟩, hF⟩, st⟩ | ⟨q, st₀, t, T', L, E, ce, h0, X', hL, e1, e2, ⟨u, hp, hb, hF⟩, hce, hcv, hcl, st⟩
  · cases hv
    obtain ⟨k1, k2, k3⟩ := vx_keep h0 e1 hS hA hf hL hF
    obtain ⟨t2, a1, b1⟩ := kk r u t T'.heap (locs ++ L) e1.symm (by rw [← e2]; exact X'.warmed.alike) hp hb k1 k2 k3 T' rfl X'
    exact ⟨t2, st t2 a1, b1⟩
  · obtain ⟨k1, k2, k3⟩ := vx_keep h0 e1 hS hAX hf hL hF
    obtain ⟨t2, a1, b1⟩ := kx E ce q u t T'.heap (locs ++ L) e1.symm (by rw [← e2]; exact X'.warmed.alike) hp hb k1 k2 k3 (by rw [e1]; exact hce) hcv hcl T' rfl X'
    exact ⟨t2, st.trans a1, b1⟩
theorem vx_calld {S SX : Type} {post : UInt64 → S → Prop} {px : SX → Prop} {B : S → State → Prop} {BX : String → SX → State → Prop} {AX : Nat → Prop} (hr : vx_Run p l e R s m args below meth c H locs cells slots mc ms (F0 m pc ls st0) rest (va_Qd post B A1 a) (vx_X px BX AX) free) (hS : va_S A0 H0 H locs) (hA : ∀ q, q < H.size → A1 q → A0 q) (hf : ∀ q, free q → A0 q) (hAX : ∀ q, q < H.size → AX q → A0 q)
    (kx : ∀ (E : String) (ce : Cell) (q9 : Addr) (u : SX) (t : State) (H1 : Heap) (locs1 : List Loc), t.heap = H1 → s.vm.Alike t.vm → px u → BX E u t → H.size ≤ H1.size → (∀ q : Nat, q < H.size → ¬ AX q → H1[q]? = H[q]?) → va_S A0 H0 H1 locs1 → H1[q9]? = some ce → ce.vm = .none → s.vm.findClass E = some ce.cls → vx_W p l e R s m args below meth c H1 locs1 (cells + mc) (slots + ms) Q (F0 m pc ls rest) q9)
    (kk : ∀ (r : UInt64) (u : S) (t : State) (H1 : Heap) (locs1 : List Loc), t.heap = H1 → s.vm.Alike t.vm → post r u → B u t → H.size ≤ H1.size → (∀ q : Nat, q < H.size → ¬ A1 q → H1[q]? = H[q]?) → va_S A0 H0 H1 locs1 → W p l e R s m args below meth c H1 locs1 (cells + mc) (slots + ms) Q (F0 m (pc + 3) ls (.double r :: rest))) : W p l e R s m args below meth c H locs cells slots Q (F0 m pc ls st0) := by
  intro T hT X
  rcases hr T hT X with ⟨v, st₀, t, T', L, h0, X', hL, e1, e2, ⟨⟨r, u, hv, hp, hb⟩, hF⟩, st⟩ | ⟨q, st₀, t, T', L, E, ce, h0, X', hL, e1, e2, ⟨u, hp, hb, hF⟩, hce, hcv, hcl, st⟩
  · cases hv
    obtain ⟨k1, k2, k3⟩ := vx_keep h0 e1 hS hA hf hL hF
    obtain ⟨t2, a1, b1⟩ := kk r u t T'.heap (locs ++ L) e1.symm (by rw [← e2]; exact X'.warmed.alike) hp hb k1 k2 k3 T' rfl X'
    exact ⟨t2, st t2 a1, b1⟩
  · obtain ⟨k1, k2, k3⟩ := vx_keep h0 e1 hS hAX hf hL hF
    obtain ⟨t2, a1, b1⟩ := kx E ce q u t T'.heap (locs ++ L) e1.symm (by rw [← e2]; exact X'.warmed.alike) hp hb k1 k2 k3 (by rw [e1]; exact hce) hcv hcl T' rfl X'
    exact ⟨t2, st.trans a1, b1⟩
theorem vx_callv {S SX : Type} {post : S → Prop} {px : SX → Prop} {B : S → State → Prop} {BX : String → SX → State → Prop} {AX : Nat → Prop} (hr : vx_Run p l e R s m args below meth c H locs cells slots mc ms (F0 m pc ls st0) rest (va_Qv post B A1 a) (vx_X px BX AX) free) (hS : va_S A0 H0 H locs) (hA : ∀ q, q < H.size → A1 q → A0 q) (hf : ∀ q, free q → A0 q) (hAX : ∀ q, q < H.size → AX q → A0 q)
    (kx : ∀ (E : String) (ce : Cell) (q9 : Addr) (u : SX) (t : State) (H1 : Heap) (locs1 : List Loc), t.heap = H1 → s.vm.Alike t.vm → px u → BX E u t → H.size ≤ H1.size → (∀ q : Nat, q < H.size → ¬ AX q → H1[q]? = H[q]?) → va_S A0 H0 H1 locs1 → H1[q9]? = some ce → ce.vm = .none → s.vm.findClass E = some ce.cls → vx_W p l e R s m args below meth c H1 locs1 (cells + mc) (slots + ms) Q (F0 m pc ls rest) q9)
    (kk : ∀ (u : S) (t : State) (H1 : Heap) (locs1 : List Loc), t.heap = H1 → s.vm.Alike t.vm → post u → B u t → H.size ≤ H1.size → (∀ q : Nat, q < H.size → ¬ A1 q → H1[q]? = H[q]?) → va_S A0 H0 H1 locs1 → W p l e R s m args below meth c H1 locs1 (cells + mc) (slots + ms) Q (F0 m (pc + 3) ls (rest))) : W p l e R s m args below meth c H locs cells slots Q (F0 m pc ls st0) := by
  intro T hT X
  rcases hr T hT X with ⟨v, st₀, t, T', L, h0, X', hL, e1, e2, ⟨⟨u, hv, hp, hb⟩, hF⟩, st⟩ | ⟨q, st₀, t, T', L, E, ce, h0, X', hL, e1, e2, ⟨u, hp, hb, hF⟩, hce, hcv, hcl, st⟩
  · cases hv
    obtain ⟨k1, k2, k3⟩ := vx_keep h0 e1 hS hA hf hL hF
    obtain ⟨t2, a1, b1⟩ := kk u t T'.heap (locs ++ L) e1.symm (by rw [← e2]; exact X'.warmed.alike) hp hb k1 k2 k3 T' rfl X'
    exact ⟨t2, st t2 a1, b1⟩
  · obtain ⟨k1, k2, k3⟩ := vx_keep h0 e1 hS hAX hf hL hF
    obtain ⟨t2, a1, b1⟩ := kx E ce q u t T'.heap (locs ++ L) e1.symm (by rw [← e2]; exact X'.warmed.alike) hp hb k1 k2 k3 (by rw [e1]; exact hce) hcv hcl T' rfl X'
    exact ⟨t2, st.trans a1, b1⟩
/-- caught by the row x of this method's table; the rows ahead don't take it -/
theorem vx_catch {own name : String} {E : String} {ce : Cell} {q : Addr} (hown : s.vm.findClass own = some m.cls) (pre : List ExceptionTableEntry) (x : ExceptionTableEntry) (suf : List ExceptionTableEntry) (hsplit : c.exceptionTable.toList = pre ++ x :: suf)
    (hpass : ∀ z ∈ pre, covers z pc = false ∨ (z.catchType ≠ 0 ∧ ∃ nm : String, (Cond.classLink own z.catchType nm).before args s = true ∧ va_Nc E nm s)) (hx : covers x pc = true) (h0 : x.catchType ≠ 0)
    (hlink : (Cond.classLink own x.catchType name).before args s = true) (hcast : (Cond.castable E name).before args s = true) (hcell : H[q]? = some ce) (hv : ce.vm = .none) (hcl : s.vm.findClass E = some ce.cls)
    (kk : W p l e R s m args below meth c H locs cells slots Q (F0 m x.handlerPc ls [.ref q])) : vx_W p l e R s m args below meth c H locs cells slots Q (F0 m pc ls rest) q := by
  intro T hT X
  have hpl : e.platform.magicAccessors = ({} : Platform).magicAccessors := by rw [X.admits.platform]
  obtain ⟨c3, c4, hc3, hc4, hasg⟩ := Cond.castable_spec hcast
  cases Option.some.inj (hc3.symm.trans hcl)
  obtain ⟨c5, hc5, hcl5⟩ := Cond.classLink_spec hown hlink e.platform hpl
  cases Option.some.inj (hc4.symm.trans hc5)
  obtain ⟨vm', X', st⟩ := X.thenCaughtThrough q (g := F0 m pc ls rest) rfl (Steps.refl _) (by rw [hT]; exact hcell) (by rw [hv]; rfl) (by obtain ⟨k9, h9, -⟩ := Vm.findClass_spec hcl; exact ⟨k9, h9⟩) pre x suf hsplit
    (fun z hz => by
      rcases hpass z hz with h | ⟨hz0, nm, hl1, hn1⟩
      · exact Or.inl h
      · obtain ⟨c6, hc6, hcl6⟩ := Cond.classLink_spec hown hl1 e.platform hpl
        obtain ⟨a8, b8, h1, h2, h3⟩ := hn1
        cases Option.some.inj (h1.symm.trans hcl)
        cases Option.some.inj (h2.symm.trans hc6)
        exact Or.inr ⟨hz0, _, hcl6, h3⟩) hx (Or.inr ⟨h0, c4, hcl5, hasg⟩)
  obtain ⟨t, a1, b1⟩ := kk (T.setVm vm') hT X'
  exact ⟨t, st.trans a1, b1⟩
end Rows
section Ends
variable {p : Program} {l : Launch} {e : Env} {R : Room} {s : State} {m : MethodId} {args : Array Value} {below : List Frame} {meth : Method} {c : Code} {H : Heap} {locs : List Loc} {cells slots : Nat} {Q : State → Prop}
variable {mc ms : Nat} {free : Addr → Prop} {A0 A1 : Nat → Prop} {H0 : Heap} {a : Array Value} {ls : Array Slot} {st0 rest : List Value}
variable {Qc : Array Value → State → Outcome → State → Prop} {XC : String → State → State → Prop}
/-- what a body that may throw owes at its end -/
def vx_MQ (below : List Frame) (Qc : Array Value → State → Outcome → State → Prop) (XC : String → State → State → Prop) (a : Array Value) (s : State) (mc ms : Nat) (free : Addr → Prop) : State → Prop := fun t =>
  ∃ o, t.status = .running ∧ Ended t below o ∧ vx_Q Qc XC mc ms free a s o t
theorem vx_ret {g : JFrame} {mc ms : Nat} (k : W p l e R s m args below meth c H locs cells slots (MQ below Qc args s mc ms free) g) : W p l e R s m args below meth c H locs cells slots (vx_MQ below Qc XC args s mc ms free) g := by
  intro T hT X
  obtain ⟨t, a1, o, b1, b2, b3, b4⟩ := k T hT X
  exact ⟨t, a1, o, b1, b2, Or.inl ⟨b3, b4⟩⟩
/-- not caught here: it goes on to the caller -/
theorem vx_widen {g : JFrame} {q : Addr} {k n : Nat} (h1 : cells ≤ k) (h2 : slots ≤ n) (kk : vx_W p l e R s m args below meth c H locs k n Q g q) : vx_W p l e R s m args below meth c H locs cells slots Q g q := fun T hT X => kk T hT (stand_widen X h1 h2)
theorem vx_out {pc : Nat} {E : String} {ce : Cell} {q : Addr} {mc ms : Nat} (hout : ∀ x ∈ c.exceptionTable.toList, covers x pc = false) (hlocks : meth.locks = false) (hcell : H[q]? = some ce) (hv : ce.vm = .none) (hcl : s.vm.findClass E = some ce.cls)
    (hx : ∀ t : State, t.heap = H → s.vm.Alike t.vm → XC E s t) (hf : ∀ z ∈ locs, free z.base) (hc : cells ≤ mc) (hs : slots ≤ ms) :
    vx_W p l e R s m args below meth c H locs cells slots (vx_MQ below Qc XC args s mc ms free) (F0 m pc ls rest) q := by
  intro T hT X
  obtain ⟨st1, hrun, hend, hW, hsm⟩ := X.leaveThrown q (g := F0 m pc ls rest) rfl rfl rfl hout hlocks
  have hcell9 : (T.setFrames (.throwing q :: below)).heap[q]? = some ce := by
    show T.heap[q]? = some ce
    rw [hT]; exact hcell
  exact ⟨_, st1, .threw q, hrun, hend, Or.inr ⟨q, rfl, E, ce, locs, hx _ hT hW.alike, hcell9, hv, hcl, hW, hsm.mono hc hs, hf⟩⟩
theorem vx_frame {U : State} {k n : Nat} (h : s.sameButNew ({ U with vm := s.vm } : State) locs k n) : s.heap.size ≤ U.heap.size ∧ ∀ q : Nat, q < s.heap.size → (∀ z ∈ locs, z.base ≠ q) → U.heap[q]? = s.heap[q]? := by
  obtain ⟨-, h2, -, -, -, h6⟩ := h
  refine ⟨h2, fun q hq hz => ?_⟩
  obtain ⟨c9, e1, e2, e3, e4⟩ := h6 q _ (Array.getElem?_eq_getElem hq)
  have hs : c9.slots = (s.heap[q]).slots := Array.ext_getElem? fun i => e4 i fun hm => hz _ hm rfl
  have h9 : c9 = s.heap[q] := by
    rw [hs] at e2
    exact e2
  have e5 : U.heap[q]? = some c9 := e1
  rw [e5, h9, Array.getElem?_eq_getElem hq]
/-- the words of a throw but the four that speak of the heap -/
def vx_no (w : Cond) : Bool := decide (w ≠ .isRef (.static Bundle.tN "UNASSIGNED_STACK" Bundle.steD)) && decide (w ≠ .isRef (.static Bundle.tN "SUPPRESSED_SENTINEL" Bundle.listD)) && decide (w ≠ .laysStatic Bundle.tN "UNASSIGNED_STACK" Bundle.steD) && decide (w ≠ .laysStatic Bundle.tN "SUPPRESSED_SENTINEL" Bundle.listD)
def vx_at0 (own : String) (ic : Nat) (X : String) (names : List String) : List Cond := (Bundle.ownAtoms0 own ic X names).filter vx_no
def vx_atS (own : String) (ic : Nat) (X : String) (names : List String) : List Cond := (Bundle.ownAtoms own ic X names).filter vx_no
/-- a word that the tables alone decide, or a good one -/
def vx_ot (w : Cond) : Bool := w.onTables || goodWord w
theorem vx_ot_at {args a' : Array Value} {s U : State} {w : Cond} (hW : s.WarmedH U.vm) (hvm : s.vm = U.vm) (hg : vx_ot w = true) (h : w.before args s = true) : w.before a' U = true := by
  simp only [vx_ot, Bool.or_eq_true] at hg
  rcases hg with hg | hg
  · exact va_tabs hg hvm h
  · exact word_at hW (good_of_word hg) h
/-- a list's words: the good ones out of the method's own list, the others by premises of their own -/
theorem vx_hat {args : Array Value} {s : State} {L B : List Cond} (h1 : ∀ w ∈ L.filter goodWord, w.before args s = true) (h2 : ∀ w ∈ L.filter (fun w => !goodWord w), w ∈ B) (h3 : ∀ w ∈ B, w.before args s = true) : ∀ w ∈ L, w.before args s = true := by
  intro w hw
  by_cases g : goodWord w = true
  · exact h1 w (List.mem_filter.mpr ⟨hw, g⟩)
  · refine h3 w (h2 w (List.mem_filter.mpr ⟨hw, ?_⟩))
    show (!goodWord w) = true
    cases hgw : goodWord w
    · rfl
    · exact absurd hgw g
theorem vx_c {args : Array Value} {s : State} {w : Cond} {B : List Cond} (h : w.before args s = true) (t : ∀ w ∈ B, w.before args s = true) : ∀ w' ∈ w :: B, w'.before args s = true := fun w' h' => (List.mem_cons.mp h').elim (fun e => by rw [e]; exact h) (t w')
theorem vx_n {args : Array Value} {s : State} : ∀ w ∈ ([] : List Cond), w.before args s = true := fun _ h => nomatch h
theorem vx_own {args : Array Value} {s : State} {L : List Cond} (h1 : ∀ w ∈ L.filter vx_no, w.before args s = true)
    (hU : (Cond.isRef (.static Bundle.tN "UNASSIGNED_STACK" Bundle.steD)).before args s = true) (hN : (Cond.isRef (.static Bundle.tN "SUPPRESSED_SENTINEL" Bundle.listD)).before args s = true)
    (lU : (Cond.laysStatic Bundle.tN "UNASSIGNED_STACK" Bundle.steD).before args s = true) (lN : (Cond.laysStatic Bundle.tN "SUPPRESSED_SENTINEL" Bundle.listD).before args s = true) : ∀ w ∈ L, w.before args s = true := by
  intro w hw
  by_cases e1 : w = .isRef (.static Bundle.tN "UNASSIGNED_STACK" Bundle.steD)
  · rw [e1]; exact hU
  · by_cases e2 : w = .isRef (.static Bundle.tN "SUPPRESSED_SENTINEL" Bundle.listD)
    · rw [e2]; exact hN
    · by_cases e3 : w = .laysStatic Bundle.tN "UNASSIGNED_STACK" Bundle.steD
      · rw [e3]; exact lU
      · by_cases e4 : w = .laysStatic Bundle.tN "SUPPRESSED_SENTINEL" Bundle.listD
        · rw [e4]; exact lN
        · exact h1 w (List.mem_filter.mpr ⟨hw, by unfold vx_no; rw [decide_eq_true e1, decide_eq_true e2, decide_eq_true e3, decide_eq_true e4]; rfl⟩)
/-- where a static field lies, its class's statics cell in H -/
def vx_L (C n d : String) (A : Nat → Prop) (U : State) (H : Heap) : Prop := ∃ (c : ClassId) (k : Class) (i : Nat) (f : Field) (a : Nat) (cell : Cell), U.vm.findClass C = some c ∧ U.fieldFound? C n d = some (c, k, i, f) ∧ f.isStatic = true ∧ k.statics = some a ∧ H[a]? = some cell ∧ cell.vm.isStatics = true ∧ cell.cls = c ∧ f.slot < cell.slots.size ∧ k.staticTypes[f.slot]? = some f.type ∧ ¬ A a
theorem vx_L.moved {C n d : String} {A : Nat → Prop} {u U : State} {H : Heap} (hvm : u.vm.Alike U.vm) (h : vx_L C n d A u H) : vx_L C n d A U H := by
  obtain ⟨c, k, i, f, a, cell, h1, h2, h3, h4, h5, h6, h7, h8, h9, h10⟩ := h
  obtain ⟨k', hi', he⟩ := State.fieldFound?_setVm hvm h2
  exact ⟨c, k', i, f, a, cell, by rw [hvm.findClass]; exact h1, hi', h3, by rw [he]; exact h4, h5, h6, h7, h8, by rw [he]; exact h9, h10⟩
theorem vx_L.kept {C n d : String} {A : Nat → Prop} {U : State} {H H1 : Heap} (h : vx_L C n d A U H) (hq : ∀ a : Nat, a < H.size → ¬ A a → H1[a]? = H[a]?) : vx_L C n d A U H1 := by
  obtain ⟨c, k, i, f, a, cell, h1, h2, h3, h4, h5, h6, h7, h8, h9, h10⟩ := h
  exact ⟨c, k, i, f, a, cell, h1, h2, h3, h4, by rw [hq a (Array.getElem?_eq_some_iff.mp h5).1 h10]; exact h5, h6, h7, h8, h9, h10⟩
theorem vx_L.narrow {C n d : String} {A B : Nat → Prop} {U : State} {H : Heap} (h : vx_L C n d A U H) (hAB : ∀ q, B q → A q) : vx_L C n d B U H := by
  obtain ⟨c, k, i, f, a, cell, h1, h2, h3, h4, h5, h6, h7, h8, h9, h10⟩ := h
  exact ⟨c, k, i, f, a, cell, h1, h2, h3, h4, h5, h6, h7, h8, h9, fun z => h10 (hAB _ z)⟩
theorem vx_L.word {C n d : String} {A : Nat → Prop} {s : State} {args : Array Value} (h : vx_L C n d A s s.heap) : (Cond.laysStatic C n d).before args s = true := by
  obtain ⟨c, k, i, f, a, cell, h1, h2, h3, h4, h5, h6, h7, h8, h9, -⟩ := h
  show (Cond.laysStatic C n d).holds args s none s [] = true
  exact Cond.laysStatic_of h1 h2 h3 h4 h5 h6 h7 h8 h9
/-- .. and what it holds: null or some reference -/
def vx_Zq (C n d : String) (A : Nat → Prop) (U : State) (H : Heap) : Prop := va_Zq C n d A U H ∧ vx_L C n d A U H
theorem vx_Zq.moved {C n d : String} {A : Nat → Prop} {u U : State} {H : Heap} (hvm : u.vm.Alike U.vm) (h : vx_Zq C n d A u H) : vx_Zq C n d A U H := ⟨va_Zq.moved hvm h.1, vx_L.moved hvm h.2⟩
theorem vx_Zq.kept {C n d : String} {A : Nat → Prop} {U : State} {H H1 : Heap} (h : vx_Zq C n d A U H) (hq : ∀ a : Nat, a < H.size → ¬ A a → H1[a]? = H[a]?) : vx_Zq C n d A U H1 := ⟨va_Zq.kept h.1 hq, vx_L.kept h.2 hq⟩
theorem vx_Zq.narrow {C n d : String} {A B : Nat → Prop} {U : State} {H : Heap} (h : vx_Zq C n d A U H) (hAB : ∀ q, B q → A q) : vx_Zq C n d B U H := ⟨va_Zq.narrow h.1 hAB, vx_L.narrow h.2 hAB⟩
theorem vx_Zqof {args : Array Value} {s : State} {C n d : String} {A : Nat → Prop} (hl : (Cond.laysStatic C n d).before args s = true) (hini : (Cond.initialized C).before args s = true) (h : (Cond.isRef (.static C n d)).before args s = true) (hA : ∀ a : Nat, a < s.heap.size → ¬ A a) : vx_Zq C n d A s s.heap := by
  refine ⟨va_Zqof hl hini h hA, ?_⟩
  obtain ⟨c, k, i, f, a, cell, h1, h2, h3, h4, h5, h6, h7, h8, h9⟩ := Cond.laysStatic_spec hl
  exact ⟨c, k, i, f, a, cell, h1, h2, h3, h4, h5, h6, h7, h8, h9, hA a (Array.getElem?_eq_some_iff.mp h5).1⟩
theorem vx_isRef {C n d : String} {v : Value} {A : Nat → Prop} {s : State} {args : Array Value} (h : va_Z C n d v A s s.heap) (hv : v.isRef = true) : (Cond.isRef (.static C n d)).before args s = true := by
  obtain ⟨cf, kf, fi, f, a, cell, h1, h2, h3, h4, h5, h6, h7, -⟩ := h
  have he : (Term.static C n d).eval args s none [] s = some v := by
    simp [Term.eval, State.fieldNamed?, h1, h2, h4, h5, h6, h7]
  simp only [Cond.before, Cond.holds, Cond.value, he]
  cases v <;> simp_all [Value.isRef]
theorem vx_isRefq {C n d : String} {A : Nat → Prop} {s : State} {args : Array Value} (h : va_Zq C n d A s s.heap) : (Cond.isRef (.static C n d)).before args s = true := by
  rcases h with h | ⟨t, h⟩
  · exact vx_isRef h rfl
  · exact vx_isRef h rfl
/-- the same frame, seen from here: as if the method were called anew in this heap -/
theorem vx_rebase {T : State} (X : Stand p l e R s m args below meth c T locs cells slots) {R' : Room} (hf : R'.frames ≤ R.frames) (hl : R'.locals ≤ R.locals) (hc : cells + R'.cells ≤ R.cells) (hs : slots + R'.slots ≤ R.slots) :
    Stand p l e R' ((T.setVm s.vm).setFrames (.invoking m args :: below)) m args below meth c T [] 0 0 := by
  have htop : (T.setVm s.vm).topJava?.isSome := X.here.top
  have hF : ((T.setVm s.vm).setFrames (.invoking m args :: below)).frames = .invoking m args :: below := State.frames_setFrames _ (State.cur_lt_of_top htop)
  obtain ⟨g₀, hg0⟩ := Option.isSome_iff_exists.mp htop
  obtain ⟨r, hr⟩ := State.topJava?_eq_some.mp hg0
  have hl9 : e.platform.stackLimits (T.setVm s.vm).me = e.platform.stackLimits s.me := X.limits
  have hb9 : (T.setVm s.vm).me.stackBytes = s.me.stackBytes := X.bytes
  refine ⟨X.admits, X.cas, X.clock, hF, ?_, X.hears, X.method, X.code, X.here, X.tail, X.warmed, ?_, ?_, ?_⟩
  · have h := X.room
    have hU : ((T.setVm s.vm).setFrames (.invoking m args :: below)).localsInUse = s.localsInUse := by
      rw [State.localsInUse_invoking hF (meth := meth) (c := c) X.method X.code, State.localsInUse_invoking X.frames X.method X.code]
    simp only [State.hasRoom, Bool.and_eq_true, decide_eq_true_eq] at h ⊢
    obtain ⟨⟨⟨⟨h1, h2, h3, h4, h5, h6⟩, h7⟩, h8⟩, h9⟩ := h
    rw [X.frames, List.length_cons] at h2 h3
    have q1 := X.heapSize
    have q2 := X.used
    simp only [hF, hU, List.length_cons, State.stackLimits_setFrames, State.stackBytes_setFrames, hl9, hb9]
    refine ⟨⟨⟨⟨by omega, by omega, by omega, by omega, by omega, h6⟩, ?_⟩, ?_⟩, X.book⟩
    · show T.heap.size + R'.cells ≤ e.platform.maxCells
      omega
    · show T.slotsUsed + R'.slots ≤ e.platform.maxSlots
      omega
  · rw [State.stackLimits_setFrames]; rfl
  · rw [State.stackBytes_setFrames]; rfl
  · refine ⟨?_, Nat.le_refl _, Nat.le_refl _, ?_, ?_, fun a c9 h9 => ⟨c9, h9, rfl, rfl, fun _ _ => rfl⟩⟩
    · obtain ⟨t, ht, -⟩ := State.frames_cons hr
      show T.setVm s.vm = { ((T.setVm s.vm).setFrames (.invoking m args :: below)).setFrames (T.setVm s.vm).frames with heap := T.heap, slotsUsed := T.slotsUsed }
      rw [State.setFrames_setFrames, State.setFrames_self ht]
      rfl
    · show T.slotsUsed = T.slotsUsed + ((T.heap.toList.drop T.heap.size).map (·.slots.size)).sum
      rw [List.drop_eq_nil_of_le (Nat.le_of_eq Array.length_toList)]
      rfl
    · show ((T.heap.toList.drop T.heap.size).map (·.slots.size)).sum ≤ 0
      rw [List.drop_eq_nil_of_le (Nat.le_of_eq Array.length_toList)]
      exact Nat.le_refl _
/-- 'throw new E()': new; dup; invokespecial; athrow -/
theorem vx_throw0 {cc : ByteArray} {pc : Nat} (hexec : p.tables.exec = Jvm.exec) (hb : c.code = cc) (hl : l.stackTraces = false) {own cls : String} {names : List String} {ik ic mc ms : Nat} {A : Nat → Prop}
    (hown : s.vm.findClass own = some m.cls) (hcls : Bundle.fit cls = true) (hnames : ∀ n ∈ names, Bundle.fit n = true)
    (hk : (Cond.classLink own ik cls).before args s = true) (hini : (Cond.initialized cls).before args s = true) (hat : ∀ w ∈ vx_at0 own ic cls names, w.before args s = true)
    (hgood : ∀ w ∈ Cond.classLink own ik cls :: Cond.initialized cls :: vx_at0 own ic cls names, vx_ot w = true)
    (hU : vx_Zq Bundle.tN "UNASSIGNED_STACK" Bundle.steD A s s.heap) (hN : vx_Zq Bundle.tN "SUPPRESSED_SENTINEL" Bundle.listD A s s.heap) (hS : va_S A s.heap H locs) (hsize : ls.size = c.maxLocals)
    (d0 : decode cc pc = .ok (.new ik, 3)) (d3 : decode cc (pc + 3) = .ok (.dup, 1)) (d4 : decode cc (pc + 4) = .ok (.invokespecial ic, 3)) (d7 : decode cc (pc + 7) = .ok (.athrow, 1))
    (hout : ∀ x ∈ c.exceptionTable.toList, covers x (pc + 7) = false)
    (hRframes : names.length + 3 < R.frames) (hRlocals : (rest.map fun v => v.category).sum + (13 * (names.length + 1) + 42) ≤ R.locals) (hRcells : cells + 1 ≤ R.cells) (hRslots : slots + 6 ≤ R.slots) (hlocks : meth.locks = false)
    (hx : ∀ t : State, s.vm.Alike t.vm → H.size ≤ t.heap.size → (∀ q : Nat, q < H.size → t.heap[q]? = H[q]?) → XC cls s t)
    (hf : ∀ z ∈ locs, free z.base) (hc : cells + 1 ≤ mc) (hs : slots + 6 ≤ ms) :
    W p l e R s m args below meth c H locs cells slots (vx_MQ below Qc XC args s mc ms free) (F0 m pc ls rest) := by
  intro T hT X
  have htr : e.platform.stackTraces = false := (show e.platform.stackTraces = l.stackTraces by rw [X.admits.platform]).trans hl
  have Y := vx_rebase X (R' := { frames := R.frames, locals := R.locals, cells := 1, slots := 6 }) (Nat.le_refl _) (Nat.le_refl _) hRcells hRslots
  obtain ⟨s', hA⟩ : ∃ z, z = (T.setVm s.vm).setFrames (.invoking m args :: below) := ⟨_, rfl⟩
  rw [← hA] at Y
  have hvm : s'.vm = s.vm := by rw [hA]; rfl
  have hhp : s'.heap = H := by rw [hA]; exact hT
  have hW0 : s.WarmedH s'.vm := by rw [hvm]; exact State.WarmedH.refl s
  have hat' : ∀ w ∈ vx_at0 own ic cls names, w.before args s' = true := fun w hw => vx_ot_at hW0 hvm.symm (hgood w (List.mem_cons_of_mem _ (List.mem_cons_of_mem _ hw))) (hat w hw)
  have hk' : (Cond.classLink own ik cls).before args s' = true := vx_ot_at hW0 hvm.symm (hgood _ List.mem_cons_self) hk
  have hini' : (Cond.initialized cls).before args s' = true := vx_ot_at hW0 hvm.symm (hgood _ (List.mem_cons_of_mem _ List.mem_cons_self)) hini
  have hU' : vx_Zq Bundle.tN "UNASSIGNED_STACK" Bundle.steD A s' s'.heap := by rw [hhp]; exact vx_Zq.moved hW0.alike (hU.kept hS.2.1)
  have hN' : vx_Zq Bundle.tN "SUPPRESSED_SENTINEL" Bundle.listD A s' s'.heap := by rw [hhp]; exact vx_Zq.moved hW0.alike (hN.kept hS.2.1)
  have h : ∀ w ∈ Bundle.ownAtoms0 own ic cls names, w.before args s' = true := vx_own hat' (vx_isRefq hU'.1) (vx_isRefq hN'.1) hU'.2.word hN'.2.word
  have hown' : s'.vm.findClass own = some m.cls := by rw [hvm]; exact hown
  have hins : (Cond.instantiable cls 6).before args s' = true := h _ (by simp [Bundle.ownAtoms0])
  obtain ⟨vm₁, cX, kX, hfX, hkX, -, -, X₁, st1⟩ := Y.newCold hexec (own := own) (C := cls) (index := ik) (n := 6) hown' hk' hins hini'
    (g := F0 m pc ls rest) rfl (by rw [hb]; exact d0) (Nat.le_refl _) (Nat.le_refl _)
  generalize hT1 : (T.setVm vm₁).pushCell { cls := cX, slots := kX.instanceTypes.map defaultValue, vm := .none } = T1 at X₁ st1
  have hcat : (Value.ref T.heap.size).category = 1 := rfl
  have hcellA : T1.heap[T.heap.size]? = some (freshCell cX kX) := by rw [← hT1]; exact State.heap_pushCell_size _ _
  have d3' : decode c.code (pc + 3) = .ok (.dup, 1) := by rw [hb]; exact d3
  obtain ⟨U, hsteps, hrun, hend, hW, hsame, ce, hce, hO⟩ := X₁.ctorThrow0 hexec htr (own := own) (cls := cls) (names := names) (ic := ic) hown' hcls hnames h (fun x hx => nomatch hx) hfX hkX hcellA (by rw [hhp, hT]; exact Nat.le_refl _)
    (g := { method := m, pc := pc + 4, locals := ls, stack := .ref T.heap.size :: .ref T.heap.size :: rest, locked := none }) rfl hsize rfl rfl (rest := rest) rfl
    (by rw [hb]; exact d4) (by rw [hb]; exact d7) hout hRframes (by simp only [List.map_cons, List.sum_cons, hcat]; omega) hlocks
  obtain ⟨f1, f2⟩ := vx_frame hsame
  rw [hhp] at f1 f2
  have hWs : s.WarmedH U.vm := State.WarmedH.trans hW0 hW
  have hcl : s.vm.findClass cls = some ce.cls := by
    have h9 := hO.cls
    rw [hvm] at h9
    exact h9
  have hall : s.sameButNew ({ U with vm := s.vm } : State) locs mc ms := by
    subst hA
    obtain ⟨e1, e2⟩ := hsame
    rw [State.setFrames_setFrames] at e1
    have h2 : (T.setVm s.vm).sameButNew ({ U with vm := s.vm } : State) [] (0 + 1) (0 + 6) := ⟨e1, e2⟩
    have h3 := X.same.trans h2
    rw [List.append_nil] at h3
    exact h3.mono hc hs
  refine ⟨U, ?_, .threw T.heap.size, hrun, hend, Or.inr ⟨T.heap.size, rfl, cls, ce, locs, hx U hWs.alike f1 (fun q hq => f2 q hq (fun z hz => nomatch hz)), hce, hO.vm, hcl, hWs, hall, hf⟩⟩
  refine st1 _ ?_
  show Steps p.tables e below (T1.setTop { method := m, pc := pc + 3, locals := ls, stack := .ref T.heap.size :: rest, locked := none }) _
  jvm_step X₁.here [X₁.here.top, hexec, d3', Value.category]
  exact hsteps
/-- 'throw new E("text")': new; dup; ldc; invokespecial; athrow -/
theorem vx_throwS {cc : ByteArray} {pc : Nat} (hexec : p.tables.exec = Jvm.exec) (hb : c.code = cc) (hl : l.stackTraces = false) {own cls text : String} {names : List String} {ik is ic mc ms sa : Nat} {A : Nat → Prop}
    (hown : s.vm.findClass own = some m.cls) (hcls : Bundle.fit cls = true) (hnames : ∀ n ∈ names, Bundle.fit n = true)
    (hk : (Cond.classLink own ik cls).before args s = true) (hini : (Cond.initialized cls).before args s = true) (hstr : vk_R own is text sa s) (hat : ∀ w ∈ vx_atS own ic cls names, w.before args s = true)
    (hgood : ∀ w ∈ Cond.classLink own ik cls :: Cond.initialized cls :: vx_atS own ic cls names, vx_ot w = true)
    (hU : vx_Zq Bundle.tN "UNASSIGNED_STACK" Bundle.steD A s s.heap) (hN : vx_Zq Bundle.tN "SUPPRESSED_SENTINEL" Bundle.listD A s s.heap) (hS : va_S A s.heap H locs) (hsize : ls.size = c.maxLocals)
    (d0 : decode cc pc = .ok (.new ik, 3)) (d3 : decode cc (pc + 3) = .ok (.dup, 1)) (d4 : decode cc (pc + 4) = .ok (.ldc is, 2)) (d6 : decode cc (pc + 6) = .ok (.invokespecial ic, 3)) (d9 : decode cc (pc + 9) = .ok (.athrow, 1))
    (hout : ∀ x ∈ c.exceptionTable.toList, covers x (pc + 9) = false)
    (hRframes : names.length + 3 < R.frames) (hRlocals : (rest.map fun v => v.category).sum + (13 * (names.length + 1) + 43) ≤ R.locals) (hRcells : cells + 1 ≤ R.cells) (hRslots : slots + 6 ≤ R.slots) (hlocks : meth.locks = false)
    (hx : ∀ t : State, s.vm.Alike t.vm → H.size ≤ t.heap.size → (∀ q : Nat, q < H.size → t.heap[q]? = H[q]?) → XC cls s t)
    (hf : ∀ z ∈ locs, free z.base) (hc : cells + 1 ≤ mc) (hs : slots + 6 ≤ ms) :
    W p l e R s m args below meth c H locs cells slots (vx_MQ below Qc XC args s mc ms free) (F0 m pc ls rest) := by
  intro T hT X
  have htr : e.platform.stackTraces = false := (show e.platform.stackTraces = l.stackTraces by rw [X.admits.platform]).trans hl
  have Y := vx_rebase X (R' := { frames := R.frames, locals := R.locals, cells := 1, slots := 6 }) (Nat.le_refl _) (Nat.le_refl _) hRcells hRslots
  obtain ⟨s', hA⟩ : ∃ z, z = (T.setVm s.vm).setFrames (.invoking m args :: below) := ⟨_, rfl⟩
  rw [← hA] at Y
  have hvm : s'.vm = s.vm := by rw [hA]; rfl
  have hhp : s'.heap = H := by rw [hA]; exact hT
  have hW0 : s.WarmedH s'.vm := by rw [hvm]; exact State.WarmedH.refl s
  have hat' : ∀ w ∈ vx_atS own ic cls names, w.before args s' = true := fun w hw => vx_ot_at hW0 hvm.symm (hgood w (List.mem_cons_of_mem _ (List.mem_cons_of_mem _ hw))) (hat w hw)
  have hk' : (Cond.classLink own ik cls).before args s' = true := vx_ot_at hW0 hvm.symm (hgood _ List.mem_cons_self) hk
  have hini' : (Cond.initialized cls).before args s' = true := vx_ot_at hW0 hvm.symm (hgood _ (List.mem_cons_of_mem _ List.mem_cons_self)) hini
  have hU' : vx_Zq Bundle.tN "UNASSIGNED_STACK" Bundle.steD A s' s'.heap := by rw [hhp]; exact vx_Zq.moved hW0.alike (hU.kept hS.2.1)
  have hN' : vx_Zq Bundle.tN "SUPPRESSED_SENTINEL" Bundle.listD A s' s'.heap := by rw [hhp]; exact vx_Zq.moved hW0.alike (hN.kept hS.2.1)
  have h : ∀ w ∈ Bundle.ownAtoms own ic cls names, w.before args s' = true := vx_own hat' (vx_isRefq hU'.1) (vx_isRefq hN'.1) hU'.2.word hN'.2.word
  have hown' : s'.vm.findClass own = some m.cls := by rw [hvm]; exact hown
  have hins : (Cond.instantiable cls 6).before args s' = true := h _ (by simp [Bundle.ownAtoms])
  obtain ⟨vm₁, cX, kX, hfX, hkX, -, -, X₁, st1⟩ := Y.newCold hexec (own := own) (C := cls) (index := ik) (n := 6) hown' hk' hins hini'
    (g := F0 m pc ls rest) rfl (by rw [hb]; exact d0) (Nat.le_refl _) (Nat.le_refl _)
  generalize hT1 : (T.setVm vm₁).pushCell { cls := cX, slots := kX.instanceTypes.map defaultValue, vm := .none } = T1 at X₁ st1
  have hcat : (Value.ref T.heap.size).category = 1 := rfl
  have hcellA : T1.heap[T.heap.size]? = some (freshCell cX kX) := by rw [← hT1]; exact State.heap_pushCell_size _ _
  have d3' : decode c.code (pc + 3) = .ok (.dup, 1) := by rw [hb]; exact d3
  have d4' : decode c.code (pc + 4) = .ok (.ldc is, 2) := by rw [hb]; exact d4
  have hstr' : vk_R own is text sa s' := vk_R.warm hW0 hstr
  obtain ⟨U, hsteps, hrun, hend, hW, hsame, ce, hce, hO⟩ := X₁.ctorThrowS hexec htr (own := own) (cls := cls) (names := names) (ic := ic) hown' hcls hnames h (fun x hx => nomatch hx) hfX hkX hcellA (by rw [hhp, hT]; exact Nat.le_refl _) (msg := .ref sa) rfl
    (g := { method := m, pc := pc + 6, locals := ls, stack := .ref sa :: .ref T.heap.size :: .ref T.heap.size :: rest, locked := none }) rfl hsize rfl rfl (rest := rest) rfl
    (by rw [hb]; exact d6) (by rw [hb]; exact d9) hout hRframes (by simp only [List.map_cons, List.sum_cons, hcat]; omega) hlocks
  obtain ⟨f1, f2⟩ := vx_frame hsame
  rw [hhp] at f1 f2
  have hWs : s.WarmedH U.vm := State.WarmedH.trans hW0 hW
  have hcl : s.vm.findClass cls = some ce.cls := by
    have h9 := hO.cls
    rw [hvm] at h9
    exact h9
  have hall : s.sameButNew ({ U with vm := s.vm } : State) locs mc ms := by
    subst hA
    obtain ⟨e1, e2⟩ := hsame
    rw [State.setFrames_setFrames] at e1
    have h2 : (T.setVm s.vm).sameButNew ({ U with vm := s.vm } : State) [] (0 + 1) (0 + 6) := ⟨e1, e2⟩
    have h3 := X.same.trans h2
    rw [List.append_nil] at h3
    exact h3.mono hc hs
  refine ⟨U, ?_, .threw T.heap.size, hrun, hend, Or.inr ⟨T.heap.size, rfl, cls, ce, locs, hx U hWs.alike f1 (fun q hq => f2 q hq (fun z hz => nomatch hz)), hce, hO.vm, hcl, hWs, hall, hf⟩⟩
  refine st1 _ ?_
  show Steps p.tables e below (T1.setTop { method := m, pc := pc + 3, locals := ls, stack := .ref T.heap.size :: rest, locked := none }) _
  jvm_step X₁.here [X₁.here.top, hexec, d3', Value.category]
  exact X₁.ldcString hexec (own := own) (text := text) (index := is) (a := sa) hown' hstr'.1 hstr'.2
    (g := { method := m, pc := pc + 4, locals := ls, stack := .ref T.heap.size :: .ref T.heap.size :: rest, locked := none }) rfl d4' _ hsteps
/-- 'throw new E("text")', the text by a wide index -/
theorem vx_throwSW {cc : ByteArray} {pc : Nat} (hexec : p.tables.exec = Jvm.exec) (hb : c.code = cc) (hl : l.stackTraces = false) {own cls text : String} {names : List String} {ik is ic mc ms sa : Nat} {A : Nat → Prop}
    (hown : s.vm.findClass own = some m.cls) (hcls : Bundle.fit cls = true) (hnames : ∀ n ∈ names, Bundle.fit n = true)
    (hk : (Cond.classLink own ik cls).before args s = true) (hini : (Cond.initialized cls).before args s = true) (hstr : vk_R own is text sa s) (hat : ∀ w ∈ vx_atS own ic cls names, w.before args s = true)
    (hgood : ∀ w ∈ Cond.classLink own ik cls :: Cond.initialized cls :: vx_atS own ic cls names, vx_ot w = true)
    (hU : vx_Zq Bundle.tN "UNASSIGNED_STACK" Bundle.steD A s s.heap) (hN : vx_Zq Bundle.tN "SUPPRESSED_SENTINEL" Bundle.listD A s s.heap) (hS : va_S A s.heap H locs) (hsize : ls.size = c.maxLocals)
    (d0 : decode cc pc = .ok (.new ik, 3)) (d3 : decode cc (pc + 3) = .ok (.dup, 1)) (d4 : decode cc (pc + 4) = .ok (.ldc_w is, 3)) (d7 : decode cc (pc + 7) = .ok (.invokespecial ic, 3)) (d10 : decode cc (pc + 10) = .ok (.athrow, 1))
    (hout : ∀ x ∈ c.exceptionTable.toList, covers x (pc + 10) = false)
    (hRframes : names.length + 3 < R.frames) (hRlocals : (rest.map fun v => v.category).sum + (13 * (names.length + 1) + 43) ≤ R.locals) (hRcells : cells + 1 ≤ R.cells) (hRslots : slots + 6 ≤ R.slots) (hlocks : meth.locks = false)
    (hx : ∀ t : State, s.vm.Alike t.vm → H.size ≤ t.heap.size → (∀ q : Nat, q < H.size → t.heap[q]? = H[q]?) → XC cls s t)
    (hf : ∀ z ∈ locs, free z.base) (hc : cells + 1 ≤ mc) (hs : slots + 6 ≤ ms) :
    W p l e R s m args below meth c H locs cells slots (vx_MQ below Qc XC args s mc ms free) (F0 m pc ls rest) := by
  intro T hT X
  have htr : e.platform.stackTraces = false := (show e.platform.stackTraces = l.stackTraces by rw [X.admits.platform]).trans hl
  have Y := vx_rebase X (R' := { frames := R.frames, locals := R.locals, cells := 1, slots := 6 }) (Nat.le_refl _) (Nat.le_refl _) hRcells hRslots
  obtain ⟨s', hA⟩ : ∃ z, z = (T.setVm s.vm).setFrames (.invoking m args :: below) := ⟨_, rfl⟩
  rw [← hA] at Y
  have hvm : s'.vm = s.vm := by rw [hA]; rfl
  have hhp : s'.heap = H := by rw [hA]; exact hT
  have hW0 : s.WarmedH s'.vm := by rw [hvm]; exact State.WarmedH.refl s
  have hat' : ∀ w ∈ vx_atS own ic cls names, w.before args s' = true := fun w hw => vx_ot_at hW0 hvm.symm (hgood w (List.mem_cons_of_mem _ (List.mem_cons_of_mem _ hw))) (hat w hw)
  have hk' : (Cond.classLink own ik cls).before args s' = true := vx_ot_at hW0 hvm.symm (hgood _ List.mem_cons_self) hk
  have hini' : (Cond.initialized cls).before args s' = true := vx_ot_at hW0 hvm.symm (hgood _ (List.mem_cons_of_mem _ List.mem_cons_self)) hini
  have hU' : vx_Zq Bundle.tN "UNASSIGNED_STACK" Bundle.steD A s' s'.heap := by rw [hhp]; exact vx_Zq.moved hW0.alike (hU.kept hS.2.1)
  have hN' : vx_Zq Bundle.tN "SUPPRESSED_SENTINEL" Bundle.listD A s' s'.heap := by rw [hhp]; exact vx_Zq.moved hW0.alike (hN.kept hS.2.1)
  have h : ∀ w ∈ Bundle.ownAtoms own ic cls names, w.before args s' = true := vx_own hat' (vx_isRefq hU'.1) (vx_isRefq hN'.1) hU'.2.word hN'.2.word
  have hown' : s'.vm.findClass own = some m.cls := by rw [hvm]; exact hown
  have hins : (Cond.instantiable cls 6).before args s' = true := h _ (by simp [Bundle.ownAtoms])
  obtain ⟨vm₁, cX, kX, hfX, hkX, -, -, X₁, st1⟩ := Y.newCold hexec (own := own) (C := cls) (index := ik) (n := 6) hown' hk' hins hini'
    (g := F0 m pc ls rest) rfl (by rw [hb]; exact d0) (Nat.le_refl _) (Nat.le_refl _)
  generalize hT1 : (T.setVm vm₁).pushCell { cls := cX, slots := kX.instanceTypes.map defaultValue, vm := .none } = T1 at X₁ st1
  have hcat : (Value.ref T.heap.size).category = 1 := rfl
  have hcellA : T1.heap[T.heap.size]? = some (freshCell cX kX) := by rw [← hT1]; exact State.heap_pushCell_size _ _
  have d3' : decode c.code (pc + 3) = .ok (.dup, 1) := by rw [hb]; exact d3
  have d4' : decode c.code (pc + 4) = .ok (.ldc_w is, 3) := by rw [hb]; exact d4
  have hstr' : vk_R own is text sa s' := vk_R.warm hW0 hstr
  obtain ⟨U, hsteps, hrun, hend, hW, hsame, ce, hce, hO⟩ := X₁.ctorThrowS hexec htr (own := own) (cls := cls) (names := names) (ic := ic) hown' hcls hnames h (fun x hx => nomatch hx) hfX hkX hcellA (by rw [hhp, hT]; exact Nat.le_refl _) (msg := .ref sa) rfl
    (g := { method := m, pc := pc + 7, locals := ls, stack := .ref sa :: .ref T.heap.size :: .ref T.heap.size :: rest, locked := none }) rfl hsize rfl rfl (rest := rest) rfl
    (by rw [hb]; exact d7) (by rw [hb]; exact d10) hout hRframes (by simp only [List.map_cons, List.sum_cons, hcat]; omega) hlocks
  obtain ⟨f1, f2⟩ := vx_frame hsame
  rw [hhp] at f1 f2
  have hWs : s.WarmedH U.vm := State.WarmedH.trans hW0 hW
  have hcl : s.vm.findClass cls = some ce.cls := by
    have h9 := hO.cls
    rw [hvm] at h9
    exact h9
  have hall : s.sameButNew ({ U with vm := s.vm } : State) locs mc ms := by
    subst hA
    obtain ⟨e1, e2⟩ := hsame
    rw [State.setFrames_setFrames] at e1
    have h2 : (T.setVm s.vm).sameButNew ({ U with vm := s.vm } : State) [] (0 + 1) (0 + 6) := ⟨e1, e2⟩
    have h3 := X.same.trans h2
    rw [List.append_nil] at h3
    exact h3.mono hc hs
  refine ⟨U, ?_, .threw T.heap.size, hrun, hend, Or.inr ⟨T.heap.size, rfl, cls, ce, locs, hx U hWs.alike f1 (fun q hq => f2 q hq (fun z hz => nomatch hz)), hce, hO.vm, hcl, hWs, hall, hf⟩⟩
  refine st1 _ ?_
  show Steps p.tables e below (T1.setTop { method := m, pc := pc + 3, locals := ls, stack := .ref T.heap.size :: rest, locked := none }) _
  jvm_step X₁.here [X₁.here.top, hexec, d3', Value.category]
  exact X₁.ldcStringW hexec (own := own) (text := text) (index := is) (a := sa) hown' hstr'.1 hstr'.2
    (g := { method := m, pc := pc + 4, locals := ls, stack := .ref T.heap.size :: .ref T.heap.size :: rest, locked := none }) rfl d4' _ hsteps
end Ends
section Bodies
variable {l : Launch}
theorem vx_ofW {y : MethodName} {ws ws' : List Cond} {rm : Room} {Pc : Array Value → State → Prop} {Qc : Array Value → State → Outcome → State → Prop} {XC : String → State → State → Prop} {mc ms : Nat} {free : Addr → Prop} {cc : ByteArray} {maxL : Nat} {ret : Option FieldType}
    (hy : plainName y.cls = true) (hw : ws = Cond.code y cc maxL ret :: ws')
    (body : ∀ p e s m args below meth c s₁, BodyLoose p l y (headSpec ws rm) cc maxL ret e s m args below meth c s₁ → c.maxLocals = maxL → (∀ x ∈ c.exceptionTable.toList, False) → Pc args s →
      W p l e (headSpec ws rm).room s m args below meth c s.heap [] 0 0 (vx_MQ below Qc XC args s mc ms free) (entryFrame m args maxL)) : vx_Met l y ws rm Pc Qc XC mc ms free := by
  refine MetFree.of_bodyS (code := cc) (maxLocals := maxL) (ret := ret) hy ?_ ?_
  · intro args s m h hn
    obtain ⟨meth, c, h1, h2, h3, h4, h5, h6, -, -⟩ := Cond.code_spec hn (atoms_spec (ws := ws) h _ (by rw [hw]; exact List.mem_cons_self))
    exact ⟨meth, c, h1, h2, h3, h4, h5, h6⟩
  · intro p e s m args below meth c s₁ B hml hP _
    have hh0 : s₁.heap = s.heap := by rw [B.state]; rfl
    have ht : ∀ x ∈ c.exceptionTable.toList, False := by
      obtain ⟨meth9, c9, h1, h2, -, -, -, -, h7, -⟩ := Cond.code_spec B.named (atoms_spec (ws := ws) B.pre _ (by rw [hw]; exact List.mem_cons_self))
      cases Option.some.inj (h1.symm.trans B.method)
      cases Option.some.inj (h2.symm.trans (Stand.of_body B).code)
      intro x hx
      rw [Array.isEmpty_iff.mp h7] at hx
      cases hx
    obtain ⟨t, a1, o, b1, b2, b3⟩ := body p e s m args below meth c s₁ B hml ht hP s₁ hh0 (Stand.of_body B)
    exact ⟨t, o, a1, b1, b2, b3⟩
/-- the table of a body with handlers -/
theorem vx_table {p : Program} {x y : MethodName} {S : Spec} {cc bytes : ByteArray} {maxL maxL' : Nat} {ret ret' : Option FieldType} {e : Env} {s s₁ : State} {m : MethodId} {args : Array Value} {below : List Frame} {meth : Method} {c : Code} {hh : List (Nat × Nat × Nat × Nat)}
    (B : BodyLoose p l y S cc maxL ret e s m args below meth c s₁) (h : (Cond.codeWith y bytes maxL' ret' hh).before args s = true) : c.exceptionTable.toList = tableOf hh := by
  obtain ⟨m9, meth9, c9, hn9, h1, h2, -, -, h6, -⟩ := Cond.codeWith_spec h
  cases Option.some.inj (hn9.symm.trans B.named)
  cases Option.some.inj (h1.symm.trans B.method)
  cases Option.some.inj (h2.symm.trans (Stand.of_body B).code)
  rw [← h6, table_eq]
end Bodies
end VXA
/-! ===== END ===== -/
/-! ===== BEGIN a static call of a method with an exception table ===== -/
section VXS
variable {p : Program} {l : Launch} {e : Env} {R : Room} {s : State} {m : MethodId} {args : Array Value} {below : List Frame} {meth : Method} {c : Code} {T : State} {H : Heap} {locs : List Loc} {cells slots : Nat}
abbrev vx_CSW (R : Room) (s : State) (args : Array Value) (own : String) (index : Nat) (y : MethodName) (bytes : ByteArray) (maxL : Nat) (ret : Option FieldType) (hh : List (Nat × Nat × Nat × Nat)) (ws : List Cond) (rm : Room) (mc ms n : Nat) : Prop :=
  (rm.cells = mc ∧ rm.slots = ms ∧ rm.frames + 1 ≤ R.frames ∧ 8 + (maxL + 11) + rm.locals ≤ R.locals ∧ (∀ w ∈ ws, ∀ (a' : Array Value) (U : State), s.WarmedH U.vm → w.before a' U = true) ∧ Cond.codeWith y bytes maxL ret hh ∈ ws) ∧
  (Cond.codeWith y bytes maxL ret hh).before args s = true ∧ (Cond.initialized y.cls).before args s = true ∧ (y.cls ≠ "java/lang/invoke/MethodHandle" ∧ y.cls ≠ "java/lang/invoke/VarHandle") ∧
  (∀ sig, parseMethodDescriptor y.desc = some sig → n = sig.parameters.length) ∧ (Cond.methodLink own index y).before args s = true ∧ (Cond.static y).before args s = true
theorem vx_cwSW {own : String} {index maxL mc ms : Nat} {y : MethodName} {bytes : ByteArray} {ret : Option FieldType} {hh : List (Nat × Nat × Nat × Nat)} {Ts ws ws' : List Cond} {rm : Room} (n : Nat) (ht : ∀ w ∈ Ts, w.before args s = true) (hT : GoodIn Ts (va_wsS own index y ws)) (hw : ws = Cond.codeWith y bytes maxL ret hh :: ws') (hrc : rm.cells = mc) (hrs : rm.slots = ms)
    (hd : y.cls ≠ "java/lang/invoke/MethodHandle" ∧ y.cls ≠ "java/lang/invoke/VarHandle" ∧ (parseMethodDescriptor y.desc).map (fun d => d.parameters.length) = some n) (hR : rm.frames + 1 ≤ R.frames ∧ 8 + (maxL + 11) + rm.locals ≤ R.locals) :
    vx_CSW R s args own index y bytes maxL ret hh ws rm mc ms n := by
  have ok : ∀ w ∈ va_wsS own index y ws, w.before args s = true := fun w h => ht w (hT w h).1
  have hG : GoodIn Ts ws := fun w h => hT w (by unfold va_wsS; exact List.mem_append_right _ h)
  have hc : Cond.codeWith y bytes maxL ret hh ∈ ws := by rw [hw]; exact List.mem_cons_self
  refine ⟨⟨hrc, hrs, hR.1, hR.2, pay_in ht hG, hc⟩, ht _ (hG _ hc).1, ok _ (by simp [va_wsS]), ⟨hd.1, hd.2.1⟩, fun sig h => ?_, ok _ (by simp [va_wsS]), ok _ (by simp [va_wsS])⟩
  have h2 := hd.2.2
  rw [h] at h2
  exact (Option.some.inj h2).symm
theorem vx_callSW (X : Stand p l e R s m args below meth c T locs cells slots) (hexec : p.tables.exec = Jvm.exec) {own : String} {index : Nat} {y : MethodName} {bytes : ByteArray} {maxL : Nat} {ret : Option FieldType} {hh : List (Nat × Nat × Nat × Nat)}
    (hown : s.vm.findClass own = some m.cls) (hlink : (Cond.methodLink own index y).before args s = true) (hstat : (Cond.static y).before args s = true) (hinit : (Cond.initialized y.cls).before args s = true)
    (hcode : (Cond.codeWith y bytes maxL ret hh).before args s = true) (hy : y.cls ≠ "java/lang/invoke/MethodHandle" ∧ y.cls ≠ "java/lang/invoke/VarHandle")
    {W9 : Nat} {Pre : Pt → Array Value → Prop} {Post : Pt → Array Value → Option Value → Pt → Prop} (hK : Back l R p e below s args y 3 W9 Pre Post)
    {g : JFrame} (hg : g.method = m) (hsize : g.locals.size = c.maxLocals) {argsL rest : List Value} (hlen : ∀ sig, parseMethodDescriptor y.desc = some sig → argsL.length = sig.parameters.length)
    (hstack : g.stack = argsL.reverse ++ rest) (hW : 2 * g.monitorRoom + (rest.map fun v => v.category).sum ≤ W9) (hdg : decode c.code g.pc = .ok (.invokestatic index, 3))
    (hpre : ∀ vm₁, s.WarmedH vm₁ → Pre ⟨T.setVm vm₁, locs, cells, slots⟩ argsL.toArray) :
    ∃ (v : Option Value) (vm₁ : Vm) (B : Pt), s.WarmedH vm₁ ∧ Stand p l e R s m args below meth c B.U B.locs B.cells B.slots ∧ Post ⟨T.setVm vm₁, locs, cells, slots⟩ argsL.toArray v B ∧
      ∀ target, Steps p.tables e below (B.U.setTop { g with pc := g.pc + 3, stack := v.toList ++ rest }) target → Steps p.tables e below (T.setTop g) target := by
  obtain ⟨mk, methM, cM, hnamed, hmethM, -, -, -, -, -, -, hsigM⟩ := Cond.codeWith_spec hcode
  have hstatic : methM.isStatic = true := Cond.static_spec hnamed hmethM hstat
  obtain ⟨kP, hkP, -⟩ := className_of_methodNamed hnamed
  have hinitP : kP.init = .initialized := Cond.initialized_spec (findClass_of_methodNamed hnamed) hkP hinit
  obtain ⟨vm₁, X₁, hstep₁⟩ := X.invokestatic hexec hown hlink hnamed hmethM hstatic hkP hinitP hy (g := g) hg (argsL := argsL) (rest := rest) (hlen _ hsigM) hstack hdg
  obtain ⟨v, B, X', hpost, hsteps⟩ := hK m meth c ⟨T.setVm vm₁, locs, cells, slots⟩ { g with stack := rest } (.invokestatic index) mk argsL.toArray X₁ hg hsize hdg hW (X₁.named hnamed) (hpre vm₁ X₁.warmed)
  exact ⟨v, vm₁, B, X₁.warmed, X', hpost, fun target h => hstep₁ _ fun acts => by rw [doInvoke_state]; exact hsteps.trans h⟩
theorem vx_runSW {y : MethodName} {bytes cc : ByteArray} {maxL nL mc ms n index : Nat} {ret : Option FieldType} {hh : List (Nat × Nat × Nat × Nat)} {ws : List Cond} {rm : Room} {Pc : Array Value → State → Prop} {Qc : Array Value → State → Outcome → State → Prop} {free : Addr → Prop} {Ts : List Cond} {own : String} {As rest : List Value} {g : JFrame}
    (S : CallFix p m c cc nL s args Ts own) (hM : Met l y ws rm Pc Qc mc ms free) (cw : vx_CSW R s args own index y bytes maxL ret hh ws rm mc ms n) (hp : PreS s H Pc As)
    (hg : g.method = m) (hn : As.length = n) (hsize : g.locals.size = nL) (hstack : g.stack = As.reverse ++ rest) (hW : 2 * g.monitorRoom + (rest.map fun v => v.category).sum ≤ 8) (hdg : decode cc g.pc = .ok (.invokestatic index, 3)) (hf : cells + mc ≤ R.cells ∧ slots + ms ≤ R.slots) :
    va_Run p l e R s m args below meth c H locs cells slots mc ms g rest (Qc As.toArray) (free) := by
  obtain ⟨⟨hrc, hrs, hfr, hlo, hws, hcw⟩, hcode, hini, hy, hlen, hl, hstt⟩ := cw
  have hK : Back l R p e below s args y 3 8 (PreOf R mc ms Pc) (PostOf Qc mc ms free) := va_backW (hh := hh) (bytes := bytes) (maxL := maxL) (ret := ret) hM hp.1 hrc hrs hfr hlo hws hcw (fun a' U hW => word_at hW (Or.inl (by first | rfl | simp [Cond.onTables, Cond.keeps, Cond.steady])) hini)
  obtain ⟨hx, hb, hml, ho, -⟩ := S
  intro T hT X
  obtain ⟨v, vm₁, ⟨U', l2, c2, s2⟩, hW₁, X', ⟨g', mk, t, L, e1, e2, hq, h1, hL, h2, h3⟩, st⟩ := vx_callSW X hx (hh := hh) (bytes := bytes) (maxL := maxL) (ret := ret) ho hl hstt hini hcode hy hK hg (hsize.trans hml.symm) (argsL := As) (rest := rest) (fun sig h => hn.trans (hlen sig h)) hstack hW (by rw [hb]; exact hdg)
    (fun vm₁ hW₁ => ⟨hf.1, hf.2, hp.2 (T.setVm vm₁) hT hW₁⟩)
  dsimp only [Pt.U, Pt.locs, Pt.cells, Pt.slots] at X' e1 e2 h1 h2 h3 st
  subst h1; subst h2; subst h3
  exact ⟨v, (T.setVm vm₁).calling g' mk As.toArray, t, U', L, hT, X', hL, e1, e2, hq, st⟩
/-- not caught here, past rows that name other classes: it goes on to the caller -/
theorem vx_outP {p : Program} {l : Launch} {e : Env} {R : Room} {s : State} {m : MethodId} {args : Array Value} {below : List Frame} {meth : Method} {c : Code} {H : Heap} {locs : List Loc} {cells slots : Nat} {free : Addr → Prop} {ls : Array Slot} {rest : List Value} {Qc : Array Value → State → Outcome → State → Prop} {XC : String → State → State → Prop}
    {pc : Nat} {own E : String} {ce : Cell} {q : Addr} {mc ms : Nat} (hown : s.vm.findClass own = some m.cls) (hlocks : meth.locks = false)
    (hpass : ∀ z ∈ c.exceptionTable.toList, covers z pc = false ∨ (z.catchType ≠ 0 ∧ ∃ nm : String, (Cond.classLink own z.catchType nm).before args s = true ∧ va_Nc E nm s)) (hcell : H[q]? = some ce) (hv : ce.vm = .none) (hcl : s.vm.findClass E = some ce.cls)
    (hx : ∀ t : State, t.heap = H → s.vm.Alike t.vm → XC E s t) (hf : ∀ z ∈ locs, free z.base) (hc : cells ≤ mc) (hs : slots ≤ ms) :
    vx_W p l e R s m args below meth c H locs cells slots (vx_MQ below Qc XC args s mc ms free) (F0 m pc ls rest) q := by
  intro T hT X
  have hpl : e.platform.magicAccessors = ({} : Platform).magicAccessors := by rw [X.admits.platform]
  obtain ⟨vm', hW', X', st⟩ := X.outThrough hlocks q (g := F0 m pc ls rest) rfl rfl rfl (cell := ce) (by rw [hT]; exact hcell) (by rw [hv]; rfl)
    (by obtain ⟨k9, h9, -⟩ := Vm.findClass_spec hcl; exact ⟨k9, h9⟩) (fun z hz => by
      rcases hpass z hz with h | ⟨hz0, nm, hl1, hn1⟩
      · exact Or.inl h
      · obtain ⟨c6, hc6, hcl6⟩ := Cond.classLink_spec hown hl1 e.platform hpl
        obtain ⟨a8, b8, h1, h2, h3⟩ := hn1
        cases Option.some.inj (h1.symm.trans hcl)
        cases Option.some.inj (h2.symm.trans hc6)
        exact Or.inr ⟨hz0, _, hcl6, h3⟩)
  obtain ⟨g₀, hfr⟩ := X'.frames_eq
  have hcell9 : ((T.setVm vm').setFrames (.throwing q :: below)).heap[q]? = some ce := by
    show T.heap[q]? = some ce
    rw [hT]; exact hcell
  have hend : Ended ((T.setVm vm').setFrames (.throwing q :: below)) below (.threw q) := State.frames_setFrames _ (State.cur_lt_of_frames hfr)
  refine ⟨(T.setVm vm').setFrames (.throwing q :: below), ?_, .threw q, X'.here.running, hend, Or.inr ⟨q, rfl, E, ce, locs, hx _ hT (X'.ends _).1.alike, hcell9, hv, hcl, (X'.ends _).1, (X'.ends _).2.mono hc hs, hf⟩⟩
  rw [X.pushThrowing_eq]
  exact st
/-- a thing of a world lies in the heap -/
theorem vx_lt {D : va_G} {cl : List vw_C} {ws : va_W} {H1 : Heap} (h : va_P D cl ws H1) {k : Nat} {q : Nat × va_E} (hk : ws[k]? = some q) : q.1 < H1.size := (h k q hk).lt
end VXS
/-! ===== END ===== -/
/-! ===== BEGIN methods with a table of their own: called by a name, returning or throwing ===== -/
section VXH
/-! vx_backW, vx_callVX, vx_callSX, vx_callVW, vx_runVW, vx_runVX, vx_runSX, vx_ofWH follow the same proofs as their sisters above (Free/Laws.lean, Shelf42/LK1.lean); vx_outP calls Shelf42/NT130.lean (outThrough). -/
section
variable {l : Launch} {R : Room} {p : Program} {e : Env} {below : List Frame} {s : State} {sargs : Array Value} {y : MethodName} {len W9 : Nat}
theorem vx_backW {ws : List Cond} {rm : Room} {Pc : Array Value → State → Prop} {Qc : Array Value → State → Outcome → State → Prop} {XC : String → State → State → Prop} {mc ms : Nat} {free : Addr → Prop} {bytes : ByteArray} {maxL : Nat} {ret : Option FieldType} {hh : List (Nat × Nat × Nat × Nat)}
    (hM : vx_Met l y ws rm Pc Qc XC mc ms free) (hblind : FrameBlind Pc) (hrc : rm.cells = mc) (hrs : rm.slots = ms)
    (hframes : rm.frames + 1 ≤ R.frames) (hlocals : W9 + (maxL + 11) + rm.locals ≤ R.locals)
    (hws : ∀ w ∈ ws, ∀ a' U, s.WarmedH U.vm → w.before a' U = true) (hcode : Cond.codeWith y bytes maxL ret hh ∈ ws) (hinit : ∀ a' U, s.WarmedH U.vm → (Cond.initialized y.cls).before a' U = true) :
    vx_Back l R p e below s sargs y len W9 (PreOf R mc ms Pc) (PostOf Qc mc ms free) (vx_Post XC mc ms free) := by
  intro m meth c A g ig mk a X hg hsize hdg hW hn hp
  have h1 : (headSpec ws rm).pre.before a A.U = true := atoms_intro fun w hw => hws w hw _ _ X.warmed
  have h2 : (Cond.codeWith y bytes maxL ret hh).before a A.U = true := hws _ hcode _ _ X.warmed
  have h3 : (Cond.initialized y.cls).before a A.U = true := hinit _ _ X.warmed
  have h4 : A.cells + (headSpec ws rm).room.cells ≤ R.cells := by rw [show (headSpec ws rm).room.cells = mc from hrc]; exact hp.1
  have h5 : A.slots + (headSpec ws rm).room.slots ≤ R.slots := by rw [show (headSpec ws rm).room.slots = ms from hrs]; exact hp.2.1
  have hPc : Pc a (A.U.calling g mk a) := hblind _ _ _ _ hp.2.2
  obtain ⟨U, Ls, c0, s0⟩ := A
  dsimp only [Pt.U, Pt.locs, Pt.cells, Pt.slots] at h1 h2 h3 h4 h5 X hn hPc ⊢
  obtain ⟨m9, methY, cY, hn9, hmY, hcY, -, hlY, -⟩ := Cond.codeWith_spec h2
  cases Option.some.inj (hn9.symm.trans hn)
  obtain ⟨kY, hkY, -⟩ := className_of_methodNamed hn
  have hinitY : kY.init = .initialized := Cond.initialized_spec (findClass_of_methodNamed hn) hkY h3
  have h : At U g.method c below := by rw [hg]; exact X.here
  have hlocals9 : W9 + (maxL + 11) + (headSpec ws rm).room.locals ≤ R.locals := hlocals
  have happ : (headSpec ws rm).appliesLoose y e.platform (U.calling g mk a) = true :=
    Spec.appliesLoose_calling (g := g) h hdg hn hkY hinitY
      (X.room_calling (g := g) (R' := (headSpec ws rm).room) hsize hmY hcY hframes (by rw [hlY]; omega) h4 h5) h1
  obtain ⟨mid, hmid⟩ := h.above
  have hfr : (U.setTop g).frames = (.java g :: mid) ++ below := by rw [State.frames_setTop' g h.top, hmid]; rfl
  obtain ⟨o, s₂, hsteps, -, hend, hq⟩ := Steps.callFree hM p X.admits X.cas X.clock (acts := []) hfr happ hPc trivial
  have hq' : vx_Q Qc XC mc ms free a (U.calling g mk a) o s₂ := hq
  rw [State.frames_setTop' g h.top] at hend
  obtain ⟨g₀, hg0⟩ := Option.isSome_iff_exists.mp h.top
  obtain ⟨r, hr⟩ := State.topJava?_eq_some.mp hg0
  have hr' : (({ U with heap := s₂.heap, slotsUsed := s₂.slotsUsed } : State).setVm s₂.vm).frames = .java g₀ :: r := hr
  rcases hq' with ⟨hqc, L, hfe, hL⟩ | ⟨q, rfl, E, ce, L, hx, hce, hcv, hcl, hW₂, hsm, hL⟩
  · obtain ⟨⟨v, rfl⟩, hW₂, e2, q2, q3, q4, q5, q6⟩ := id hfe
    have e3 : s₂ = ({ (U.calling g mk a).setFrames s₂.frames with heap := s₂.heap, slotsUsed := s₂.slotsUsed } : State).setVm s₂.vm := by
      have : s₂ = ({ s₂ with vm := (U.calling g mk a).vm } : State).setVm s₂.vm := rfl
      rw [e2] at this
      exact this
    obtain ⟨c₂, i₂, len₂, hc₂, hd₂, hf₂⟩ := hend
    have hW' : U.WarmedH s₂.vm := hW₂
    have hcc : c₂ = c := by
      have h1 : s₂.code? g.method = U.code? g.method := by
        rw [State.code?_eq, State.code?_eq, hW'.alike.method?]
      exact Option.some.inj (hc₂.symm.trans (h1.trans h.code))
    subst hcc
    have hlen : len₂ = len := by rw [hdg] at hd₂; cases hd₂; rfl
    subst hlen
    have hs₂ : s₂ = (({ U with heap := s₂.heap, slotsUsed := s₂.slotsUsed } : State).setVm s₂.vm).setTop { g with pc := g.pc + len₂, stack := v.toList ++ g.stack } := by
      refine e3.trans ?_
      rw [hf₂, State.calling_eq h.top, State.setFrames_setFrames, State.setTop_of_frames _ hr', hr]
      rfl
    have hsame : U.sameButNew ({ U with heap := s₂.heap, slotsUsed := s₂.slotsUsed } : State) L mc ms := by
      refine ⟨?_, q2, q3, q4, q5, q6⟩
      obtain ⟨t, ht, -⟩ := State.frames_cons hr
      show ({ U with heap := s₂.heap, slotsUsed := s₂.slotsUsed } : State) = { U.setFrames U.frames with heap := s₂.heap, slotsUsed := s₂.slotsUsed }
      rw [State.setFrames_self ht]
    subst hg
    refine Or.inl ⟨v, ⟨(({ U with heap := s₂.heap, slotsUsed := s₂.slotsUsed } : State).setVm s₂.vm), Ls ++ L, c0 + mc, s0 + ms⟩,
      ⟨X.admits, X.cas, X.clock, X.frames, X.room, X.hears, X.method, X.code, (X.here.setHeapUsed s₂.heap s₂.slotsUsed).setVm hW'.alike, X.tail, State.WarmedH.trans X.warmed hW', X.limits, X.bytes, X.same.trans (hsame.setVm s.vm)⟩,
      ⟨g, mk, s₂, L, rfl, rfl, hqc, rfl, hL, rfl, rfl⟩, ?_⟩
    show Steps p.tables e below _ ((({ U with heap := s₂.heap, slotsUsed := s₂.slotsUsed } : State).setVm s₂.vm).setTop { g with pc := g.pc + len₂, stack := v.toList ++ g.stack })
    rw [← hs₂]
    exact hsteps
  · obtain ⟨e2, q2, q3, q4, q5, q6⟩ := id hsm
    have e3 : s₂ = ({ (U.calling g mk a).setFrames s₂.frames with heap := s₂.heap, slotsUsed := s₂.slotsUsed } : State).setVm s₂.vm := by
      have : s₂ = ({ s₂ with vm := (U.calling g mk a).vm } : State).setVm s₂.vm := rfl
      rw [e2] at this
      exact this
    have hf₂ : s₂.frames = .throwing q :: .java g :: U.frames.tail := hend
    have hW' : U.WarmedH s₂.vm := hW₂
    have hs₂ : s₂ = ((({ U with heap := s₂.heap, slotsUsed := s₂.slotsUsed } : State).setVm s₂.vm).setTop g).pushFrame (.throwing q) := by
      refine e3.trans ?_
      rw [hf₂, State.calling_eq h.top, State.setFrames_setFrames, State.pushFrame, State.frames_setTop _ hr', State.setTop_of_frames _ hr', State.setFrames_setFrames, hr]
      rfl
    have hsame : U.sameButNew ({ U with heap := s₂.heap, slotsUsed := s₂.slotsUsed } : State) L mc ms := by
      refine ⟨?_, q2, q3, q4, q5, q6⟩
      obtain ⟨t, ht, -⟩ := State.frames_cons hr
      show ({ U with heap := s₂.heap, slotsUsed := s₂.slotsUsed } : State) = { U.setFrames U.frames with heap := s₂.heap, slotsUsed := s₂.slotsUsed }
      rw [State.setFrames_self ht]
    subst hg
    refine Or.inr ⟨q, ⟨(({ U with heap := s₂.heap, slotsUsed := s₂.slotsUsed } : State).setVm s₂.vm), Ls ++ L, c0 + mc, s0 + ms⟩,
      ⟨X.admits, X.cas, X.clock, X.frames, X.room, X.hears, X.method, X.code, (X.here.setHeapUsed s₂.heap s₂.slotsUsed).setVm hW'.alike, X.tail, State.WarmedH.trans X.warmed hW', X.limits, X.bytes, X.same.trans (hsame.setVm s.vm)⟩,
      ⟨g, mk, s₂, L, E, ce, rfl, rfl, hx, hce, hcv, hcl, rfl, hL, rfl, rfl⟩, ?_⟩
    show Steps p.tables e below _ (((({ U with heap := s₂.heap, slotsUsed := s₂.slotsUsed } : State).setVm s₂.vm).setTop g).pushFrame (.throwing q))
    rw [← hs₂]
    exact hsteps
end
variable {p : Program} {l : Launch} {e : Env} {R : Room} {s : State} {m : MethodId} {args : Array Value} {below : List Frame} {meth : Method} {c : Code} {T : State} {H : Heap} {locs : List Loc} {cells slots : Nat}
theorem vx_callVX (X : Stand p l e R s m args below meth c T locs cells slots) (hexec : p.tables.exec = Jvm.exec) {own C : String} {index : Nat} {y : MethodName} {bytes : ByteArray} {maxL : Nat} {ret : Option FieldType} {hh : List (Nat × Nat × Nat × Nat)}
    (hown : s.vm.findClass own = some m.cls) (hlink : (Cond.methodLink own index y).before args s = true) (hinst : (Cond.instanceMethod y).before args s = true) (hsel : (Cond.selects C y y).before args s = true)
    (hcode : (Cond.codeWith y bytes maxL ret hh).before args s = true) (hy : y.cls ≠ "java/lang/invoke/MethodHandle" ∧ y.cls ≠ "java/lang/invoke/VarHandle")
    {W9 : Nat} {Pre : Pt → Array Value → Prop} {Post : Pt → Array Value → Option Value → Pt → Prop} {PostX : Pt → Array Value → Addr → Pt → Prop} (hK : vx_Back l R p e below s args y 3 W9 Pre Post PostX)
    {b : Addr} {cellB : Cell} (hcell : T.heap[b]? = some cellB) (hobj : cellB.vm.isStatics = false) (hcls : s.vm.findClass C = some cellB.cls)
    {g : JFrame} (hg : g.method = m) (hsize : g.locals.size = c.maxLocals) {argsL rest : List Value} (hlen : ∀ sig, parseMethodDescriptor y.desc = some sig → argsL.length = sig.parameters.length)
    (hstack : g.stack = argsL.reverse ++ .ref b :: rest) (hW : 2 * g.monitorRoom + (rest.map fun v => v.category).sum ≤ W9) (hdg : decode c.code g.pc = .ok (.invokevirtual index, 3))
    (hpre : ∀ vm₁, s.WarmedH vm₁ → Pre ⟨T.setVm vm₁, locs, cells, slots⟩ (Value.ref b :: argsL).toArray) :
    (∃ (v : Option Value) (vm₁ : Vm) (B : Pt), s.WarmedH vm₁ ∧ Stand p l e R s m args below meth c B.U B.locs B.cells B.slots ∧ Post ⟨T.setVm vm₁, locs, cells, slots⟩ (Value.ref b :: argsL).toArray v B ∧
      ∀ target, Steps p.tables e below (B.U.setTop { g with pc := g.pc + 3, stack := v.toList ++ rest }) target → Steps p.tables e below (T.setTop g) target) ∨
    (∃ (q : Addr) (vm₁ : Vm) (B : Pt), s.WarmedH vm₁ ∧ Stand p l e R s m args below meth c B.U B.locs B.cells B.slots ∧ PostX ⟨T.setVm vm₁, locs, cells, slots⟩ (Value.ref b :: argsL).toArray q B ∧
      Steps p.tables e below (T.setTop g) ((B.U.setTop { g with stack := rest }).pushFrame (.throwing q))) := by
  obtain ⟨mk, methM, hnamed, hmethM, hstM, habM⟩ := Cond.instanceMethod_spec hinst
  obtain ⟨m8, methM', cM, hn8, hmethM', -, -, -, -, -, -, hsigM⟩ := Cond.codeWith_spec hcode
  cases Option.some.inj (hn8.symm.trans hnamed)
  cases hmethM.symm.trans hmethM'
  obtain ⟨c2, r2, m2, q1, q2, q3, q4, kP, hkP, hkPi⟩ := Cond.selects_spec hsel
  cases hcls.symm.trans q1
  cases (State.methodFound?_of_named hnamed hy).symm.trans q2
  cases hnamed.symm.trans q3
  have hselP : selectMethod e.platform s.vm cellB.cls mk = .method mk := by rw [Launch.admits_selectMethod X.admits]; exact q4
  obtain ⟨vm₁, X₁, hstep₁⟩ := X.invokevirtual hexec hown hlink hnamed hmethM hstM hkP hkPi hy (a := b) (cell := cellB) hcell
    (fun z h => by rw [h] at hobj; cases hobj) hselP hmethM habM hkP hkPi (g := g) hg (argsL := argsL) (rest := rest) (hlen _ hsigM) hstack hdg
  rcases hK m meth c ⟨T.setVm vm₁, locs, cells, slots⟩ { g with stack := rest } (.invokevirtual index) mk (Value.ref b :: argsL).toArray X₁ hg hsize hdg hW (X₁.named hnamed) (hpre vm₁ X₁.warmed) with ⟨v, B, X', hpost, hsteps⟩ | ⟨q, B, X', hpost, hsteps⟩
  · exact Or.inl ⟨v, vm₁, B, X₁.warmed, X', hpost, fun target h => hstep₁ _ fun acts => by rw [doInvoke_state]; exact hsteps.trans h⟩
  · exact Or.inr ⟨q, vm₁, B, X₁.warmed, X', hpost, hstep₁ _ fun acts => by rw [doInvoke_state]; exact hsteps⟩
theorem vx_callSX (X : Stand p l e R s m args below meth c T locs cells slots) (hexec : p.tables.exec = Jvm.exec) {own : String} {index : Nat} {y : MethodName} {bytes : ByteArray} {maxL : Nat} {ret : Option FieldType} {hh : List (Nat × Nat × Nat × Nat)}
    (hown : s.vm.findClass own = some m.cls) (hlink : (Cond.methodLink own index y).before args s = true) (hstat : (Cond.static y).before args s = true) (hinit : (Cond.initialized y.cls).before args s = true)
    (hcode : (Cond.codeWith y bytes maxL ret hh).before args s = true) (hy : y.cls ≠ "java/lang/invoke/MethodHandle" ∧ y.cls ≠ "java/lang/invoke/VarHandle")
    {W9 : Nat} {Pre : Pt → Array Value → Prop} {Post : Pt → Array Value → Option Value → Pt → Prop} {PostX : Pt → Array Value → Addr → Pt → Prop} (hK : vx_Back l R p e below s args y 3 W9 Pre Post PostX)
    {g : JFrame} (hg : g.method = m) (hsize : g.locals.size = c.maxLocals) {argsL rest : List Value} (hlen : ∀ sig, parseMethodDescriptor y.desc = some sig → argsL.length = sig.parameters.length)
    (hstack : g.stack = argsL.reverse ++ rest) (hW : 2 * g.monitorRoom + (rest.map fun v => v.category).sum ≤ W9) (hdg : decode c.code g.pc = .ok (.invokestatic index, 3))
    (hpre : ∀ vm₁, s.WarmedH vm₁ → Pre ⟨T.setVm vm₁, locs, cells, slots⟩ argsL.toArray) :
    (∃ (v : Option Value) (vm₁ : Vm) (B : Pt), s.WarmedH vm₁ ∧ Stand p l e R s m args below meth c B.U B.locs B.cells B.slots ∧ Post ⟨T.setVm vm₁, locs, cells, slots⟩ argsL.toArray v B ∧
      ∀ target, Steps p.tables e below (B.U.setTop { g with pc := g.pc + 3, stack := v.toList ++ rest }) target → Steps p.tables e below (T.setTop g) target) ∨
    (∃ (q : Addr) (vm₁ : Vm) (B : Pt), s.WarmedH vm₁ ∧ Stand p l e R s m args below meth c B.U B.locs B.cells B.slots ∧ PostX ⟨T.setVm vm₁, locs, cells, slots⟩ argsL.toArray q B ∧
      Steps p.tables e below (T.setTop g) ((B.U.setTop { g with stack := rest }).pushFrame (.throwing q))) := by
  obtain ⟨mk, methM, cM, hnamed, hmethM, -, -, -, -, -, -, hsigM⟩ := Cond.codeWith_spec hcode
  have hstatic : methM.isStatic = true := Cond.static_spec hnamed hmethM hstat
  obtain ⟨kP, hkP, -⟩ := className_of_methodNamed hnamed
  have hinitP : kP.init = .initialized := Cond.initialized_spec (findClass_of_methodNamed hnamed) hkP hinit
  obtain ⟨vm₁, X₁, hstep₁⟩ := X.invokestatic hexec hown hlink hnamed hmethM hstatic hkP hinitP hy (g := g) hg (argsL := argsL) (rest := rest) (hlen _ hsigM) hstack hdg
  rcases hK m meth c ⟨T.setVm vm₁, locs, cells, slots⟩ { g with stack := rest } (.invokestatic index) mk argsL.toArray X₁ hg hsize hdg hW (X₁.named hnamed) (hpre vm₁ X₁.warmed) with ⟨v, B, X', hpost, hsteps⟩ | ⟨q, B, X', hpost, hsteps⟩
  · exact Or.inl ⟨v, vm₁, B, X₁.warmed, X', hpost, fun target h => hstep₁ _ fun acts => by rw [doInvoke_state]; exact hsteps.trans h⟩
  · exact Or.inr ⟨q, vm₁, B, X₁.warmed, X', hpost, hstep₁ _ fun acts => by rw [doInvoke_state]; exact hsteps⟩
theorem vx_callVW (X : Stand p l e R s m args below meth c T locs cells slots) (hexec : p.tables.exec = Jvm.exec) {own C : String} {index : Nat} {y : MethodName} {bytes : ByteArray} {maxL : Nat} {ret : Option FieldType} {hh : List (Nat × Nat × Nat × Nat)}
    (hown : s.vm.findClass own = some m.cls) (hlink : (Cond.methodLink own index y).before args s = true) (hinst : (Cond.instanceMethod y).before args s = true) (hsel : (Cond.selects C y y).before args s = true)
    (hcode : (Cond.codeWith y bytes maxL ret hh).before args s = true) (hy : y.cls ≠ "java/lang/invoke/MethodHandle" ∧ y.cls ≠ "java/lang/invoke/VarHandle")
    {W9 : Nat} {Pre : Pt → Array Value → Prop} {Post : Pt → Array Value → Option Value → Pt → Prop} (hK : Back l R p e below s args y 3 W9 Pre Post)
    {b : Addr} {cellB : Cell} (hcell : T.heap[b]? = some cellB) (hobj : cellB.vm.isStatics = false) (hcls : s.vm.findClass C = some cellB.cls)
    {g : JFrame} (hg : g.method = m) (hsize : g.locals.size = c.maxLocals) {argsL rest : List Value} (hlen : ∀ sig, parseMethodDescriptor y.desc = some sig → argsL.length = sig.parameters.length)
    (hstack : g.stack = argsL.reverse ++ .ref b :: rest) (hW : 2 * g.monitorRoom + (rest.map fun v => v.category).sum ≤ W9) (hdg : decode c.code g.pc = .ok (.invokevirtual index, 3))
    (hpre : ∀ vm₁, s.WarmedH vm₁ → Pre ⟨T.setVm vm₁, locs, cells, slots⟩ (Value.ref b :: argsL).toArray) :
    ∃ (v : Option Value) (vm₁ : Vm) (B : Pt), s.WarmedH vm₁ ∧ Stand p l e R s m args below meth c B.U B.locs B.cells B.slots ∧ Post ⟨T.setVm vm₁, locs, cells, slots⟩ (Value.ref b :: argsL).toArray v B ∧
      ∀ target, Steps p.tables e below (B.U.setTop { g with pc := g.pc + 3, stack := v.toList ++ rest }) target → Steps p.tables e below (T.setTop g) target := by
  obtain ⟨mk, methM, hnamed, hmethM, hstM, habM⟩ := Cond.instanceMethod_spec hinst
  obtain ⟨m8, methM', cM, hn8, hmethM', -, -, -, -, -, -, hsigM⟩ := Cond.codeWith_spec hcode
  cases Option.some.inj (hn8.symm.trans hnamed)
  cases hmethM.symm.trans hmethM'
  obtain ⟨c2, r2, m2, q1, q2, q3, q4, kP, hkP, hkPi⟩ := Cond.selects_spec hsel
  cases hcls.symm.trans q1
  cases (State.methodFound?_of_named hnamed hy).symm.trans q2
  cases hnamed.symm.trans q3
  have hselP : selectMethod e.platform s.vm cellB.cls mk = .method mk := by rw [Launch.admits_selectMethod X.admits]; exact q4
  obtain ⟨vm₁, X₁, hstep₁⟩ := X.invokevirtual hexec hown hlink hnamed hmethM hstM hkP hkPi hy (a := b) (cell := cellB) hcell
    (fun z h => by rw [h] at hobj; cases hobj) hselP hmethM habM hkP hkPi (g := g) hg (argsL := argsL) (rest := rest) (hlen _ hsigM) hstack hdg
  obtain ⟨v, B, X', hpost, hsteps⟩ := hK m meth c ⟨T.setVm vm₁, locs, cells, slots⟩ { g with stack := rest } (.invokevirtual index) mk (Value.ref b :: argsL).toArray X₁ hg hsize hdg hW (X₁.named hnamed) (hpre vm₁ X₁.warmed)
  exact ⟨v, vm₁, B, X₁.warmed, X', hpost, fun target h => hstep₁ _ fun acts => by rw [doInvoke_state]; exact hsteps.trans h⟩
abbrev vx_CVW (R : Room) (s : State) (args : Array Value) (own C : String) (index : Nat) (y : MethodName) (bytes : ByteArray) (maxL : Nat) (ret : Option FieldType) (hh : List (Nat × Nat × Nat × Nat)) (ws : List Cond) (rm : Room) (mc ms n : Nat) : Prop :=
  (rm.cells = mc ∧ rm.slots = ms ∧ rm.frames + 1 ≤ R.frames ∧ 8 + (maxL + 11) + rm.locals ≤ R.locals ∧ (∀ w ∈ ws, ∀ (a' : Array Value) (U : State), s.WarmedH U.vm → w.before a' U = true) ∧ Cond.codeWith y bytes maxL ret hh ∈ ws) ∧
  (Cond.codeWith y bytes maxL ret hh).before args s = true ∧ (Cond.initialized y.cls).before args s = true ∧ (y.cls ≠ "java/lang/invoke/MethodHandle" ∧ y.cls ≠ "java/lang/invoke/VarHandle") ∧
  (∀ sig, parseMethodDescriptor y.desc = some sig → n = sig.parameters.length) ∧ (Cond.methodLink own index y).before args s = true ∧ (Cond.instanceMethod y).before args s = true ∧ (Cond.selects C y y).before args s = true
theorem vx_cwVW {own C : String} {index maxL mc ms : Nat} {y : MethodName} {bytes : ByteArray} {ret : Option FieldType} {hh : List (Nat × Nat × Nat × Nat)} {Ts ws ws' : List Cond} {rm : Room} (n : Nat) (ht : ∀ w ∈ Ts, w.before args s = true) (hT : GoodIn Ts (wsV own index C y ws)) (hw : ws = Cond.codeWith y bytes maxL ret hh :: ws') (hrc : rm.cells = mc) (hrs : rm.slots = ms)
    (hd : y.cls = C ∧ y.cls ≠ "java/lang/invoke/MethodHandle" ∧ y.cls ≠ "java/lang/invoke/VarHandle" ∧ (parseMethodDescriptor y.desc).map (fun d => d.parameters.length) = some n) (hR : rm.frames + 1 ≤ R.frames ∧ 8 + (maxL + 11) + rm.locals ≤ R.locals) :
    vx_CVW R s args own C index y bytes maxL ret hh ws rm mc ms n := by
  obtain ⟨hC, hd⟩ := hd
  subst hC
  have ok : ∀ w ∈ wsV own index y.cls y ws, w.before args s = true := fun w h => ht w (hT w h).1
  have hG : GoodIn Ts ws := fun w h => hT w (by unfold wsV; exact List.mem_append_right _ h)
  have hc : Cond.codeWith y bytes maxL ret hh ∈ ws := by rw [hw]; exact List.mem_cons_self
  refine ⟨⟨hrc, hrs, hR.1, hR.2, pay_in ht hG, hc⟩, ht _ (hG _ hc).1, ok _ (by simp [wsV]), ⟨hd.1, hd.2.1⟩, fun sig h => ?_, ok _ (by simp [wsV]), ok _ (by simp [wsV]), ok _ (by simp [wsV])⟩
  have h2 := hd.2.2
  rw [h] at h2
  exact (Option.some.inj h2).symm
theorem vx_runVW {y : MethodName} {bytes cc : ByteArray} {maxL nL mc ms n index : Nat} {ret : Option FieldType} {hh : List (Nat × Nat × Nat × Nat)} {ws : List Cond} {rm : Room} {Pc : Array Value → State → Prop} {Qc : Array Value → State → Outcome → State → Prop} {free : Addr → Prop} {Ts : List Cond} {own C : String} {b : Addr} {As rest : List Value} {g : JFrame}
    (S : CallFix p m c cc nL s args Ts own) (hM : Met l y ws rm Pc Qc mc ms free) (cw : vx_CVW R s args own C index y bytes maxL ret hh ws rm mc ms n) (hp : PreV s H C b Pc As)
    (hg : g.method = m) (hn : As.length = n) (hsize : g.locals.size = nL) (hstack : g.stack = As.reverse ++ .ref b :: rest) (hW : 2 * g.monitorRoom + (rest.map fun v => v.category).sum ≤ 8) (hdg : decode cc g.pc = .ok (.invokevirtual index, 3)) (hf : cells + mc ≤ R.cells ∧ slots + ms ≤ R.slots) :
    va_Run p l e R s m args below meth c H locs cells slots mc ms g rest (Qc (Value.ref b :: As).toArray) free := by
  obtain ⟨⟨hrc, hrs, hfr, hlo, hws, hcw⟩, hcode, hini, hy, hlen, hl, hin, hse⟩ := cw
  have hK : Back l R p e below s args y 3 8 (PreOf R mc ms Pc) (PostOf Qc mc ms free) := va_backW (hh := hh) (bytes := bytes) (maxL := maxL) (ret := ret) hM hp.1 hrc hrs hfr hlo hws hcw (fun a' U hW => word_at hW (Or.inl (by first | rfl | simp [Cond.onTables, Cond.keeps, Cond.steady])) hini)
  obtain ⟨hx, hb, hml, ho, -⟩ := S
  obtain ⟨-, ⟨cellB, hcB, hoB, hclB⟩, hPc⟩ := hp
  intro T hT X
  obtain ⟨v, vm₁, ⟨U', l2, c2, s2⟩, hW₁, X', ⟨g', mk, t, L, e1, e2, hq, h1, hL, h2, h3⟩, st⟩ := vx_callVW X hx (C := C) (hh := hh) (bytes := bytes) (maxL := maxL) (ret := ret) ho hl hin hse hcode hy hK (by rw [hT]; exact hcB) hoB hclB hg (hsize.trans hml.symm) (argsL := As) (rest := rest) (fun sig h => hn.trans (hlen sig h)) hstack hW (by rw [hb]; exact hdg)
    (fun vm₁ hW₁ => ⟨hf.1, hf.2, hPc (T.setVm vm₁) hT hW₁⟩)
  dsimp only [Pt.U, Pt.locs, Pt.cells, Pt.slots] at X' e1 e2 h1 h2 h3 st
  subst h1; subst h2; subst h3
  exact ⟨v, (T.setVm vm₁).calling g' mk (Value.ref b :: As).toArray, t, U', L, hT, X', hL, e1, e2, hq, st⟩
section
variable {y : MethodName} {bytes cc : ByteArray} {maxL nL mc ms n index : Nat} {ret : Option FieldType} {ws : List Cond} {rm : Room} {Pc : Array Value → State → Prop} {Qc : Array Value → State → Outcome → State → Prop} {XC : String → State → State → Prop} {free : Addr → Prop} {Ts : List Cond} {own C : String} {b : Addr} {As rest : List Value} {g : JFrame}
theorem vx_runVX {hh : List (Nat × Nat × Nat × Nat)} (S : CallFix p m c cc nL s args Ts own) (hM : vx_Met l y ws rm Pc Qc XC mc ms free) (cw : vx_CVW R s args own C index y bytes maxL ret hh ws rm mc ms n) (hp : PreV s H C b Pc As)
    (hg : g.method = m) (hn : As.length = n) (hsize : g.locals.size = nL) (hstack : g.stack = As.reverse ++ .ref b :: rest) (hW : 2 * g.monitorRoom + (rest.map fun v => v.category).sum ≤ 8) (hdg : decode cc g.pc = .ok (.invokevirtual index, 3)) (hf : cells + mc ≤ R.cells ∧ slots + ms ≤ R.slots) :
    vx_Run p l e R s m args below meth c H locs cells slots mc ms g rest (Qc (Value.ref b :: As).toArray) XC free := by
  obtain ⟨⟨hrc, hrs, hfr, hlo, hws, hcw⟩, hcode, hini, hy, hlen, hl, hin, hse⟩ := cw
  have hK : vx_Back l R p e below s args y 3 8 (PreOf R mc ms Pc) (PostOf Qc mc ms free) (vx_Post XC mc ms free) := vx_backW (hh := hh) (bytes := bytes) (maxL := maxL) (ret := ret) hM hp.1 hrc hrs hfr hlo hws hcw (fun a' U hW => word_at hW (Or.inl (by first | rfl | simp [Cond.onTables, Cond.keeps, Cond.steady])) hini)
  obtain ⟨hx, hb, hml, ho, -⟩ := S
  obtain ⟨-, ⟨cellB, hcB, hoB, hclB⟩, hPc⟩ := hp
  intro T hT X
  rcases vx_callVX X hx (C := C) (hh := hh) (bytes := bytes) (maxL := maxL) (ret := ret) ho hl hin hse hcode hy hK (by rw [hT]; exact hcB) hoB hclB hg (hsize.trans hml.symm) (argsL := As) (rest := rest) (fun sig h => hn.trans (hlen sig h)) hstack hW (by rw [hb]; exact hdg)
    (fun vm₁ hW₁ => ⟨hf.1, hf.2, hPc (T.setVm vm₁) hT hW₁⟩) with ⟨v, vm₁, ⟨U', l2, c2, s2⟩, hW₁, X', ⟨g', mk, t, L, e1, e2, hq, h1, hL, h2, h3⟩, st⟩ | ⟨q, vm₁, ⟨U', l2, c2, s2⟩, hW₁, X', ⟨g', mk, t, L, E, ce, e1, e2, hq, hce, hcv, hcl, h1, hL, h2, h3⟩, st⟩
  · dsimp only [Pt.U, Pt.locs, Pt.cells, Pt.slots] at X' e1 e2 h1 h2 h3 st
    subst h1; subst h2; subst h3
    exact Or.inl ⟨v, (T.setVm vm₁).calling g' mk (Value.ref b :: As).toArray, t, U', L, hT, X', hL, e1, e2, hq, st⟩
  · dsimp only [Pt.U, Pt.locs, Pt.cells, Pt.slots] at X' e1 e2 h1 h2 h3 st hcl
    subst h1; subst h2; subst h3
    exact Or.inr ⟨q, (T.setVm vm₁).calling g' mk (Value.ref b :: As).toArray, t, U', L, E, ce, hT, X', hL, e1, e2, hq, hce, hcv, vx_cls hW₁ hcl, st⟩
theorem vx_runSX {hh : List (Nat × Nat × Nat × Nat)} (S : CallFix p m c cc nL s args Ts own) (hM : vx_Met l y ws rm Pc Qc XC mc ms free) (cw : vx_CSW R s args own index y bytes maxL ret hh ws rm mc ms n) (hp : PreS s H Pc As)
    (hg : g.method = m) (hn : As.length = n) (hsize : g.locals.size = nL) (hstack : g.stack = As.reverse ++ rest) (hW : 2 * g.monitorRoom + (rest.map fun v => v.category).sum ≤ 8) (hdg : decode cc g.pc = .ok (.invokestatic index, 3)) (hf : cells + mc ≤ R.cells ∧ slots + ms ≤ R.slots) :
    vx_Run p l e R s m args below meth c H locs cells slots mc ms g rest (Qc As.toArray) XC free := by
  obtain ⟨⟨hrc, hrs, hfr, hlo, hws, hcw⟩, hcode, hini, hy, hlen, hl, hstt⟩ := cw
  have hK : vx_Back l R p e below s args y 3 8 (PreOf R mc ms Pc) (PostOf Qc mc ms free) (vx_Post XC mc ms free) := vx_backW (hh := hh) (bytes := bytes) (maxL := maxL) (ret := ret) hM hp.1 hrc hrs hfr hlo hws hcw (fun a' U hW => word_at hW (Or.inl (by first | rfl | simp [Cond.onTables, Cond.keeps, Cond.steady])) hini)
  obtain ⟨hx, hb, hml, ho, -⟩ := S
  intro T hT X
  rcases vx_callSX X hx (hh := hh) (bytes := bytes) (maxL := maxL) (ret := ret) ho hl hstt hini hcode hy hK hg (hsize.trans hml.symm) (argsL := As) (rest := rest) (fun sig h => hn.trans (hlen sig h)) hstack hW (by rw [hb]; exact hdg)
    (fun vm₁ hW₁ => ⟨hf.1, hf.2, hp.2 (T.setVm vm₁) hT hW₁⟩) with ⟨v, vm₁, ⟨U', l2, c2, s2⟩, hW₁, X', ⟨g', mk, t, L, e1, e2, hq, h1, hL, h2, h3⟩, st⟩ | ⟨q, vm₁, ⟨U', l2, c2, s2⟩, hW₁, X', ⟨g', mk, t, L, E, ce, e1, e2, hq, hce, hcv, hcl, h1, hL, h2, h3⟩, st⟩
  · dsimp only [Pt.U, Pt.locs, Pt.cells, Pt.slots] at X' e1 e2 h1 h2 h3 st
    subst h1; subst h2; subst h3
    exact Or.inl ⟨v, (T.setVm vm₁).calling g' mk As.toArray, t, U', L, hT, X', hL, e1, e2, hq, st⟩
  · dsimp only [Pt.U, Pt.locs, Pt.cells, Pt.slots] at X' e1 e2 h1 h2 h3 st hcl
    subst h1; subst h2; subst h3
    exact Or.inr ⟨q, (T.setVm vm₁).calling g' mk As.toArray, t, U', L, E, ce, hT, X', hL, e1, e2, hq, hce, hcv, vx_cls hW₁ hcl, st⟩
end
end VXH
theorem vx_ofWH {l : Launch} {y : MethodName} {ws ws' : List Cond} {rm : Room} {Pc : Array Value → State → Prop} {Qc : Array Value → State → Outcome → State → Prop} {XC : String → State → State → Prop} {mc ms : Nat} {free : Addr → Prop} {cc : ByteArray} {maxL : Nat} {ret : Option FieldType} {hh : List (Nat × Nat × Nat × Nat)}
    (hy : plainName y.cls = true) (hw : ws = Cond.codeWith y cc maxL ret hh :: ws')
    (body : ∀ p e s m args below meth c s₁, BodyLoose p l y (headSpec ws rm) cc maxL ret e s m args below meth c s₁ → c.maxLocals = maxL → Pc args s →
      W p l e (headSpec ws rm).room s m args below meth c s.heap [] 0 0 (vx_MQ below Qc XC args s mc ms free) (entryFrame m args maxL)) : vx_Met l y ws rm Pc Qc XC mc ms free := by
  refine MetFree.of_bodyS (code := cc) (maxLocals := maxL) (ret := ret) hy ?_ ?_
  · intro args s m h hn
    obtain ⟨m9, meth, c, hn9, h1, h2, h3, h4, -, h5, h6, -⟩ := Cond.codeWith_spec (atoms_spec (ws := ws) h _ (by rw [hw]; exact List.mem_cons_self))
    cases hn.symm.trans hn9
    exact ⟨meth, c, h1, h2, h3, h4, h5, h6⟩
  · intro p e s m args below meth c s₁ B hml hP _
    have hh0 : s₁.heap = s.heap := by rw [B.state]; rfl
    obtain ⟨t, a1, o, b1, b2, b3⟩ := body p e s m args below meth c s₁ B hml hP s₁ hh0 (Stand.of_body B)
    exact ⟨t, o, a1, b1, b2, b3⟩
/-! ===== END ===== -/
end
section
/-! ===== BEGIN printed: names, fields, word lists, decode rows ===== -/
def RX0 : String := "LatticePaths$Board"
def TX0 : u_T := fun k => match k with
  | 0 => ("LatticePaths$Board", "trails", "[LLatticePaths$Trail;", true)
  | 1 => ("LatticePaths$Board", "pathCount", "I", false)
  | 2 => ("LatticePaths$Board", "stepsMade", "I", false)
  | 3 => ("LatticePaths$Board", "refusals", "I", false)
  | 4 => ("LatticePaths$Board", "turnsMade", "I", false)
  | 5 => ("LatticePaths$Board", "pathAt", "[I", true)
  | 6 => ("LatticePaths$Board", "placeAt", "[I", true)
  | _ => ("LatticePaths$Board", "takenSites", "I", false)
def tyX0 : Nat → FieldType := fun k => match k with
  | 0 => .array (.object "LatticePaths$Trail")
  | 1 => .int
  | 2 => .int
  | 3 => .int
  | 4 => .int
  | 5 => .array .int
  | 6 => .array .int
  | _ => .int
abbrev wsX00 : List Cond := u_ws RX0 TX0 8
theorem nmX0 : ∀ a, a < 8 → ∀ b, b < 8 → a ≠ b → (TX0 a).2.1 ≠ (TX0 b).2.1 := by decide +kernel
theorem tyX0_ok : ∀ k, k < 8 → parseFieldDescriptor (TX0 k).2.2.1 = some (tyX0 k) := by decide +kernel
abbrev cX0_init : ByteArray := prog_2_method_1_code
def yX0_init : MethodName := ⟨RX0, "<init>", "()V"⟩
abbrev cX0_markSites : ByteArray := prog_2_method_2_code
def yX0_markSites : MethodName := ⟨RX0, "markSites", "()V"⟩
abbrev cX0_mark : ByteArray := prog_2_method_3_code
def yX0_mark : MethodName := ⟨RX0, "mark", "(III)V"⟩
abbrev cX0_pathCount : ByteArray := prog_2_method_4_code
def yX0_pathCount : MethodName := ⟨RX0, "pathCount", "()I"⟩
abbrev cX0_isFull : ByteArray := prog_2_method_5_code
def yX0_isFull : MethodName := ⟨RX0, "isFull", "()Z"⟩
abbrev cX0_trail : ByteArray := prog_2_method_6_code
def yX0_trail : MethodName := ⟨RX0, "trail", "(I)LLatticePaths$Trail;"⟩
abbrev cX0_pathAt : ByteArray := prog_2_method_7_code
def yX0_pathAt : MethodName := ⟨RX0, "pathAt", "(I)I"⟩
abbrev cX0_placeAt : ByteArray := prog_2_method_8_code
def yX0_placeAt : MethodName := ⟨RX0, "placeAt", "(I)I"⟩
abbrev cX0_isFree : ByteArray := prog_2_method_9_code
def yX0_isFree : MethodName := ⟨RX0, "isFree", "(I)Z"⟩
abbrev cX0_takenSites : ByteArray := prog_2_method_10_code
def yX0_takenSites : MethodName := ⟨RX0, "takenSites", "()I"⟩
abbrev cX0_stepsMade : ByteArray := prog_2_method_11_code
def yX0_stepsMade : MethodName := ⟨RX0, "stepsMade", "()I"⟩
abbrev cX0_refusals : ByteArray := prog_2_method_12_code
def yX0_refusals : MethodName := ⟨RX0, "refusals", "()I"⟩
abbrev cX0_turnsMade : ByteArray := prog_2_method_13_code
def yX0_turnsMade : MethodName := ⟨RX0, "turnsMade", "()I"⟩
abbrev cX0_add : ByteArray := prog_2_method_14_code
def yX0_add : MethodName := ⟨RX0, "add", "(LLatticePaths$Trail;)I"⟩
abbrev cX0_lengthen : ByteArray := prog_2_method_15_code
def yX0_lengthen : MethodName := ⟨RX0, "lengthen", "(II)I"⟩
abbrev cX0_creep : ByteArray := prog_2_method_16_code
def yX0_creep : MethodName := ⟨RX0, "creep", "(II)I"⟩
abbrev cX0_refusalAt : ByteArray := prog_2_method_17_code
def yX0_refusalAt : MethodName := ⟨RX0, "refusalAt", "(II)I"⟩
abbrev cX0_noteStep : ByteArray := prog_2_method_18_code
def yX0_noteStep : MethodName := ⟨RX0, "noteStep", "(I)V"⟩
abbrev cX0_noteTurn : ByteArray := prog_2_method_19_code
def yX0_noteTurn : MethodName := ⟨RX0, "noteTurn", "(I)V"⟩
abbrev cX0_shorten : ByteArray := prog_2_method_20_code
def yX0_shorten : MethodName := ⟨RX0, "shorten", "(I)I"⟩
abbrev cX0_flip : ByteArray := prog_2_method_21_code
def yX0_flip : MethodName := ⟨RX0, "flip", "(I)I"⟩
abbrev cX0_weld : ByteArray := prog_2_method_22_code
def yX0_weld : MethodName := ⟨RX0, "weld", "(II)I"⟩
abbrev cX0_cut : ByteArray := prog_2_method_23_code
def yX0_cut : MethodName := ⟨RX0, "cut", "(II)I"⟩
abbrev cX0_drop : ByteArray := prog_2_method_24_code
def yX0_drop : MethodName := ⟨RX0, "drop", "(I)V"⟩
abbrev cX0_freeDirections : ByteArray := prog_2_method_25_code
def yX0_freeDirections : MethodName := ⟨RX0, "freeDirections", "(I)I"⟩
abbrev cX0_contacts : ByteArray := prog_2_method_26_code
def yX0_contacts : MethodName := ⟨RX0, "contacts", "(I)I"⟩
abbrev cX0_touchingPairs : ByteArray := prog_2_method_27_code
def yX0_touchingPairs : MethodName := ⟨RX0, "touchingPairs", "(II)I"⟩
abbrev cX0_freeBorder : ByteArray := prog_2_method_28_code
def yX0_freeBorder : MethodName := ⟨RX0, "freeBorder", "(I)I"⟩
abbrev cX0_neighboursIn : ByteArray := prog_2_method_29_code
def yX0_neighboursIn : MethodName := ⟨RX0, "neighboursIn", "(II)I"⟩
def RX1 : String := "LatticePaths$History"
def TX1 : u_T := fun k => match k with
  | 0 => ("LatticePaths$History", "ring", "[LLatticePaths$SavedState;", true)
  | 1 => ("LatticePaths$History", "oldest", "I", false)
  | _ => ("LatticePaths$History", "size", "I", false)
def tyX1 : Nat → FieldType := fun k => match k with
  | 0 => .array (.object "LatticePaths$SavedState")
  | 1 => .int
  | _ => .int
abbrev wsX10 : List Cond := u_ws RX1 TX1 3
theorem nmX1 : ∀ a, a < 3 → ∀ b, b < 3 → a ≠ b → (TX1 a).2.1 ≠ (TX1 b).2.1 := by decide +kernel
theorem tyX1_ok : ∀ k, k < 3 → parseFieldDescriptor (TX1 k).2.2.1 = some (tyX1 k) := by decide +kernel
abbrev cX1_init : ByteArray := prog_3_method_1_code
def yX1_init : MethodName := ⟨RX1, "<init>", "()V"⟩
abbrev cX1_size : ByteArray := prog_3_method_2_code
def yX1_size : MethodName := ⟨RX1, "size", "()I"⟩
abbrev cX1_save : ByteArray := prog_3_method_3_code
def yX1_save : MethodName := ⟨RX1, "save", "(LLatticePaths$Board;)V"⟩
abbrev cX1_restoreLast : ByteArray := prog_3_method_4_code
def yX1_restoreLast : MethodName := ⟨RX1, "restoreLast", "(LLatticePaths$Board;)V"⟩
def RX2 : String := "LatticePaths$Lattice"
def TX2 : u_T := fun k => match k with
  | _ => ("", "", "", false)
def tyX2 : Nat → FieldType := fun k => match k with
  | _ => .int
abbrev wsX20 : List Cond := u_ws RX2 TX2 0
theorem nmX2 : ∀ a, a < 0 → ∀ b, b < 0 → a ≠ b → (TX2 a).2.1 ≠ (TX2 b).2.1 := by decide +kernel
theorem tyX2_ok : ∀ k, k < 0 → parseFieldDescriptor (TX2 k).2.2.1 = some (tyX2 k) := by decide +kernel
abbrev cX2_number : ByteArray := prog_4_method_2_code
def yX2_number : MethodName := ⟨RX2, "number", "(II)I"⟩
abbrev cX2_isSite : ByteArray := prog_4_method_3_code
def yX2_isSite : MethodName := ⟨RX2, "isSite", "(I)Z"⟩
abbrev cX2_column : ByteArray := prog_4_method_4_code
def yX2_column : MethodName := ⟨RX2, "column", "(I)I"⟩
abbrev cX2_row : ByteArray := prog_4_method_5_code
def yX2_row : MethodName := ⟨RX2, "row", "(I)I"⟩
abbrev cX2_neighbour : ByteArray := prog_4_method_6_code
def yX2_neighbour : MethodName := ⟨RX2, "neighbour", "(II)I"⟩
abbrev cX2_direction : ByteArray := prog_4_method_7_code
def yX2_direction : MethodName := ⟨RX2, "direction", "(II)I"⟩
abbrev cX2_squaredDistance : ByteArray := prog_4_method_8_code
def yX2_squaredDistance : MethodName := ⟨RX2, "squaredDistance", "(II)I"⟩
abbrev cX2_areNeighbours : ByteArray := prog_4_method_9_code
def yX2_areNeighbours : MethodName := ⟨RX2, "areNeighbours", "(II)Z"⟩
def RX3 : String := "LatticePaths$PathText"
def TX3 : u_T := fun k => match k with
  | 0 => ("LatticePaths$PathText", "characters", "[C", true)
  | _ => ("LatticePaths$PathText", "length", "I", false)
def tyX3 : Nat → FieldType := fun k => match k with
  | 0 => .array .char
  | _ => .int
abbrev wsX30 : List Cond := u_ws RX3 TX3 2
theorem nmX3 : ∀ a, a < 2 → ∀ b, b < 2 → a ≠ b → (TX3 a).2.1 ≠ (TX3 b).2.1 := by decide +kernel
theorem tyX3_ok : ∀ k, k < 2 → parseFieldDescriptor (TX3 k).2.2.1 = some (tyX3 k) := by decide +kernel
abbrev cX3_init : ByteArray := prog_5_method_1_code
def yX3_init : MethodName := ⟨RX3, "<init>", "()V"⟩
abbrev cX3_length : ByteArray := prog_5_method_2_code
def yX3_length : MethodName := ⟨RX3, "length", "()I"⟩
abbrev cX3_isFull : ByteArray := prog_5_method_3_code
def yX3_isFull : MethodName := ⟨RX3, "isFull", "()Z"⟩
abbrev cX3_clear : ByteArray := prog_5_method_4_code
def yX3_clear : MethodName := ⟨RX3, "clear", "()V"⟩
abbrev cX3_add : ByteArray := prog_5_method_5_code
def yX3_add : MethodName := ⟨RX3, "add", "(C)V"⟩
abbrev cX3_errorIndex : ByteArray := prog_5_method_6_code
def yX3_errorIndex : MethodName := ⟨RX3, "errorIndex", "()I"⟩
abbrev cX3_isComplete : ByteArray := prog_5_method_7_code
def yX3_isComplete : MethodName := ⟨RX3, "isComplete", "()Z"⟩
abbrev cX3_fits : ByteArray := prog_5_method_8_code
def yX3_fits : MethodName := ⟨RX3, "fits", "(IC)Z"⟩
abbrev cX3_layOut : ByteArray := prog_5_method_9_code
def yX3_layOut : MethodName := ⟨RX3, "layOut", "(LLatticePaths$Trail;LLatticePaths$Board;)Z"⟩
abbrev cX3_tell : ByteArray := prog_5_method_10_code
def yX3_tell : MethodName := ⟨RX3, "tell", "(LLatticePaths$Trail;)V"⟩
def RX4 : String := "LatticePaths$Regions"
def TX4 : u_T := fun k => match k with
  | 0 => ("LatticePaths$Regions", "regionAt", "[I", true)
  | 1 => ("LatticePaths$Regions", "siteCounts", "[I", true)
  | 2 => ("LatticePaths$Regions", "chosen", "[Z", true)
  | 3 => ("LatticePaths$Regions", "found", "[I", true)
  | _ => ("LatticePaths$Regions", "size", "I", false)
def tyX4 : Nat → FieldType := fun k => match k with
  | 0 => .array .int
  | 1 => .array .int
  | 2 => .array .boolean
  | 3 => .array .int
  | _ => .int
abbrev wsX40 : List Cond := u_ws RX4 TX4 5
theorem nmX4 : ∀ a, a < 5 → ∀ b, b < 5 → a ≠ b → (TX4 a).2.1 ≠ (TX4 b).2.1 := by decide +kernel
theorem tyX4_ok : ∀ k, k < 5 → parseFieldDescriptor (TX4 k).2.2.1 = some (tyX4 k) := by decide +kernel
abbrev cX4_init : ByteArray := prog_6_method_1_code
def yX4_init : MethodName := ⟨RX4, "<init>", "()V"⟩
abbrev cX4_explore : ByteArray := prog_6_method_2_code
def yX4_explore : MethodName := ⟨RX4, "explore", "(LLatticePaths$Board;)V"⟩
abbrev cX4_flood : ByteArray := prog_6_method_3_code
def yX4_flood : MethodName := ⟨RX4, "flood", "(LLatticePaths$Board;I)I"⟩
abbrev cX4_isUnseen : ByteArray := prog_6_method_4_code
def yX4_isUnseen : MethodName := ⟨RX4, "isUnseen", "(LLatticePaths$Board;I)Z"⟩
abbrev cX4_size : ByteArray := prog_6_method_5_code
def yX4_size : MethodName := ⟨RX4, "size", "()I"⟩
abbrev cX4_greatest : ByteArray := prog_6_method_6_code
def yX4_greatest : MethodName := ⟨RX4, "greatest", "()I"⟩
abbrev cX4_chooseAround : ByteArray := prog_6_method_7_code
def yX4_chooseAround : MethodName := ⟨RX4, "chooseAround", "(I)V"⟩
abbrev cX4_chosenRegions : ByteArray := prog_6_method_8_code
def yX4_chosenRegions : MethodName := ⟨RX4, "chosenRegions", "()I"⟩
abbrev cX4_chosenSites : ByteArray := prog_6_method_9_code
def yX4_chosenSites : MethodName := ⟨RX4, "chosenSites", "()I"⟩
def RX5 : String := "LatticePaths$SavedState"
def TX5 : u_T := fun k => match k with
  | 0 => ("LatticePaths$SavedState", "sites", "[I", true)
  | 1 => ("LatticePaths$SavedState", "lengths", "[I", true)
  | 2 => ("LatticePaths$SavedState", "pathCount", "I", false)
  | 3 => ("LatticePaths$SavedState", "stepsMade", "I", false)
  | 4 => ("LatticePaths$SavedState", "refusals", "I", false)
  | _ => ("LatticePaths$SavedState", "turnsMade", "I", false)
def tyX5 : Nat → FieldType := fun k => match k with
  | 0 => .array .int
  | 1 => .array .int
  | 2 => .int
  | 3 => .int
  | 4 => .int
  | _ => .int
abbrev wsX50 : List Cond := u_ws RX5 TX5 6
theorem nmX5 : ∀ a, a < 6 → ∀ b, b < 6 → a ≠ b → (TX5 a).2.1 ≠ (TX5 b).2.1 := by decide +kernel
theorem tyX5_ok : ∀ k, k < 6 → parseFieldDescriptor (TX5 k).2.2.1 = some (tyX5 k) := by decide +kernel
abbrev cX5_init : ByteArray := prog_7_method_1_code
def yX5_init : MethodName := ⟨RX5, "<init>", "()V"⟩
abbrev cX5_take : ByteArray := prog_7_method_2_code
def yX5_take : MethodName := ⟨RX5, "take", "(LLatticePaths$Board;)V"⟩
abbrev cX5_putInto : ByteArray := prog_7_method_3_code
def yX5_putInto : MethodName := ⟨RX5, "putInto", "(LLatticePaths$Board;)V"⟩
def RX6 : String := "LatticePaths$Scout"
def TX6 : u_T := fun k => match k with
  | _ => ("LatticePaths$Scout", "taken", "[Z", true)
def tyX6 : Nat → FieldType := fun k => match k with
  | _ => .array .boolean
abbrev wsX60 : List Cond := u_ws RX6 TX6 1
theorem nmX6 : ∀ a, a < 1 → ∀ b, b < 1 → a ≠ b → (TX6 a).2.1 ≠ (TX6 b).2.1 := by decide +kernel
theorem tyX6_ok : ∀ k, k < 1 → parseFieldDescriptor (TX6 k).2.2.1 = some (tyX6 k) := by decide +kernel
abbrev cX6_init : ByteArray := prog_8_method_1_code
def yX6_init : MethodName := ⟨RX6, "<init>", "()V"⟩
abbrev cX6_rowsOfSteps : ByteArray := prog_8_method_2_code
def yX6_rowsOfSteps : MethodName := ⟨RX6, "rowsOfSteps", "(LLatticePaths$Board;II)I"⟩
abbrev cX6_bestDirection : ByteArray := prog_8_method_3_code
def yX6_bestDirection : MethodName := ⟨RX6, "bestDirection", "(LLatticePaths$Board;I)I"⟩
abbrev cX6_survey : ByteArray := prog_8_method_4_code
def yX6_survey : MethodName := ⟨RX6, "survey", "(LLatticePaths$Board;)V"⟩
abbrev cX6_rowsFrom : ByteArray := prog_8_method_5_code
def yX6_rowsFrom : MethodName := ⟨RX6, "rowsFrom", "([ZII)I"⟩
abbrev cX6_rowsThrough : ByteArray := prog_8_method_6_code
def yX6_rowsThrough : MethodName := ⟨RX6, "rowsThrough", "([ZII)I"⟩
def RX7 : String := "LatticePaths$Shape"
def TX7 : u_T := fun k => match k with
  | 0 => ("LatticePaths$Shape", "fromTail", "[I", true)
  | 1 => ("LatticePaths$Shape", "fromHead", "[I", true)
  | 2 => ("LatticePaths$Shape", "view", "[I", true)
  | 3 => ("LatticePaths$Shape", "least", "[I", true)
  | _ => ("LatticePaths$Shape", "steps", "I", false)
def tyX7 : Nat → FieldType := fun k => match k with
  | 0 => .array .int
  | 1 => .array .int
  | 2 => .array .int
  | 3 => .array .int
  | _ => .int
abbrev wsX70 : List Cond := u_ws RX7 TX7 5
theorem nmX7 : ∀ a, a < 5 → ∀ b, b < 5 → a ≠ b → (TX7 a).2.1 ≠ (TX7 b).2.1 := by decide +kernel
theorem tyX7_ok : ∀ k, k < 5 → parseFieldDescriptor (TX7 k).2.2.1 = some (tyX7 k) := by decide +kernel
abbrev cX7_init : ByteArray := prog_9_method_1_code
def yX7_init : MethodName := ⟨RX7, "<init>", "()V"⟩
abbrev cX7_find : ByteArray := prog_9_method_2_code
def yX7_find : MethodName := ⟨RX7, "find", "(LLatticePaths$Trail;)V"⟩
abbrev cX7_consider : ByteArray := prog_9_method_3_code
def yX7_consider : MethodName := ⟨RX7, "consider", "([IIZ)V"⟩
abbrev cX7_isViewLess : ByteArray := prog_9_method_4_code
def yX7_isViewLess : MethodName := ⟨RX7, "isViewLess", "()Z"⟩
abbrev cX7_turned : ByteArray := prog_9_method_5_code
def yX7_turned : MethodName := ⟨RX7, "turned", "(II)I"⟩
abbrev cX7_mirrored : ByteArray := prog_9_method_6_code
def yX7_mirrored : MethodName := ⟨RX7, "mirrored", "(I)I"⟩
abbrev cX7_stepAt : ByteArray := prog_9_method_7_code
def yX7_stepAt : MethodName := ⟨RX7, "stepAt", "(I)I"⟩
abbrev cX7_matches : ByteArray := prog_9_method_8_code
def yX7_matches : MethodName := ⟨RX7, "matches", "(LLatticePaths$Shape;)Z"⟩
def RX8 : String := "LatticePaths$Snapshots"
def TX8 : u_T := fun k => match k with
  | 0 => ("LatticePaths$Snapshots", "slots", "[LLatticePaths$SavedState;", true)
  | _ => ("LatticePaths$Snapshots", "taken", "[Z", true)
def tyX8 : Nat → FieldType := fun k => match k with
  | 0 => .array (.object "LatticePaths$SavedState")
  | _ => .array .boolean
abbrev wsX80 : List Cond := u_ws RX8 TX8 2
theorem nmX8 : ∀ a, a < 2 → ∀ b, b < 2 → a ≠ b → (TX8 a).2.1 ≠ (TX8 b).2.1 := by decide +kernel
theorem tyX8_ok : ∀ k, k < 2 → parseFieldDescriptor (TX8 k).2.2.1 = some (tyX8 k) := by decide +kernel
abbrev cX8_init : ByteArray := prog_10_method_1_code
def yX8_init : MethodName := ⟨RX8, "<init>", "()V"⟩
abbrev cX8_isTaken : ByteArray := prog_10_method_2_code
def yX8_isTaken : MethodName := ⟨RX8, "isTaken", "(I)Z"⟩
abbrev cX8_take : ByteArray := prog_10_method_3_code
def yX8_take : MethodName := ⟨RX8, "take", "(ILLatticePaths$Board;)V"⟩
abbrev cX8_putInto : ByteArray := prog_10_method_4_code
def yX8_putInto : MethodName := ⟨RX8, "putInto", "(LLatticePaths$Board;I)V"⟩
def RX9 : String := "LatticePaths$Trail"
def TX9 : u_T := fun k => match k with
  | 0 => ("LatticePaths$Trail", "sites", "[I", true)
  | _ => ("LatticePaths$Trail", "length", "I", false)
def tyX9 : Nat → FieldType := fun k => match k with
  | 0 => .array .int
  | _ => .int
abbrev wsX90 : List Cond := u_ws RX9 TX9 2
theorem nmX9 : ∀ a, a < 2 → ∀ b, b < 2 → a ≠ b → (TX9 a).2.1 ≠ (TX9 b).2.1 := by decide +kernel
theorem tyX9_ok : ∀ k, k < 2 → parseFieldDescriptor (TX9 k).2.2.1 = some (tyX9 k) := by decide +kernel
abbrev cX9_init : ByteArray := prog_11_method_1_code
def yX9_init : MethodName := ⟨RX9, "<init>", "()V"⟩
abbrev cX9_length : ByteArray := prog_11_method_2_code
def yX9_length : MethodName := ⟨RX9, "length", "()I"⟩
abbrev cX9_isFull : ByteArray := prog_11_method_3_code
def yX9_isFull : MethodName := ⟨RX9, "isFull", "()Z"⟩
abbrev cX9_has : ByteArray := prog_11_method_4_code
def yX9_has : MethodName := ⟨RX9, "has", "(I)Z"⟩
abbrev cX9_at : ByteArray := prog_11_method_5_code
def yX9_at : MethodName := ⟨RX9, "at", "(I)I"⟩
abbrev cX9_tail : ByteArray := prog_11_method_6_code
def yX9_tail : MethodName := ⟨RX9, "tail", "()I"⟩
abbrev cX9_head : ByteArray := prog_11_method_7_code
def yX9_head : MethodName := ⟨RX9, "head", "()I"⟩
abbrev cX9_covers : ByteArray := prog_11_method_8_code
def yX9_covers : MethodName := ⟨RX9, "covers", "(I)Z"⟩
abbrev cX9_clear : ByteArray := prog_11_method_9_code
def yX9_clear : MethodName := ⟨RX9, "clear", "()V"⟩
abbrev cX9_begin : ByteArray := prog_11_method_10_code
def yX9_begin : MethodName := ⟨RX9, "begin", "(I)V"⟩
abbrev cX9_push : ByteArray := prog_11_method_11_code
def yX9_push : MethodName := ⟨RX9, "push", "(I)V"⟩
abbrev cX9_put : ByteArray := prog_11_method_12_code
def yX9_put : MethodName := ⟨RX9, "put", "(II)V"⟩
abbrev cX9_endAt : ByteArray := prog_11_method_13_code
def yX9_endAt : MethodName := ⟨RX9, "endAt", "(I)V"⟩
abbrev cX9_advanceTo : ByteArray := prog_11_method_14_code
def yX9_advanceTo : MethodName := ⟨RX9, "advanceTo", "(I)V"⟩
abbrev cX9_copyFrom : ByteArray := prog_11_method_15_code
def yX9_copyFrom : MethodName := ⟨RX9, "copyFrom", "(LLatticePaths$Trail;I)V"⟩
abbrev cX9_flip : ByteArray := prog_11_method_16_code
def yX9_flip : MethodName := ⟨RX9, "flip", "()V"⟩
abbrev cX9_steps : ByteArray := prog_11_method_17_code
def yX9_steps : MethodName := ⟨RX9, "steps", "()I"⟩
abbrev cX9_stepAt : ByteArray := prog_11_method_18_code
def yX9_stepAt : MethodName := ⟨RX9, "stepAt", "(I)I"⟩
abbrev cX9_corners : ByteArray := prog_11_method_19_code
def yX9_corners : MethodName := ⟨RX9, "corners", "()I"⟩
abbrev cX9_width : ByteArray := prog_11_method_20_code
def yX9_width : MethodName := ⟨RX9, "width", "()I"⟩
abbrev cX9_height : ByteArray := prog_11_method_21_code
def yX9_height : MethodName := ⟨RX9, "height", "()I"⟩
abbrev cX9_moment : ByteArray := prog_11_method_22_code
def yX9_moment : MethodName := ⟨RX9, "moment", "()I"⟩
def RX10 : String := "LatticePaths$Turning"
def TX10 : u_T := fun k => match k with
  | _ => ("LatticePaths$Turning", "landings", "[I", true)
def tyX10 : Nat → FieldType := fun k => match k with
  | _ => .array .int
abbrev wsX100 : List Cond := u_ws RX10 TX10 1
theorem nmX10 : ∀ a, a < 1 → ∀ b, b < 1 → a ≠ b → (TX10 a).2.1 ≠ (TX10 b).2.1 := by decide +kernel
theorem tyX10_ok : ∀ k, k < 1 → parseFieldDescriptor (TX10 k).2.2.1 = some (tyX10 k) := by decide +kernel
abbrev cX10_init : ByteArray := prog_12_method_1_code
def yX10_init : MethodName := ⟨RX10, "<init>", "()V"⟩
abbrev cX10_refusal : ByteArray := prog_12_method_2_code
def yX10_refusal : MethodName := ⟨RX10, "refusal", "(LLatticePaths$Board;III)I"⟩
abbrev cX10_land : ByteArray := prog_12_method_3_code
def yX10_land : MethodName := ⟨RX10, "land", "(LLatticePaths$Trail;II)Z"⟩
abbrev cX10_swung : ByteArray := prog_12_method_4_code
def yX10_swung : MethodName := ⟨RX10, "swung", "(III)I"⟩
abbrev cX10_moveSites : ByteArray := prog_12_method_5_code
def yX10_moveSites : MethodName := ⟨RX10, "moveSites", "(LLatticePaths$Board;II)V"⟩
abbrev cX10_possibleTurns : ByteArray := prog_12_method_6_code
def yX10_possibleTurns : MethodName := ⟨RX10, "possibleTurns", "(LLatticePaths$Board;I)I"⟩
def RX11 : String := "LatticePaths"
def TX11 : u_T := fun k => match k with
  | 0 => ("LatticePaths", "board", "LLatticePaths$Board;", true)
  | 1 => ("LatticePaths", "history", "LLatticePaths$History;", true)
  | 2 => ("LatticePaths", "snapshots", "LLatticePaths$Snapshots;", true)
  | 3 => ("LatticePaths", "text", "LLatticePaths$PathText;", true)
  | 4 => ("LatticePaths", "sketch", "LLatticePaths$Trail;", true)
  | 5 => ("LatticePaths", "turning", "LLatticePaths$Turning;", true)
  | 6 => ("LatticePaths", "scout", "LLatticePaths$Scout;", true)
  | 7 => ("LatticePaths", "regions", "LLatticePaths$Regions;", true)
  | 8 => ("LatticePaths", "foundShape", "LLatticePaths$Shape;", true)
  | _ => ("LatticePaths", "otherShape", "LLatticePaths$Shape;", true)
def tyX11 : Nat → FieldType := fun k => match k with
  | 0 => .object "LatticePaths$Board"
  | 1 => .object "LatticePaths$History"
  | 2 => .object "LatticePaths$Snapshots"
  | 3 => .object "LatticePaths$PathText"
  | 4 => .object "LatticePaths$Trail"
  | 5 => .object "LatticePaths$Turning"
  | 6 => .object "LatticePaths$Scout"
  | 7 => .object "LatticePaths$Regions"
  | 8 => .object "LatticePaths$Shape"
  | _ => .object "LatticePaths$Shape"
abbrev wsX110 : List Cond := u_ws RX11 TX11 10
theorem nmX11 : ∀ a, a < 10 → ∀ b, b < 10 → a ≠ b → (TX11 a).2.1 ≠ (TX11 b).2.1 := by decide +kernel
theorem tyX11_ok : ∀ k, k < 10 → parseFieldDescriptor (TX11 k).2.2.1 = some (tyX11 k) := by decide +kernel
abbrev cX11_init : ByteArray := prog_1_method_1_code
def yX11_init : MethodName := ⟨RX11, "<init>", "()V"⟩
abbrev cX11_start : ByteArray := prog_1_method_2_code
def yX11_start : MethodName := ⟨RX11, "start", "(II)I"⟩
abbrev cX11_step : ByteArray := prog_1_method_3_code
def yX11_step : MethodName := ⟨RX11, "step", "(II)I"⟩
abbrev cX11_back : ByteArray := prog_1_method_4_code
def yX11_back : MethodName := ⟨RX11, "back", "(I)I"⟩
abbrev cX11_slither : ByteArray := prog_1_method_5_code
def yX11_slither : MethodName := ⟨RX11, "slither", "(II)I"⟩
abbrev cX11_turn : ByteArray := prog_1_method_6_code
def yX11_turn : MethodName := ⟨RX11, "turn", "(III)I"⟩
abbrev cX11_reverse : ByteArray := prog_1_method_7_code
def yX11_reverse : MethodName := ⟨RX11, "reverse", "(I)I"⟩
abbrev cX11_join : ByteArray := prog_1_method_8_code
def yX11_join : MethodName := ⟨RX11, "join", "(II)I"⟩
abbrev cX11_split : ByteArray := prog_1_method_9_code
def yX11_split : MethodName := ⟨RX11, "split", "(II)I"⟩
abbrev cX11_remove : ByteArray := prog_1_method_10_code
def yX11_remove : MethodName := ⟨RX11, "remove", "(I)I"⟩
abbrev cX11_append : ByteArray := prog_1_method_11_code
def yX11_append : MethodName := ⟨RX11, "append", "(I)I"⟩
abbrev cX11_clearBuffer : ByteArray := prog_1_method_12_code
def yX11_clearBuffer : MethodName := ⟨RX11, "clearBuffer", "()I"⟩
abbrev cX11_firstError : ByteArray := prog_1_method_13_code
def yX11_firstError : MethodName := ⟨RX11, "firstError", "()I"⟩
abbrev cX11_draw : ByteArray := prog_1_method_14_code
def yX11_draw : MethodName := ⟨RX11, "draw", "()I"⟩
abbrev cX11_write : ByteArray := prog_1_method_15_code
def yX11_write : MethodName := ⟨RX11, "write", "(I)I"⟩
abbrev cX11_undo : ByteArray := prog_1_method_16_code
def yX11_undo : MethodName := ⟨RX11, "undo", "()I"⟩
abbrev cX11_keep : ByteArray := prog_1_method_17_code
def yX11_keep : MethodName := ⟨RX11, "keep", "(I)I"⟩
abbrev cX11_goBack : ByteArray := prog_1_method_18_code
def yX11_goBack : MethodName := ⟨RX11, "goBack", "(I)I"⟩
abbrev cX11_site : ByteArray := prog_1_method_19_code
def yX11_site : MethodName := ⟨RX11, "site", "(III)I"⟩
abbrev cX11_place : ByteArray := prog_1_method_20_code
def yX11_place : MethodName := ⟨RX11, "place", "(II)I"⟩
abbrev cX11_path : ByteArray := prog_1_method_21_code
def yX11_path : MethodName := ⟨RX11, "path", "(II)I"⟩
abbrev cX11_trapped : ByteArray := prog_1_method_22_code
def yX11_trapped : MethodName := ⟨RX11, "trapped", "()I"⟩
abbrev cX11_touching : ByteArray := prog_1_method_23_code
def yX11_touching : MethodName := ⟨RX11, "touching", "(II)I"⟩
abbrev cX11_shape : ByteArray := prog_1_method_24_code
def yX11_shape : MethodName := ⟨RX11, "shape", "(II)I"⟩
abbrev cX11_isAlike : ByteArray := prog_1_method_25_code
def yX11_isAlike : MethodName := ⟨RX11, "isAlike", "(II)Z"⟩
abbrev cX11_free : ByteArray := prog_1_method_26_code
def yX11_free : MethodName := ⟨RX11, "free", "(I)I"⟩
abbrev cX11_ways : ByteArray := prog_1_method_27_code
def yX11_ways : MethodName := ⟨RX11, "ways", "(II)I"⟩
abbrev cX11_bestStep : ByteArray := prog_1_method_28_code
def yX11_bestStep : MethodName := ⟨RX11, "bestStep", "(I)I"⟩
abbrev cX11_reach : ByteArray := prog_1_method_29_code
def yX11_reach : MethodName := ⟨RX11, "reach", "(I)I"⟩
abbrev cX11_ifTurned : ByteArray := prog_1_method_30_code
def yX11_ifTurned : MethodName := ⟨RX11, "ifTurned", "(III)I"⟩
abbrev cX11_turnable : ByteArray := prog_1_method_31_code
def yX11_turnable : MethodName := ⟨RX11, "turnable", "(I)I"⟩
abbrev cX11_count : ByteArray := prog_1_method_32_code
def yX11_count : MethodName := ⟨RX11, "count", "(I)I"⟩
abbrev cX11_spread : ByteArray := prog_1_method_33_code
def yX11_spread : MethodName := ⟨RX11, "spread", "(I)D"⟩
abbrev cX11_share : ByteArray := prog_1_method_34_code
def yX11_share : MethodName := ⟨RX11, "share", "()F"⟩
abbrev cX11_regionsAtHeads : ByteArray := prog_1_method_35_code
def yX11_regionsAtHeads : MethodName := ⟨RX11, "regionsAtHeads", "()I"⟩
abbrev cX11_checkedSite : ByteArray := prog_1_method_36_code
def yX11_checkedSite : MethodName := ⟨RX11, "checkedSite", "(II)I"⟩
abbrev cX11_checkPath : ByteArray := prog_1_method_37_code
def yX11_checkPath : MethodName := ⟨RX11, "checkPath", "(I)V"⟩
abbrev cX11_checkPlace : ByteArray := prog_1_method_38_code
def yX11_checkPlace : MethodName := ⟨RX11, "checkPlace", "(II)V"⟩
abbrev cX11_checkTwoPaths : ByteArray := prog_1_method_39_code
def yX11_checkTwoPaths : MethodName := ⟨RX11, "checkTwoPaths", "(II)V"⟩
abbrev cX11_checkDirection : ByteArray := prog_1_method_40_code
def yX11_checkDirection : MethodName := ⟨RX11, "checkDirection", "(I)V"⟩
abbrev cX11_checkQuarters : ByteArray := prog_1_method_41_code
def yX11_checkQuarters : MethodName := ⟨RX11, "checkQuarters", "(I)V"⟩
abbrev cX11_checkRange : ByteArray := prog_1_method_42_code
def yX11_checkRange : MethodName := ⟨RX11, "checkRange", "(III)V"⟩
def RX12 : String := "LatticePathsModel"
def TX12 : u_T := fun k => match k with
  | 0 => ("LatticePathsModel", "thrown", "I", false)
  | 1 => ("LatticePathsModel", "state", "[I", true)
  | 2 => ("LatticePathsModel", "saved", "[I", true)
  | 3 => ("LatticePathsModel", "savedMany", "I", false)
  | 4 => ("LatticePathsModel", "slots", "[I", true)
  | 5 => ("LatticePathsModel", "isKept", "[I", true)
  | 6 => ("LatticePathsModel", "buffer", "[I", true)
  | 7 => ("LatticePathsModel", "length", "I", false)
  | 8 => ("LatticePathsModel", "owner", "[I", true)
  | 9 => ("LatticePathsModel", "number", "[I", true)
  | 10 => ("LatticePathsModel", "region", "[I", true)
  | 11 => ("LatticePathsModel", "sizes", "[I", true)
  | 12 => ("LatticePathsModel", "regions", "I", false)
  | 13 => ("LatticePathsModel", "row", "[I", true)
  | 14 => ("LatticePathsModel", "rowLength", "I", false)
  | 15 => ("LatticePathsModel", "trail", "[I", true)
  | 16 => ("LatticePathsModel", "tried", "[I", true)
  | 17 => ("LatticePathsModel", "least", "[I", true)
  | 18 => ("LatticePathsModel", "steps", "[I", true)
  | _ => ("LatticePathsModel", "other", "[I", true)
def tyX12 : Nat → FieldType := fun k => match k with
  | 0 => .int
  | 1 => .array .int
  | 2 => .array .int
  | 3 => .int
  | 4 => .array .int
  | 5 => .array .int
  | 6 => .array .int
  | 7 => .int
  | 8 => .array .int
  | 9 => .array .int
  | 10 => .array .int
  | 11 => .array .int
  | 12 => .int
  | 13 => .array .int
  | 14 => .int
  | 15 => .array .int
  | 16 => .array .int
  | 17 => .array .int
  | 18 => .array .int
  | _ => .array .int
abbrev wsX120 : List Cond := u_ws RX12 TX12 20
theorem nmX12 : ∀ a, a < 20 → ∀ b, b < 20 → a ≠ b → (TX12 a).2.1 ≠ (TX12 b).2.1 := by decide +kernel
theorem tyX12_ok : ∀ k, k < 20 → parseFieldDescriptor (TX12 k).2.2.1 = some (tyX12 k) := by decide +kernel
abbrev cX12_init : ByteArray := prog_14_method_1_code
def yX12_init : MethodName := ⟨RX12, "<init>", "()V"⟩
abbrev cX12_thrown : ByteArray := prog_14_method_2_code
def yX12_thrown : MethodName := ⟨RX12, "thrown", "()I"⟩
abbrev cX12_fails : ByteArray := prog_14_method_3_code
def yX12_fails : MethodName := ⟨RX12, "fails", "(I)I"⟩
abbrev cX12_within : ByteArray := prog_14_method_4_code
def yX12_within : MethodName := ⟨RX12, "within", "(III)Z"⟩
abbrev cX12_isPath : ByteArray := prog_14_method_5_code
def yX12_isPath : MethodName := ⟨RX12, "isPath", "(I)Z"⟩
abbrev cX12_lengthOf : ByteArray := prog_14_method_6_code
def yX12_lengthOf : MethodName := ⟨RX12, "lengthOf", "(I)I"⟩
abbrev cX12_siteOf : ByteArray := prog_14_method_7_code
def yX12_siteOf : MethodName := ⟨RX12, "siteOf", "(II)I"⟩
abbrev cX12_setSite : ByteArray := prog_14_method_8_code
def yX12_setSite : MethodName := ⟨RX12, "setSite", "(III)V"⟩
abbrev cX12_isSite : ByteArray := prog_14_method_9_code
def yX12_isSite : MethodName := ⟨RX12, "isSite", "(II)Z"⟩
abbrev cX12_headOf : ByteArray := prog_14_method_10_code
def yX12_headOf : MethodName := ⟨RX12, "headOf", "(I)I"⟩
abbrev cX12_save : ByteArray := prog_14_method_11_code
def yX12_save : MethodName := ⟨RX12, "save", "()V"⟩
abbrev cX12_undo : ByteArray := prog_14_method_12_code
def yX12_undo : MethodName := ⟨RX12, "undo", "()I"⟩
abbrev cX12_keep : ByteArray := prog_14_method_13_code
def yX12_keep : MethodName := ⟨RX12, "keep", "(I)I"⟩
abbrev cX12_goBack : ByteArray := prog_14_method_14_code
def yX12_goBack : MethodName := ⟨RX12, "goBack", "(I)I"⟩
abbrev cX12_next : ByteArray := prog_14_method_15_code
def yX12_next : MethodName := ⟨RX12, "next", "(II)I"⟩
abbrev cX12_direction : ByteArray := prog_14_method_16_code
def yX12_direction : MethodName := ⟨RX12, "direction", "(II)I"⟩
abbrev cX12_lay : ByteArray := prog_14_method_17_code
def yX12_lay : MethodName := ⟨RX12, "lay", "()V"⟩
abbrev cX12_isFree : ByteArray := prog_14_method_18_code
def yX12_isFree : MethodName := ⟨RX12, "isFree", "(I)Z"⟩
abbrev cX12_freeAround : ByteArray := prog_14_method_19_code
def yX12_freeAround : MethodName := ⟨RX12, "freeAround", "(I)I"⟩
abbrev cX12_reason : ByteArray := prog_14_method_20_code
def yX12_reason : MethodName := ⟨RX12, "reason", "(II)I"⟩
abbrev cX12_findRegions : ByteArray := prog_14_method_21_code
def yX12_findRegions : MethodName := ⟨RX12, "findRegions", "()V"⟩
abbrev cX12_growRegion : ByteArray := prog_14_method_22_code
def yX12_growRegion : MethodName := ⟨RX12, "growRegion", "(I)V"⟩
abbrev cX12_isBeside : ByteArray := prog_14_method_23_code
def yX12_isBeside : MethodName := ⟨RX12, "isBeside", "(II)Z"⟩
abbrev cX12_addPath : ByteArray := prog_14_method_24_code
def yX12_addPath : MethodName := ⟨RX12, "addPath", "()I"⟩
abbrev cX12_takeRow : ByteArray := prog_14_method_25_code
def yX12_takeRow : MethodName := ⟨RX12, "takeRow", "(I)V"⟩
abbrev cX12_giveRow : ByteArray := prog_14_method_26_code
def yX12_giveRow : MethodName := ⟨RX12, "giveRow", "(I)V"⟩
abbrev cX12_dropPath : ByteArray := prog_14_method_27_code
def yX12_dropPath : MethodName := ⟨RX12, "dropPath", "(I)V"⟩
abbrev cX12_start : ByteArray := prog_14_method_28_code
def yX12_start : MethodName := ⟨RX12, "start", "(II)I"⟩
abbrev cX12_step : ByteArray := prog_14_method_29_code
def yX12_step : MethodName := ⟨RX12, "step", "(II)I"⟩
abbrev cX12_back : ByteArray := prog_14_method_30_code
def yX12_back : MethodName := ⟨RX12, "back", "(I)I"⟩
abbrev cX12_slither : ByteArray := prog_14_method_31_code
def yX12_slither : MethodName := ⟨RX12, "slither", "(II)I"⟩
abbrev cX12_turned : ByteArray := prog_14_method_32_code
def yX12_turned : MethodName := ⟨RX12, "turned", "(III)I"⟩
abbrev cX12_whyNotTurned : ByteArray := prog_14_method_33_code
def yX12_whyNotTurned : MethodName := ⟨RX12, "whyNotTurned", "(III)I"⟩
abbrev cX12_turn : ByteArray := prog_14_method_34_code
def yX12_turn : MethodName := ⟨RX12, "turn", "(III)I"⟩
abbrev cX12_reverseRow : ByteArray := prog_14_method_35_code
def yX12_reverseRow : MethodName := ⟨RX12, "reverseRow", "()V"⟩
abbrev cX12_reverse : ByteArray := prog_14_method_36_code
def yX12_reverse : MethodName := ⟨RX12, "reverse", "(I)I"⟩
abbrev cX12_join : ByteArray := prog_14_method_37_code
def yX12_join : MethodName := ⟨RX12, "join", "(II)I"⟩
abbrev cX12_split : ByteArray := prog_14_method_38_code
def yX12_split : MethodName := ⟨RX12, "split", "(II)I"⟩
abbrev cX12_remove : ByteArray := prog_14_method_39_code
def yX12_remove : MethodName := ⟨RX12, "remove", "(I)I"⟩
abbrev cX12_append : ByteArray := prog_14_method_40_code
def yX12_append : MethodName := ⟨RX12, "append", "(I)I"⟩
abbrev cX12_clearBuffer : ByteArray := prog_14_method_41_code
def yX12_clearBuffer : MethodName := ⟨RX12, "clearBuffer", "()I"⟩
abbrev cX12_letterOf : ByteArray := prog_14_method_42_code
def yX12_letterOf : MethodName := ⟨RX12, "letterOf", "(I)I"⟩
abbrev cX12_directionOf : ByteArray := prog_14_method_43_code
def yX12_directionOf : MethodName := ⟨RX12, "directionOf", "(I)I"⟩
abbrev cX12_isGood : ByteArray := prog_14_method_44_code
def yX12_isGood : MethodName := ⟨RX12, "isGood", "(I)Z"⟩
abbrev cX12_findError : ByteArray := prog_14_method_45_code
def yX12_findError : MethodName := ⟨RX12, "findError", "()I"⟩
abbrev cX12_firstError : ByteArray := prog_14_method_46_code
def yX12_firstError : MethodName := ⟨RX12, "firstError", "()I"⟩
abbrev cX12_readsRow : ByteArray := prog_14_method_47_code
def yX12_readsRow : MethodName := ⟨RX12, "readsRow", "()Z"⟩
abbrev cX12_draw : ByteArray := prog_14_method_48_code
def yX12_draw : MethodName := ⟨RX12, "draw", "()I"⟩
abbrev cX12_write : ByteArray := prog_14_method_49_code
def yX12_write : MethodName := ⟨RX12, "write", "(I)I"⟩
abbrev cX12_site : ByteArray := prog_14_method_50_code
def yX12_site : MethodName := ⟨RX12, "site", "(III)I"⟩
abbrev cX12_place : ByteArray := prog_14_method_51_code
def yX12_place : MethodName := ⟨RX12, "place", "(II)I"⟩
abbrev cX12_stepOf : ByteArray := prog_14_method_52_code
def yX12_stepOf : MethodName := ⟨RX12, "stepOf", "(II)I"⟩
abbrev cX12_corners : ByteArray := prog_14_method_53_code
def yX12_corners : MethodName := ⟨RX12, "corners", "(I)I"⟩
abbrev cX12_contacts : ByteArray := prog_14_method_54_code
def yX12_contacts : MethodName := ⟨RX12, "contacts", "(I)I"⟩
abbrev cX12_span : ByteArray := prog_14_method_55_code
def yX12_span : MethodName := ⟨RX12, "span", "(IZ)I"⟩
abbrev cX12_squared : ByteArray := prog_14_method_56_code
def yX12_squared : MethodName := ⟨RX12, "squared", "(II)I"⟩
abbrev cX12_moment : ByteArray := prog_14_method_57_code
def yX12_moment : MethodName := ⟨RX12, "moment", "(I)I"⟩
abbrev cX12_freeBeside : ByteArray := prog_14_method_58_code
def yX12_freeBeside : MethodName := ⟨RX12, "freeBeside", "(I)I"⟩
abbrev cX12_tellsPath : ByteArray := prog_14_method_59_code
def yX12_tellsPath : MethodName := ⟨RX12, "tellsPath", "(II)I"⟩
abbrev cX12_path : ByteArray := prog_14_method_60_code
def yX12_path : MethodName := ⟨RX12, "path", "(II)I"⟩
abbrev cX12_trapped : ByteArray := prog_14_method_61_code
def yX12_trapped : MethodName := ⟨RX12, "trapped", "()I"⟩
abbrev cX12_touching : ByteArray := prog_14_method_62_code
def yX12_touching : MethodName := ⟨RX12, "touching", "(II)I"⟩
abbrev cX12_laySteps : ByteArray := prog_14_method_63_code
def yX12_laySteps : MethodName := ⟨RX12, "laySteps", "(II)V"⟩
abbrev cX12_layShape : ByteArray := prog_14_method_64_code
def yX12_layShape : MethodName := ⟨RX12, "layShape", "(I)V"⟩
abbrev cX12_shape : ByteArray := prog_14_method_65_code
def yX12_shape : MethodName := ⟨RX12, "shape", "(II)I"⟩
abbrev cX12_hasShapeOf : ByteArray := prog_14_method_66_code
def yX12_hasShapeOf : MethodName := ⟨RX12, "hasShapeOf", "(II)Z"⟩
abbrev cX12_isAlike : ByteArray := prog_14_method_67_code
def yX12_isAlike : MethodName := ⟨RX12, "isAlike", "(II)Z"⟩
abbrev cX12_freeSites : ByteArray := prog_14_method_68_code
def yX12_freeSites : MethodName := ⟨RX12, "freeSites", "()I"⟩
abbrev cX12_greatestRegion : ByteArray := prog_14_method_69_code
def yX12_greatestRegion : MethodName := ⟨RX12, "greatestRegion", "()I"⟩
abbrev cX12_isBesideHead : ByteArray := prog_14_method_70_code
def yX12_isBesideHead : MethodName := ⟨RX12, "isBesideHead", "(I)Z"⟩
abbrev cX12_free : ByteArray := prog_14_method_71_code
def yX12_free : MethodName := ⟨RX12, "free", "(I)I"⟩
abbrev cX12_waysFrom : ByteArray := prog_14_method_72_code
def yX12_waysFrom : MethodName := ⟨RX12, "waysFrom", "(II)I"⟩
abbrev cX12_ways : ByteArray := prog_14_method_73_code
def yX12_ways : MethodName := ⟨RX12, "ways", "(II)I"⟩
abbrev cX12_bestStep : ByteArray := prog_14_method_74_code
def yX12_bestStep : MethodName := ⟨RX12, "bestStep", "(I)I"⟩
abbrev cX12_reach : ByteArray := prog_14_method_75_code
def yX12_reach : MethodName := ⟨RX12, "reach", "(I)I"⟩
abbrev cX12_ifTurned : ByteArray := prog_14_method_76_code
def yX12_ifTurned : MethodName := ⟨RX12, "ifTurned", "(III)I"⟩
abbrev cX12_turnable : ByteArray := prog_14_method_77_code
def yX12_turnable : MethodName := ⟨RX12, "turnable", "(I)I"⟩
abbrev cX12_sitesInPaths : ByteArray := prog_14_method_78_code
def yX12_sitesInPaths : MethodName := ⟨RX12, "sitesInPaths", "()I"⟩
abbrev cX12_count : ByteArray := prog_14_method_79_code
def yX12_count : MethodName := ⟨RX12, "count", "(I)I"⟩
abbrev cX12_spread : ByteArray := prog_14_method_80_code
def yX12_spread : MethodName := ⟨RX12, "spread", "(I)D"⟩
abbrev cX12_share : ByteArray := prog_14_method_81_code
def yX12_share : MethodName := ⟨RX12, "share", "()F"⟩
def RJx145de : String := "java/io/Serializable"
def TJx145de : u_T := fun k => match k with
  | _ => ("", "", "", false)
def tyJx145de : Nat → FieldType := fun k => match k with
  | _ => .int
abbrev wsJx145de0 : List Cond := u_ws RJx145de TJx145de 0
theorem nmJx145de : ∀ a, a < 0 → ∀ b, b < 0 → a ≠ b → (TJx145de a).2.1 ≠ (TJx145de b).2.1 := by decide +kernel
theorem tyJx145de_ok : ∀ k, k < 0 → parseFieldDescriptor (TJx145de k).2.2.1 = some (tyJx145de k) := by decide +kernel
def RJx9f9b0 : String := "java/lang/CharSequence"
def TJx9f9b0 : u_T := fun k => match k with
  | _ => ("", "", "", false)
def tyJx9f9b0 : Nat → FieldType := fun k => match k with
  | _ => .int
abbrev wsJx9f9b00 : List Cond := u_ws RJx9f9b0 TJx9f9b0 0
theorem nmJx9f9b0 : ∀ a, a < 0 → ∀ b, b < 0 → a ≠ b → (TJx9f9b0 a).2.1 ≠ (TJx9f9b0 b).2.1 := by decide +kernel
theorem tyJx9f9b0_ok : ∀ k, k < 0 → parseFieldDescriptor (TJx9f9b0 k).2.2.1 = some (tyJx9f9b0 k) := by decide +kernel
def RJ11 : String := "java/lang/Character"
def TJ11 : u_T := fun k => match k with
  | _ => ("", "", "", false)
def tyJ11 : Nat → FieldType := fun k => match k with
  | _ => .int
abbrev wsJ110 : List Cond := u_ws RJ11 TJ11 0
theorem nmJ11 : ∀ a, a < 0 → ∀ b, b < 0 → a ≠ b → (TJ11 a).2.1 ≠ (TJ11 b).2.1 := by decide +kernel
theorem tyJ11_ok : ∀ k, k < 0 → parseFieldDescriptor (TJ11 k).2.2.1 = some (tyJ11 k) := by decide +kernel
abbrev cJ11_isValidCodePoint_9a6ad : ByteArray := prog_15_method_11_code
def yJ11_isValidCodePoint_9a6ad : MethodName := ⟨RJ11, "isValidCodePoint", "(I)Z"⟩
abbrev cJ11_highSurrogate_5068e : ByteArray := prog_15_method_28_code
def yJ11_highSurrogate_5068e : MethodName := ⟨RJ11, "highSurrogate", "(I)C"⟩
abbrev cJ11_lowSurrogate_5068e : ByteArray := prog_15_method_29_code
def yJ11_lowSurrogate_5068e : MethodName := ⟨RJ11, "lowSurrogate", "(I)C"⟩
def RJxb160c : String := "java/lang/Comparable"
def TJxb160c : u_T := fun k => match k with
  | _ => ("", "", "", false)
def tyJxb160c : Nat → FieldType := fun k => match k with
  | _ => .int
abbrev wsJxb160c0 : List Cond := u_ws RJxb160c TJxb160c 0
theorem nmJxb160c : ∀ a, a < 0 → ∀ b, b < 0 → a ≠ b → (TJxb160c a).2.1 ≠ (TJxb160c b).2.1 := by decide +kernel
theorem tyJxb160c_ok : ∀ k, k < 0 → parseFieldDescriptor (TJxb160c k).2.2.1 = some (tyJxb160c k) := by decide +kernel
def RJ9 : String := "java/lang/Math"
def TJ9 : u_T := fun k => match k with
  | _ => ("", "", "", false)
def tyJ9 : Nat → FieldType := fun k => match k with
  | _ => .int
abbrev wsJ90 : List Cond := u_ws RJ9 TJ9 0
theorem nmJ9 : ∀ a, a < 0 → ∀ b, b < 0 → a ≠ b → (TJ9 a).2.1 ≠ (TJ9 b).2.1 := by decide +kernel
theorem tyJ9_ok : ∀ k, k < 0 → parseFieldDescriptor (TJ9 k).2.2.1 = some (tyJ9 k) := by decide +kernel
abbrev cJ9_abs_0f7a4 : ByteArray := prog_20_method_59_code
def yJ9_abs_0f7a4 : MethodName := ⟨RJ9, "abs", "(I)I"⟩
abbrev cJ9_max_7cf53 : ByteArray := prog_20_method_65_code
def yJ9_max_7cf53 : MethodName := ⟨RJ9, "max", "(II)I"⟩
abbrev cJ9_min_7cf53 : ByteArray := prog_20_method_69_code
def yJ9_min_7cf53 : MethodName := ⟨RJ9, "min", "(II)I"⟩
def RJ0 : String := "java/lang/String"
def TJ0 : u_T := fun k => match k with
  | _ => ("", "", "", false)
def tyJ0 : Nat → FieldType := fun k => match k with
  | _ => .int
abbrev wsJ00 : List Cond := u_ws RJ0 TJ0 0
theorem nmJ0 : ∀ a, a < 0 → ∀ b, b < 0 → a ≠ b → (TJ0 a).2.1 ≠ (TJ0 b).2.1 := by decide +kernel
theorem tyJ0_ok : ∀ k, k < 0 → parseFieldDescriptor (TJ0 k).2.2.1 = some (tyJ0 k) := by decide +kernel
abbrev cJ0_length_8abf5 : ByteArray := prog_22_method_54_code
def yJ0_length_8abf5 : MethodName := ⟨RJ0, "length", "()I"⟩
abbrev cJ0_charAt_5068e : ByteArray := prog_22_method_56_code
def yJ0_charAt_5068e : MethodName := ⟨RJ0, "charAt", "(I)C"⟩
abbrev cJ0_indexOf_0f7a4 : ByteArray := prog_22_method_79_code
def yJ0_indexOf_0f7a4 : MethodName := ⟨RJ0, "indexOf", "(I)I"⟩
abbrev cJ0_indexOf_7cf53 : ByteArray := prog_22_method_80_code
def yJ0_indexOf_7cf53 : MethodName := ⟨RJ0, "indexOf", "(II)I"⟩
abbrev cJ0_coder_7d493 : ByteArray := prog_22_method_152_code
def yJ0_coder_7d493 : MethodName := ⟨RJ0, "coder", "()B"⟩
abbrev cJ0_isLatin1_aae02 : ByteArray := prog_22_method_154_code
def yJ0_isLatin1_aae02 : MethodName := ⟨RJ0, "isLatin1", "()Z"⟩
abbrev cJ0_checkIndex_df160 : ByteArray := prog_22_method_155_code
def yJ0_checkIndex_df160 : MethodName := ⟨RJ0, "checkIndex", "(II)V"⟩
abbrev cJ0_checkBoundsBeginEnd_23922 : ByteArray := prog_22_method_158_code
def yJ0_checkBoundsBeginEnd_23922 : MethodName := ⟨RJ0, "checkBoundsBeginEnd", "(III)V"⟩
def RJ1 : String := "java/lang/StringLatin1"
def TJ1 : u_T := fun k => match k with
  | _ => ("", "", "", false)
def tyJ1 : Nat → FieldType := fun k => match k with
  | _ => .int
abbrev wsJ10 : List Cond := u_ws RJ1 TJ1 0
theorem nmJ1 : ∀ a, a < 0 → ∀ b, b < 0 → a ≠ b → (TJ1 a).2.1 ≠ (TJ1 b).2.1 := by decide +kernel
theorem tyJ1_ok : ∀ k, k < 0 → parseFieldDescriptor (TJ1 k).2.2.1 = some (tyJ1 k) := by decide +kernel
abbrev cJ1_charAt_3b067 : ByteArray := prog_23_method_2_code
def yJ1_charAt_3b067 : MethodName := ⟨RJ1, "charAt", "([BI)C"⟩
abbrev cJ1_canEncode_9a6ad : ByteArray := prog_23_method_4_code
def yJ1_canEncode_9a6ad : MethodName := ⟨RJ1, "canEncode", "(I)Z"⟩
abbrev cJ1_indexOf_4cfef : ByteArray := prog_23_method_22_code
def yJ1_indexOf_4cfef : MethodName := ⟨RJ1, "indexOf", "([BIII)I"⟩
abbrev cJ1_indexOfChar_4cfef : ByteArray := prog_23_method_23_code
def yJ1_indexOfChar_4cfef : MethodName := ⟨RJ1, "indexOfChar", "([BIII)I"⟩
def RJ2 : String := "java/lang/StringUTF16"
def TJ2 : u_T := fun k => match k with
  | _ => ("", "", "", false)
def tyJ2 : Nat → FieldType := fun k => match k with
  | _ => .int
abbrev wsJ20 : List Cond := u_ws RJ2 TJ2 0
theorem nmJ2 : ∀ a, a < 0 → ∀ b, b < 0 → a ≠ b → (TJ2 a).2.1 ≠ (TJ2 b).2.1 := by decide +kernel
theorem tyJ2_ok : ∀ k, k < 0 → parseFieldDescriptor (TJ2 k).2.2.1 = some (tyJ2 k) := by decide +kernel
abbrev cJ2_getChar_3b067 : ByteArray := prog_24_method_5_code
def yJ2_getChar_3b067 : MethodName := ⟨RJ2, "getChar", "([BI)C"⟩
abbrev cJ2_length_9d52b : ByteArray := prog_24_method_6_code
def yJ2_length_9d52b : MethodName := ⟨RJ2, "length", "([B)I"⟩
abbrev cJ2_indexOf_4cfef : ByteArray := prog_24_method_40_code
def yJ2_indexOf_4cfef : MethodName := ⟨RJ2, "indexOf", "([BIII)I"⟩
abbrev cJ2_indexOfChar_4cfef : ByteArray := prog_24_method_47_code
def yJ2_indexOfChar_4cfef : MethodName := ⟨RJ2, "indexOfChar", "([BIII)I"⟩
abbrev cJ2_indexOfCharUnsafe_4cfef : ByteArray := prog_24_method_48_code
def yJ2_indexOfCharUnsafe_4cfef : MethodName := ⟨RJ2, "indexOfCharUnsafe", "([BIII)I"⟩
abbrev cJ2_indexOfSupplementary_4cfef : ByteArray := prog_24_method_49_code
def yJ2_indexOfSupplementary_4cfef : MethodName := ⟨RJ2, "indexOfSupplementary", "([BIII)I"⟩
abbrev cJ2_charAt_3b067 : ByteArray := prog_24_method_83_code
def yJ2_charAt_3b067 : MethodName := ⟨RJ2, "charAt", "([BI)C"⟩
abbrev cJ2_checkIndex_2214a : ByteArray := prog_24_method_91_code
def yJ2_checkIndex_2214a : MethodName := ⟨RJ2, "checkIndex", "(I[B)V"⟩
abbrev cJ2_checkBoundsBeginEnd_d044e : ByteArray := prog_24_method_93_code
def yJ2_checkBoundsBeginEnd_d044e : MethodName := ⟨RJ2, "checkBoundsBeginEnd", "(II[B)V"⟩
def RJ10 : String := "java/lang/System"
def TJ10 : u_T := fun k => match k with
  | _ => ("", "", "", false)
def tyJ10 : Nat → FieldType := fun k => match k with
  | _ => .int
abbrev wsJ100 : List Cond := u_ws RJ10 TJ10 0
theorem nmJ10 : ∀ a, a < 0 → ∀ b, b < 0 → a ≠ b → (TJ10 a).2.1 ≠ (TJ10 b).2.1 := by decide +kernel
theorem tyJ10_ok : ∀ k, k < 0 → parseFieldDescriptor (TJ10 k).2.2.1 = some (tyJ10 k) := by decide +kernel
def RJxfd54e : String := "java/lang/constant/Constable"
def TJxfd54e : u_T := fun k => match k with
  | _ => ("", "", "", false)
def tyJxfd54e : Nat → FieldType := fun k => match k with
  | _ => .int
abbrev wsJxfd54e0 : List Cond := u_ws RJxfd54e TJxfd54e 0
theorem nmJxfd54e : ∀ a, a < 0 → ∀ b, b < 0 → a ≠ b → (TJxfd54e a).2.1 ≠ (TJxfd54e b).2.1 := by decide +kernel
theorem tyJxfd54e_ok : ∀ k, k < 0 → parseFieldDescriptor (TJxfd54e k).2.2.1 = some (tyJxfd54e k) := by decide +kernel
def RJx3cf43 : String := "java/lang/constant/ConstantDesc"
def TJx3cf43 : u_T := fun k => match k with
  | _ => ("", "", "", false)
def tyJx3cf43 : Nat → FieldType := fun k => match k with
  | _ => .int
abbrev wsJx3cf430 : List Cond := u_ws RJx3cf43 TJx3cf43 0
theorem nmJx3cf43 : ∀ a, a < 0 → ∀ b, b < 0 → a ≠ b → (TJx3cf43 a).2.1 ≠ (TJx3cf43 b).2.1 := by decide +kernel
theorem tyJx3cf43_ok : ∀ k, k < 0 → parseFieldDescriptor (TJx3cf43 k).2.2.1 = some (tyJx3cf43 k) := by decide +kernel
def RJ7 : String := "java/util/Arrays"
def TJ7 : u_T := fun k => match k with
  | _ => ("", "", "", false)
def tyJ7 : Nat → FieldType := fun k => match k with
  | _ => .int
abbrev wsJ70 : List Cond := u_ws RJ7 TJ7 0
theorem nmJ7 : ∀ a, a < 0 → ∀ b, b < 0 → a ≠ b → (TJ7 a).2.1 ≠ (TJ7 b).2.1 := by decide +kernel
theorem tyJ7_ok : ∀ k, k < 0 → parseFieldDescriptor (TJ7 k).2.2.1 = some (tyJ7 k) := by decide +kernel
abbrev cJ7_fill_53178 : ByteArray := prog_27_method_103_code
def yJ7_fill_53178 : MethodName := ⟨RJ7, "fill", "([II)V"⟩
def RJ3 : String := "jdk/internal/util/Preconditions"
def TJ3 : u_T := fun k => match k with
  | _ => ("", "", "", false)
def tyJ3 : Nat → FieldType := fun k => match k with
  | _ => .int
abbrev wsJ30 : List Cond := u_ws RJ3 TJ3 0
theorem nmJ3 : ∀ a, a < 0 → ∀ b, b < 0 → a ≠ b → (TJ3 a).2.1 ≠ (TJ3 b).2.1 := by decide +kernel
theorem tyJ3_ok : ∀ k, k < 0 → parseFieldDescriptor (TJ3 k).2.2.1 = some (tyJ3 k) := by decide +kernel
abbrev cJ3_checkIndex_8e157 : ByteArray := prog_28_method_11_code
def yJ3_checkIndex_8e157 : MethodName := ⟨RJ3, "checkIndex", "(IILjava/util/function/BiFunction;)I"⟩
abbrev cJ3_checkFromToIndex_8c36e : ByteArray := prog_28_method_12_code
def yJ3_checkFromToIndex_8c36e : MethodName := ⟨RJ3, "checkFromToIndex", "(IIILjava/util/function/BiFunction;)I"⟩
def RL : String := "LatticePathsLaw"
abbrev cL_start : ByteArray := method_3_code
def yL_start : MethodName := ⟨RL, "start", "(LLatticePaths;II[J)I"⟩
abbrev cL_step : ByteArray := method_4_code
def yL_step : MethodName := ⟨RL, "step", "(LLatticePaths;II[J)I"⟩
abbrev cL_back : ByteArray := method_5_code
def yL_back : MethodName := ⟨RL, "back", "(LLatticePaths;I[J)I"⟩
abbrev cL_slither : ByteArray := method_6_code
def yL_slither : MethodName := ⟨RL, "slither", "(LLatticePaths;II[J)I"⟩
abbrev cL_turn : ByteArray := method_7_code
def yL_turn : MethodName := ⟨RL, "turn", "(LLatticePaths;III[J)I"⟩
abbrev cL_reverse : ByteArray := method_8_code
def yL_reverse : MethodName := ⟨RL, "reverse", "(LLatticePaths;I[J)I"⟩
abbrev cL_join : ByteArray := method_9_code
def yL_join : MethodName := ⟨RL, "join", "(LLatticePaths;II[J)I"⟩
abbrev cL_split : ByteArray := method_10_code
def yL_split : MethodName := ⟨RL, "split", "(LLatticePaths;II[J)I"⟩
abbrev cL_remove : ByteArray := method_11_code
def yL_remove : MethodName := ⟨RL, "remove", "(LLatticePaths;I[J)I"⟩
abbrev cL_append : ByteArray := method_12_code
def yL_append : MethodName := ⟨RL, "append", "(LLatticePaths;I[J)I"⟩
abbrev cL_draw : ByteArray := method_13_code
def yL_draw : MethodName := ⟨RL, "draw", "(LLatticePaths;[J)I"⟩
abbrev cL_write : ByteArray := method_14_code
def yL_write : MethodName := ⟨RL, "write", "(LLatticePaths;I[J)I"⟩
abbrev cL_undo : ByteArray := method_15_code
def yL_undo : MethodName := ⟨RL, "undo", "(LLatticePaths;[J)I"⟩
abbrev cL_keep : ByteArray := method_16_code
def yL_keep : MethodName := ⟨RL, "keep", "(LLatticePaths;I[J)I"⟩
abbrev cL_goBack : ByteArray := method_17_code
def yL_goBack : MethodName := ⟨RL, "goBack", "(LLatticePaths;I[J)I"⟩
abbrev cL_site : ByteArray := method_18_code
def yL_site : MethodName := ⟨RL, "site", "(LLatticePaths;III[J)I"⟩
abbrev cL_place : ByteArray := method_19_code
def yL_place : MethodName := ⟨RL, "place", "(LLatticePaths;II[J)I"⟩
abbrev cL_path : ByteArray := method_20_code
def yL_path : MethodName := ⟨RL, "path", "(LLatticePaths;II[J)I"⟩
abbrev cL_touching : ByteArray := method_21_code
def yL_touching : MethodName := ⟨RL, "touching", "(LLatticePaths;II[J)I"⟩
abbrev cL_shape : ByteArray := method_22_code
def yL_shape : MethodName := ⟨RL, "shape", "(LLatticePaths;II[J)I"⟩
abbrev cL_isAlike : ByteArray := method_23_code
def yL_isAlike : MethodName := ⟨RL, "isAlike", "(LLatticePaths;II[J)I"⟩
abbrev cL_free : ByteArray := method_24_code
def yL_free : MethodName := ⟨RL, "free", "(LLatticePaths;I[J)I"⟩
abbrev cL_ways : ByteArray := method_25_code
def yL_ways : MethodName := ⟨RL, "ways", "(LLatticePaths;II[J)I"⟩
abbrev cL_bestStep : ByteArray := method_26_code
def yL_bestStep : MethodName := ⟨RL, "bestStep", "(LLatticePaths;I[J)I"⟩
abbrev cL_reach : ByteArray := method_27_code
def yL_reach : MethodName := ⟨RL, "reach", "(LLatticePaths;I[J)I"⟩
abbrev cL_ifTurned : ByteArray := method_28_code
def yL_ifTurned : MethodName := ⟨RL, "ifTurned", "(LLatticePaths;III[J)I"⟩
abbrev cL_turnable : ByteArray := method_29_code
def yL_turnable : MethodName := ⟨RL, "turnable", "(LLatticePaths;I[J)I"⟩
abbrev cL_count : ByteArray := method_30_code
def yL_count : MethodName := ⟨RL, "count", "(LLatticePaths;I[J)I"⟩
abbrev cL_spread : ByteArray := method_31_code
def yL_spread : MethodName := ⟨RL, "spread", "(LLatticePaths;I[D)I"⟩
abbrev cL_law : ByteArray := code
def yL_law : MethodName := ⟨RL, "law", "([I)Z"⟩
abbrev vwCl : List vw_C := [(RX0, TX0, 8), (RX1, TX1, 3), (RX3, TX3, 2), (RX4, TX4, 5), (RX5, TX5, 6), (RX6, TX6, 1), (RX7, TX7, 5), (RX8, TX8, 2), (RX9, TX9, 2), (RX10, TX10, 1), (RX11, TX11, 10), (RX12, TX12, 20)]
end
section
def goodP (w : Cond) : Bool := goodWord w
/-- the good words of the tables -/
def GW : List Cond := lw_tbl.filter goodWord
theorem inG {w : Cond} (h : w ∈ lw_tbl) (g : goodWord w = true) : w ∈ GW := List.mem_filter.mpr ⟨h, g⟩
theorem GW_good {w : Cond} (h : w ∈ GW) : goodWord w = true := (List.mem_filter.mp h).2
theorem GW_tbl {w : Cond} (h : w ∈ GW) : w ∈ lw_tbl := (List.mem_filter.mp h).1
theorem mp_ {w : Cond} (h : w ∈ k2_sels lw_privs) : w ∈ lw_tbl := List.mem_append_left _ h
theorem mt1 {w : Cond} (h : w ∈ tables_1_1) : w ∈ lw_tbl := List.mem_append_right _ (List.mem_append_left _ h)
theorem mt2 {w : Cond} (h : w ∈ tables_1_2) : w ∈ lw_tbl := List.mem_append_right _ (List.mem_append_right _ (List.mem_append_left _ h))
theorem mt3 {w : Cond} (h : w ∈ tables_1_3) : w ∈ lw_tbl := List.mem_append_right _ (List.mem_append_right _ (List.mem_append_right _ (List.mem_append_left _ h)))
theorem mt4 {w : Cond} (h : w ∈ tables_1_4) : w ∈ lw_tbl := List.mem_append_right _ (List.mem_append_right _ (List.mem_append_right _ (List.mem_append_right _ (List.mem_append_left _ h))))
theorem mt5 {w : Cond} (h : w ∈ tables_1_5) : w ∈ lw_tbl := List.mem_append_right _ (List.mem_append_right _ (List.mem_append_right _ (List.mem_append_right _ (List.mem_append_right _ (List.mem_append_left _ h)))))
theorem mt6 {w : Cond} (h : w ∈ tables_1_6) : w ∈ lw_tbl := List.mem_append_right _ (List.mem_append_right _ (List.mem_append_right _ (List.mem_append_right _ (List.mem_append_right _ (List.mem_append_right _ (List.mem_append_left _ h))))))
theorem mt7 {w : Cond} (h : w ∈ tables_1_7) : w ∈ lw_tbl := List.mem_append_right _ (List.mem_append_right _ (List.mem_append_right _ (List.mem_append_right _ (List.mem_append_right _ (List.mem_append_right _ (List.mem_append_right _ h))))))
abbrev Mt : Type := Option FieldType × String × Bool × List (Nat × Nat × Nat × Nat)
def codeW (y : MethodName) (cc : ByteArray) (nl : Nat) (mt : Mt) : Cond := match mt.2.2.2 with
  | [] => Cond.code y cc nl mt.1
  | t :: ts => Cond.codeWith y cc nl mt.1 (t :: ts)
/-- a method that can be called: on an object, and without one -/
def MB (y : MethodName) (cc : ByteArray) (nl : Nat) (mt : Mt) (n : Nat) : Prop := codeW y cc nl mt ∈ GW ∧ Cond.initialized y.cls ∈ GW ∧ (y.cls ≠ "java/lang/invoke/MethodHandle" ∧ y.cls ≠ "java/lang/invoke/VarHandle") ∧ (parseMethodDescriptor y.desc).map (fun d => d.parameters.length) = some n ∧ plainName y.cls = true ∧ nl ≤ 21 ∧ n ≤ nl
def MV (y : MethodName) (cc : ByteArray) (nl : Nat) (mt : Mt) (n : Nat) : Prop := MB y cc nl mt n ∧ Cond.instanceMethod y ∈ GW ∧ Cond.selects y.cls y y ∈ GW
def MS (y : MethodName) (cc : ByteArray) (nl : Nat) (mt : Mt) (n : Nat) : Prop := MB y cc nl mt n ∧ Cond.static y ∈ GW
def MI (y : MethodName) (cc : ByteArray) (nl : Nat) (mt : Mt) (n : Nat) : Prop := MB y cc nl mt n ∧ Cond.instanceMethod y ∈ GW ∧ y.name = "<init>" 
set_option maxRecDepth 20000 in
theorem gi_RX0 : Cond.initialized RX0 ∈ GW := inG (mt1 (List.mem_of_getElem? (i := 2) rfl)) rfl
set_option maxRecDepth 20000 in
theorem gi_RX1 : Cond.initialized RX1 ∈ GW := inG (mt1 (List.mem_of_getElem? (i := 5) rfl)) rfl
set_option maxRecDepth 20000 in
theorem gi_RX2 : Cond.initialized RX2 ∈ GW := inG (mt1 (List.mem_of_getElem? (i := 14) rfl)) rfl
set_option maxRecDepth 20000 in
theorem gi_RX3 : Cond.initialized RX3 ∈ GW := inG (mt1 (List.mem_of_getElem? (i := 8) rfl)) rfl
set_option maxRecDepth 20000 in
theorem gi_RX4 : Cond.initialized RX4 ∈ GW := inG (mt1 (List.mem_of_getElem? (i := 11) rfl)) rfl
set_option maxRecDepth 20000 in
theorem gi_RX5 : Cond.initialized RX5 ∈ GW := inG (mt1 (List.mem_of_getElem? (i := 6) rfl)) rfl
set_option maxRecDepth 20000 in
theorem gi_RX6 : Cond.initialized RX6 ∈ GW := inG (mt1 (List.mem_of_getElem? (i := 10) rfl)) rfl
set_option maxRecDepth 20000 in
theorem gi_RX7 : Cond.initialized RX7 ∈ GW := inG (mt1 (List.mem_of_getElem? (i := 12) rfl)) rfl
set_option maxRecDepth 20000 in
theorem gi_RX8 : Cond.initialized RX8 ∈ GW := inG (mt1 (List.mem_of_getElem? (i := 7) rfl)) rfl
set_option maxRecDepth 20000 in
theorem gi_RX9 : Cond.initialized RX9 ∈ GW := inG (mt1 (List.mem_of_getElem? (i := 3) rfl)) rfl
set_option maxRecDepth 20000 in
theorem gi_RX10 : Cond.initialized RX10 ∈ GW := inG (mt1 (List.mem_of_getElem? (i := 9) rfl)) rfl
set_option maxRecDepth 20000 in
theorem gi_RX11 : Cond.initialized RX11 ∈ GW := inG (mt1 (List.mem_of_getElem? (i := 1) rfl)) rfl
set_option maxRecDepth 20000 in
theorem gi_RX12 : Cond.initialized RX12 ∈ GW := inG (mt1 (List.mem_of_getElem? (i := 13) rfl)) rfl
set_option maxRecDepth 20000 in
theorem gi_RJ11 : Cond.initialized RJ11 ∈ GW := inG (mt1 (List.mem_of_getElem? (i := 26) rfl)) rfl
set_option maxRecDepth 20000 in
theorem gi_RJ9 : Cond.initialized RJ9 ∈ GW := inG (mt1 (List.mem_of_getElem? (i := 23) rfl)) rfl
set_option maxRecDepth 20000 in
theorem gi_RJ0 : Cond.initialized RJ0 ∈ GW := inG (mt1 (List.mem_of_getElem? (i := 21) rfl)) rfl
set_option maxRecDepth 20000 in
theorem gi_RJ1 : Cond.initialized RJ1 ∈ GW := inG (mt1 (List.mem_of_getElem? (i := 22) rfl)) rfl
set_option maxRecDepth 20000 in
theorem gi_RJ2 : Cond.initialized RJ2 ∈ GW := inG (mt1 (List.mem_of_getElem? (i := 24) rfl)) rfl
set_option maxRecDepth 20000 in
theorem gi_RJ10 : Cond.initialized RJ10 ∈ GW := inG (mt1 (List.mem_of_getElem? (i := 27) rfl)) rfl
set_option maxRecDepth 20000 in
theorem gi_RJ7 : Cond.initialized RJ7 ∈ GW := inG (mt1 (List.mem_of_getElem? (i := 4) rfl)) rfl
set_option maxRecDepth 20000 in
theorem gi_RJ3 : Cond.initialized RJ3 ∈ GW := inG (mt1 (List.mem_of_getElem? (i := 25) rfl)) rfl
set_option maxRecDepth 20000 in
theorem gi_RL : Cond.initialized RL ∈ GW := inG (mt1 (List.mem_of_getElem? (i := 0) rfl)) rfl
abbrev mX11_init : Mt := (none, RX11, true, [])
set_option maxRecDepth 20000 in
theorem miX11_init : MI yX11_init cX11_init 1 mX11_init 0 := ⟨⟨inG (mt1 (List.mem_of_getElem? (i := 32) rfl)) rfl, gi_RX11, ⟨by decide +kernel, by decide +kernel⟩, by decide +kernel, by decide +kernel, by decide, by decide⟩, inG (mt1 (List.mem_of_getElem? (i := 31) rfl)) rfl, rfl⟩
abbrev mX0_init : Mt := (none, RX0, true, [])
set_option maxRecDepth 20000 in
theorem miX0_init : MI yX0_init cX0_init 2 mX0_init 0 := ⟨⟨inG (mt1 (List.mem_of_getElem? (i := 40) rfl)) rfl, gi_RX0, ⟨by decide +kernel, by decide +kernel⟩, by decide +kernel, by decide +kernel, by decide, by decide⟩, inG (mt1 (List.mem_of_getElem? (i := 39) rfl)) rfl, rfl⟩
abbrev mX9_init : Mt := (none, RX9, true, [])
set_option maxRecDepth 20000 in
theorem miX9_init : MI yX9_init cX9_init 1 mX9_init 0 := ⟨⟨inG (mt1 (List.mem_of_getElem? (i := 47) rfl)) rfl, gi_RX9, ⟨by decide +kernel, by decide +kernel⟩, by decide +kernel, by decide +kernel, by decide, by decide⟩, inG (mt1 (List.mem_of_getElem? (i := 46) rfl)) rfl, rfl⟩
abbrev mJ7_fill_53178 : Mt := (none, RJ7, false, [])
set_option maxRecDepth 20000 in
theorem msJ7_fill_53178 : MS yJ7_fill_53178 cJ7_fill_53178 4 mJ7_fill_53178 2 := ⟨⟨inG (mt1 (List.mem_of_getElem? (i := 59) rfl)) rfl, gi_RJ7, ⟨by decide +kernel, by decide +kernel⟩, by decide +kernel, by decide +kernel, by decide, by decide⟩, inG (mt1 (List.mem_of_getElem? (i := 58) rfl)) rfl⟩
abbrev mX1_init : Mt := (none, RX1, true, [])
set_option maxRecDepth 20000 in
theorem miX1_init : MI yX1_init cX1_init 2 mX1_init 0 := ⟨⟨inG (mt1 (List.mem_of_getElem? (i := 94) rfl)) rfl, gi_RX1, ⟨by decide +kernel, by decide +kernel⟩, by decide +kernel, by decide +kernel, by decide, by decide⟩, inG (mt1 (List.mem_of_getElem? (i := 93) rfl)) rfl, rfl⟩
abbrev mX5_init : Mt := (none, RX5, true, [])
set_option maxRecDepth 20000 in
theorem miX5_init : MI yX5_init cX5_init 1 mX5_init 0 := ⟨⟨inG (mt1 (List.mem_of_getElem? (i := 101) rfl)) rfl, gi_RX5, ⟨by decide +kernel, by decide +kernel⟩, by decide +kernel, by decide +kernel, by decide, by decide⟩, inG (mt1 (List.mem_of_getElem? (i := 100) rfl)) rfl, rfl⟩
abbrev mX8_init : Mt := (none, RX8, true, [])
set_option maxRecDepth 20000 in
theorem miX8_init : MI yX8_init cX8_init 2 mX8_init 0 := ⟨⟨inG (mt1 (List.mem_of_getElem? (i := 136) rfl)) rfl, gi_RX8, ⟨by decide +kernel, by decide +kernel⟩, by decide +kernel, by decide +kernel, by decide, by decide⟩, inG (mt1 (List.mem_of_getElem? (i := 135) rfl)) rfl, rfl⟩
abbrev mX3_init : Mt := (none, RX3, true, [])
set_option maxRecDepth 20000 in
theorem miX3_init : MI yX3_init cX3_init 1 mX3_init 0 := ⟨⟨inG (mt1 (List.mem_of_getElem? (i := 152) rfl)) rfl, gi_RX3, ⟨by decide +kernel, by decide +kernel⟩, by decide +kernel, by decide +kernel, by decide, by decide⟩, inG (mt1 (List.mem_of_getElem? (i := 151) rfl)) rfl, rfl⟩
abbrev mX10_init : Mt := (none, RX10, true, [])
set_option maxRecDepth 20000 in
theorem miX10_init : MI yX10_init cX10_init 1 mX10_init 0 := ⟨⟨inG (mt1 (List.mem_of_getElem? (i := 168) rfl)) rfl, gi_RX10, ⟨by decide +kernel, by decide +kernel⟩, by decide +kernel, by decide +kernel, by decide, by decide⟩, inG (mt1 (List.mem_of_getElem? (i := 167) rfl)) rfl, rfl⟩
abbrev mX6_init : Mt := (none, RX6, true, [])
set_option maxRecDepth 20000 in
theorem miX6_init : MI yX6_init cX6_init 1 mX6_init 0 := ⟨⟨inG (mt1 (List.mem_of_getElem? (i := 178) rfl)) rfl, gi_RX6, ⟨by decide +kernel, by decide +kernel⟩, by decide +kernel, by decide +kernel, by decide, by decide⟩, inG (mt1 (List.mem_of_getElem? (i := 177) rfl)) rfl, rfl⟩
abbrev mX4_init : Mt := (none, RX4, true, [])
set_option maxRecDepth 20000 in
theorem miX4_init : MI yX4_init cX4_init 1 mX4_init 0 := ⟨⟨inG (mt1 (List.mem_of_getElem? (i := 188) rfl)) rfl, gi_RX4, ⟨by decide +kernel, by decide +kernel⟩, by decide +kernel, by decide +kernel, by decide, by decide⟩, inG (mt1 (List.mem_of_getElem? (i := 187) rfl)) rfl, rfl⟩
abbrev mX7_init : Mt := (none, RX7, true, [])
set_option maxRecDepth 20000 in
theorem miX7_init : MI yX7_init cX7_init 1 mX7_init 0 := ⟨⟨inG (mt1 (List.mem_of_getElem? (i := 210) rfl)) rfl, gi_RX7, ⟨by decide +kernel, by decide +kernel⟩, by decide +kernel, by decide +kernel, by decide, by decide⟩, inG (mt1 (List.mem_of_getElem? (i := 209) rfl)) rfl, rfl⟩
abbrev mX12_init : Mt := (none, RX12, true, [])
set_option maxRecDepth 20000 in
theorem miX12_init : MI yX12_init cX12_init 1 mX12_init 0 := ⟨⟨inG (mt5 (List.mem_of_getElem? (i := 233) rfl)) rfl, gi_RX12, ⟨by decide +kernel, by decide +kernel⟩, by decide +kernel, by decide +kernel, by decide, by decide⟩, inG (mt5 (List.mem_of_getElem? (i := 232) rfl)) rfl, rfl⟩
abbrev mL_start : Mt := ((some .int), RL, false, [(0, 10, 13, 13), (0, 10, 17, 15)])
set_option maxRecDepth 20000 in
theorem msL_start : MS yL_start cL_start 5 mL_start 4 := ⟨⟨inG (mt2 (List.mem_of_getElem? (i := 192) rfl)) rfl, gi_RL, ⟨by decide +kernel, by decide +kernel⟩, by decide +kernel, by decide +kernel, by decide, by decide⟩, inG (mt2 (List.mem_of_getElem? (i := 191) rfl)) rfl⟩
abbrev mX11_start : Mt := ((some .int), RX11, false, [])
set_option maxRecDepth 20000 in
theorem mvX11_start : MV yX11_start cX11_start 4 mX11_start 2 := ⟨⟨inG (mt2 (List.mem_of_getElem? (i := 198) rfl)) rfl, gi_RX11, ⟨by decide +kernel, by decide +kernel⟩, by decide +kernel, by decide +kernel, by decide, by decide⟩, inG (mt2 (List.mem_of_getElem? (i := 196) rfl)) rfl, inG (mt2 (List.mem_of_getElem? (i := 197) rfl)) rfl⟩
abbrev mX11_checkedSite : Mt := ((some .int), RX11, false, [])
set_option maxRecDepth 20000 in
theorem msX11_checkedSite : MS yX11_checkedSite cX11_checkedSite 3 mX11_checkedSite 2 := ⟨⟨inG (mt2 (List.mem_of_getElem? (i := 201) rfl)) rfl, gi_RX11, ⟨by decide +kernel, by decide +kernel⟩, by decide +kernel, by decide +kernel, by decide, by decide⟩, inG (mt2 (List.mem_of_getElem? (i := 200) rfl)) rfl⟩
abbrev mX2_number : Mt := ((some .int), RX2, false, [])
set_option maxRecDepth 20000 in
theorem msX2_number : MS yX2_number cX2_number 2 mX2_number 2 := ⟨⟨inG (mt2 (List.mem_of_getElem? (i := 173) rfl)) rfl, gi_RX2, ⟨by decide +kernel, by decide +kernel⟩, by decide +kernel, by decide +kernel, by decide, by decide⟩, inG (mt2 (List.mem_of_getElem? (i := 172) rfl)) rfl⟩
abbrev mX0_isFree : Mt := ((some .boolean), RX0, false, [])
set_option maxRecDepth 20000 in
theorem mvX0_isFree : MV yX0_isFree cX0_isFree 2 mX0_isFree 1 := ⟨⟨inG (mt2 (List.mem_of_getElem? (i := 177) rfl)) rfl, gi_RX0, ⟨by decide +kernel, by decide +kernel⟩, by decide +kernel, by decide +kernel, by decide, by decide⟩, inG (mt2 (List.mem_of_getElem? (i := 175) rfl)) rfl, inG (mt2 (List.mem_of_getElem? (i := 176) rfl)) rfl⟩
abbrev mX2_isSite : Mt := ((some .boolean), RX2, false, [])
set_option maxRecDepth 20000 in
theorem msX2_isSite : MS yX2_isSite cX2_isSite 1 mX2_isSite 1 := ⟨⟨inG (mt2 (List.mem_of_getElem? (i := 180) rfl)) rfl, gi_RX2, ⟨by decide +kernel, by decide +kernel⟩, by decide +kernel, by decide +kernel, by decide, by decide⟩, inG (mt2 (List.mem_of_getElem? (i := 179) rfl)) rfl⟩
abbrev mX0_isFull : Mt := ((some .boolean), RX0, false, [])
set_option maxRecDepth 20000 in
theorem mvX0_isFull : MV yX0_isFull cX0_isFull 1 mX0_isFull 0 := ⟨⟨inG (mt3 (List.mem_of_getElem? (i := 34) rfl)) rfl, gi_RX0, ⟨by decide +kernel, by decide +kernel⟩, by decide +kernel, by decide +kernel, by decide, by decide⟩, inG (mt3 (List.mem_of_getElem? (i := 32) rfl)) rfl, inG (mt3 (List.mem_of_getElem? (i := 33) rfl)) rfl⟩
abbrev mX1_save : Mt := (none, RX1, false, [])
set_option maxRecDepth 20000 in
theorem mvX1_save : MV yX1_save cX1_save 2 mX1_save 1 := ⟨⟨inG (mt3 (List.mem_of_getElem? (i := 54) rfl)) rfl, gi_RX1, ⟨by decide +kernel, by decide +kernel⟩, by decide +kernel, by decide +kernel, by decide, by decide⟩, inG (mt3 (List.mem_of_getElem? (i := 52) rfl)) rfl, inG (mt3 (List.mem_of_getElem? (i := 53) rfl)) rfl⟩
abbrev mX5_take : Mt := (none, RX5, false, [])
set_option maxRecDepth 20000 in
theorem mvX5_take : MV yX5_take cX5_take 6 mX5_take 1 := ⟨⟨inG (mt3 (List.mem_of_getElem? (i := 58) rfl)) rfl, gi_RX5, ⟨by decide +kernel, by decide +kernel⟩, by decide +kernel, by decide +kernel, by decide, by decide⟩, inG (mt3 (List.mem_of_getElem? (i := 56) rfl)) rfl, inG (mt3 (List.mem_of_getElem? (i := 57) rfl)) rfl⟩
abbrev mX9_length : Mt := ((some .int), RX9, false, [])
set_option maxRecDepth 20000 in
theorem mvX9_length : MV yX9_length cX9_length 1 mX9_length 0 := ⟨⟨inG (mt3 (List.mem_of_getElem? (i := 62) rfl)) rfl, gi_RX9, ⟨by decide +kernel, by decide +kernel⟩, by decide +kernel, by decide +kernel, by decide, by decide⟩, inG (mt3 (List.mem_of_getElem? (i := 60) rfl)) rfl, inG (mt3 (List.mem_of_getElem? (i := 61) rfl)) rfl⟩
abbrev mX9_at : Mt := ((some .int), RX9, false, [])
set_option maxRecDepth 20000 in
theorem mvX9_at : MV yX9_at cX9_at 2 mX9_at 1 := ⟨⟨inG (mt2 (List.mem_of_getElem? (i := 149) rfl)) rfl, gi_RX9, ⟨by decide +kernel, by decide +kernel⟩, by decide +kernel, by decide +kernel, by decide, by decide⟩, inG (mt2 (List.mem_of_getElem? (i := 147) rfl)) rfl, inG (mt2 (List.mem_of_getElem? (i := 148) rfl)) rfl⟩
abbrev mX9_has : Mt := ((some .boolean), RX9, false, [])
set_option maxRecDepth 20000 in
theorem mvX9_has : MV yX9_has cX9_has 2 mX9_has 1 := ⟨⟨inG (mt2 (List.mem_of_getElem? (i := 153) rfl)) rfl, gi_RX9, ⟨by decide +kernel, by decide +kernel⟩, by decide +kernel, by decide +kernel, by decide, by decide⟩, inG (mt2 (List.mem_of_getElem? (i := 151) rfl)) rfl, inG (mt2 (List.mem_of_getElem? (i := 152) rfl)) rfl⟩
abbrev mX9_begin : Mt := (none, RX9, false, [])
set_option maxRecDepth 20000 in
theorem mvX9_begin : MV yX9_begin cX9_begin 2 mX9_begin 1 := ⟨⟨inG (mt3 (List.mem_of_getElem? (i := 67) rfl)) rfl, gi_RX9, ⟨by decide +kernel, by decide +kernel⟩, by decide +kernel, by decide +kernel, by decide, by decide⟩, inG (mt3 (List.mem_of_getElem? (i := 65) rfl)) rfl, inG (mt3 (List.mem_of_getElem? (i := 66) rfl)) rfl⟩
abbrev mX9_clear : Mt := (none, RX9, false, [])
set_option maxRecDepth 20000 in
theorem mvX9_clear : MV yX9_clear cX9_clear 1 mX9_clear 0 := ⟨⟨inG (mt3 (List.mem_of_getElem? (i := 71) rfl)) rfl, gi_RX9, ⟨by decide +kernel, by decide +kernel⟩, by decide +kernel, by decide +kernel, by decide, by decide⟩, inG (mt3 (List.mem_of_getElem? (i := 69) rfl)) rfl, inG (mt3 (List.mem_of_getElem? (i := 70) rfl)) rfl⟩
abbrev mX9_push : Mt := (none, RX9, false, [])
set_option maxRecDepth 20000 in
theorem mvX9_push : MV yX9_push cX9_push 2 mX9_push 1 := ⟨⟨inG (mt3 (List.mem_of_getElem? (i := 75) rfl)) rfl, gi_RX9, ⟨by decide +kernel, by decide +kernel⟩, by decide +kernel, by decide +kernel, by decide, by decide⟩, inG (mt3 (List.mem_of_getElem? (i := 73) rfl)) rfl, inG (mt3 (List.mem_of_getElem? (i := 74) rfl)) rfl⟩
abbrev mX9_isFull : Mt := ((some .boolean), RX9, false, [])
set_option maxRecDepth 20000 in
theorem mvX9_isFull : MV yX9_isFull cX9_isFull 1 mX9_isFull 0 := ⟨⟨inG (mt3 (List.mem_of_getElem? (i := 79) rfl)) rfl, gi_RX9, ⟨by decide +kernel, by decide +kernel⟩, by decide +kernel, by decide +kernel, by decide, by decide⟩, inG (mt3 (List.mem_of_getElem? (i := 77) rfl)) rfl, inG (mt3 (List.mem_of_getElem? (i := 78) rfl)) rfl⟩
abbrev mX0_add : Mt := ((some .int), RX0, false, [])
set_option maxRecDepth 20000 in
theorem mvX0_add : MV yX0_add cX0_add 3 mX0_add 1 := ⟨⟨inG (mt3 (List.mem_of_getElem? (i := 83) rfl)) rfl, gi_RX0, ⟨by decide +kernel, by decide +kernel⟩, by decide +kernel, by decide +kernel, by decide, by decide⟩, inG (mt3 (List.mem_of_getElem? (i := 81) rfl)) rfl, inG (mt3 (List.mem_of_getElem? (i := 82) rfl)) rfl⟩
abbrev mX9_copyFrom : Mt := (none, RX9, false, [])
set_option maxRecDepth 20000 in
theorem mvX9_copyFrom : MV yX9_copyFrom cX9_copyFrom 4 mX9_copyFrom 2 := ⟨⟨inG (mt3 (List.mem_of_getElem? (i := 87) rfl)) rfl, gi_RX9, ⟨by decide +kernel, by decide +kernel⟩, by decide +kernel, by decide +kernel, by decide, by decide⟩, inG (mt3 (List.mem_of_getElem? (i := 85) rfl)) rfl, inG (mt3 (List.mem_of_getElem? (i := 86) rfl)) rfl⟩
abbrev mX0_markSites : Mt := (none, RX0, false, [])
set_option maxRecDepth 20000 in
theorem mvX0_markSites : MV yX0_markSites cX0_markSites 4 mX0_markSites 0 := ⟨⟨inG (mt3 (List.mem_of_getElem? (i := 91) rfl)) rfl, gi_RX0, ⟨by decide +kernel, by decide +kernel⟩, by decide +kernel, by decide +kernel, by decide, by decide⟩, inG (mt3 (List.mem_of_getElem? (i := 89) rfl)) rfl, inG (mt3 (List.mem_of_getElem? (i := 90) rfl)) rfl⟩
abbrev mX0_mark : Mt := (none, RX0, false, [])
set_option maxRecDepth 20000 in
theorem mvX0_mark : MV yX0_mark cX0_mark 4 mX0_mark 3 := ⟨⟨inG (mt3 (List.mem_of_getElem? (i := 97) rfl)) rfl, gi_RX0, ⟨by decide +kernel, by decide +kernel⟩, by decide +kernel, by decide +kernel, by decide, by decide⟩, inG (mt3 (List.mem_of_getElem? (i := 96) rfl)) rfl, inG (mp_ (List.mem_of_getElem? (i := 1) rfl)) rfl⟩
abbrev mX12_start : Mt := ((some .int), RX12, false, [])
set_option maxRecDepth 20000 in
theorem mvX12_start : MV yX12_start cX12_start 3 mX12_start 2 := ⟨⟨inG (mt6 (List.mem_of_getElem? (i := 86) rfl)) rfl, gi_RX12, ⟨by decide +kernel, by decide +kernel⟩, by decide +kernel, by decide +kernel, by decide, by decide⟩, inG (mt6 (List.mem_of_getElem? (i := 84) rfl)) rfl, inG (mt6 (List.mem_of_getElem? (i := 85) rfl)) rfl⟩
abbrev mX12_within : Mt := ((some .boolean), RX12, false, [])
set_option maxRecDepth 20000 in
theorem msX12_within : MS yX12_within cX12_within 3 mX12_within 3 := ⟨⟨inG (mt6 (List.mem_of_getElem? (i := 74) rfl)) rfl, gi_RX12, ⟨by decide +kernel, by decide +kernel⟩, by decide +kernel, by decide +kernel, by decide, by decide⟩, inG (mt6 (List.mem_of_getElem? (i := 73) rfl)) rfl⟩
abbrev mX12_fails : Mt := ((some .int), RX12, false, [])
set_option maxRecDepth 20000 in
theorem mvX12_fails : MV yX12_fails cX12_fails 2 mX12_fails 1 := ⟨⟨inG (mt6 (List.mem_of_getElem? (i := 67) rfl)) rfl, gi_RX12, ⟨by decide +kernel, by decide +kernel⟩, by decide +kernel, by decide +kernel, by decide, by decide⟩, inG (mt6 (List.mem_of_getElem? (i := 66) rfl)) rfl, inG (mp_ (List.mem_of_getElem? (i := 15) rfl)) rfl⟩
abbrev mX12_lay : Mt := (none, RX12, false, [])
set_option maxRecDepth 20000 in
theorem mvX12_lay : MV yX12_lay cX12_lay 3 mX12_lay 0 := ⟨⟨inG (mt6 (List.mem_of_getElem? (i := 90) rfl)) rfl, gi_RX12, ⟨by decide +kernel, by decide +kernel⟩, by decide +kernel, by decide +kernel, by decide, by decide⟩, inG (mt6 (List.mem_of_getElem? (i := 89) rfl)) rfl, inG (mp_ (List.mem_of_getElem? (i := 17) rfl)) rfl⟩
abbrev mX12_lengthOf : Mt := ((some .int), RX12, false, [])
set_option maxRecDepth 20000 in
theorem mvX12_lengthOf : MV yX12_lengthOf cX12_lengthOf 2 mX12_lengthOf 1 := ⟨⟨inG (mt6 (List.mem_of_getElem? (i := 94) rfl)) rfl, gi_RX12, ⟨by decide +kernel, by decide +kernel⟩, by decide +kernel, by decide +kernel, by decide, by decide⟩, inG (mt6 (List.mem_of_getElem? (i := 93) rfl)) rfl, inG (mp_ (List.mem_of_getElem? (i := 18) rfl)) rfl⟩
abbrev mX12_siteOf : Mt := ((some .int), RX12, false, [])
set_option maxRecDepth 20000 in
theorem mvX12_siteOf : MV yX12_siteOf cX12_siteOf 3 mX12_siteOf 2 := ⟨⟨inG (mt6 (List.mem_of_getElem? (i := 98) rfl)) rfl, gi_RX12, ⟨by decide +kernel, by decide +kernel⟩, by decide +kernel, by decide +kernel, by decide, by decide⟩, inG (mt6 (List.mem_of_getElem? (i := 97) rfl)) rfl, inG (mp_ (List.mem_of_getElem? (i := 19) rfl)) rfl⟩
abbrev mX12_save : Mt := (none, RX12, false, [])
set_option maxRecDepth 20000 in
theorem mvX12_save : MV yX12_save cX12_save 2 mX12_save 0 := ⟨⟨inG (mt6 (List.mem_of_getElem? (i := 82) rfl)) rfl, gi_RX12, ⟨by decide +kernel, by decide +kernel⟩, by decide +kernel, by decide +kernel, by decide, by decide⟩, inG (mt6 (List.mem_of_getElem? (i := 81) rfl)) rfl, inG (mp_ (List.mem_of_getElem? (i := 16) rfl)) rfl⟩
abbrev mX12_addPath : Mt := ((some .int), RX12, false, [])
set_option maxRecDepth 20000 in
theorem mvX12_addPath : MV yX12_addPath cX12_addPath 3 mX12_addPath 0 := ⟨⟨inG (mt6 (List.mem_of_getElem? (i := 102) rfl)) rfl, gi_RX12, ⟨by decide +kernel, by decide +kernel⟩, by decide +kernel, by decide +kernel, by decide, by decide⟩, inG (mt6 (List.mem_of_getElem? (i := 101) rfl)) rfl, inG (mp_ (List.mem_of_getElem? (i := 20) rfl)) rfl⟩
abbrev mX12_setSite : Mt := (none, RX12, false, [])
set_option maxRecDepth 20000 in
theorem mvX12_setSite : MV yX12_setSite cX12_setSite 4 mX12_setSite 3 := ⟨⟨inG (mt6 (List.mem_of_getElem? (i := 106) rfl)) rfl, gi_RX12, ⟨by decide +kernel, by decide +kernel⟩, by decide +kernel, by decide +kernel, by decide, by decide⟩, inG (mt6 (List.mem_of_getElem? (i := 105) rfl)) rfl, inG (mp_ (List.mem_of_getElem? (i := 21) rfl)) rfl⟩
abbrev mX12_thrown : Mt := ((some .int), RX12, false, [])
set_option maxRecDepth 20000 in
theorem mvX12_thrown : MV yX12_thrown cX12_thrown 1 mX12_thrown 0 := ⟨⟨inG (mt6 (List.mem_of_getElem? (i := 59) rfl)) rfl, gi_RX12, ⟨by decide +kernel, by decide +kernel⟩, by decide +kernel, by decide +kernel, by decide, by decide⟩, inG (mt6 (List.mem_of_getElem? (i := 57) rfl)) rfl, inG (mt6 (List.mem_of_getElem? (i := 58) rfl)) rfl⟩
abbrev mL_step : Mt := ((some .int), RL, false, [(0, 10, 13, 13), (0, 10, 17, 20)])
set_option maxRecDepth 20000 in
theorem msL_step : MS yL_step cL_step 5 mL_step 4 := ⟨⟨inG (mt3 (List.mem_of_getElem? (i := 100) rfl)) rfl, gi_RL, ⟨by decide +kernel, by decide +kernel⟩, by decide +kernel, by decide +kernel, by decide, by decide⟩, inG (mt3 (List.mem_of_getElem? (i := 99) rfl)) rfl⟩
abbrev mX11_step : Mt := ((some .int), RX11, false, [])
set_option maxRecDepth 20000 in
theorem mvX11_step : MV yX11_step cX11_step 3 mX11_step 2 := ⟨⟨inG (mt3 (List.mem_of_getElem? (i := 105) rfl)) rfl, gi_RX11, ⟨by decide +kernel, by decide +kernel⟩, by decide +kernel, by decide +kernel, by decide, by decide⟩, inG (mt3 (List.mem_of_getElem? (i := 103) rfl)) rfl, inG (mt3 (List.mem_of_getElem? (i := 104) rfl)) rfl⟩
abbrev mX11_checkPath : Mt := (none, RX11, false, [])
set_option maxRecDepth 20000 in
theorem mvX11_checkPath : MV yX11_checkPath cX11_checkPath 2 mX11_checkPath 1 := ⟨⟨inG (mt3 (List.mem_of_getElem? (i := 109) rfl)) rfl, gi_RX11, ⟨by decide +kernel, by decide +kernel⟩, by decide +kernel, by decide +kernel, by decide, by decide⟩, inG (mt3 (List.mem_of_getElem? (i := 108) rfl)) rfl, inG (mp_ (List.mem_of_getElem? (i := 2) rfl)) rfl⟩
abbrev mX0_pathCount : Mt := ((some .int), RX0, false, [])
set_option maxRecDepth 20000 in
theorem mvX0_pathCount : MV yX0_pathCount cX0_pathCount 1 mX0_pathCount 0 := ⟨⟨inG (mt2 (List.mem_of_getElem? (i := 137) rfl)) rfl, gi_RX0, ⟨by decide +kernel, by decide +kernel⟩, by decide +kernel, by decide +kernel, by decide, by decide⟩, inG (mt2 (List.mem_of_getElem? (i := 135) rfl)) rfl, inG (mt2 (List.mem_of_getElem? (i := 136) rfl)) rfl⟩
abbrev mX11_checkDirection : Mt := (none, RX11, false, [])
set_option maxRecDepth 20000 in
theorem msX11_checkDirection : MS yX11_checkDirection cX11_checkDirection 1 mX11_checkDirection 1 := ⟨⟨inG (mt3 (List.mem_of_getElem? (i := 113) rfl)) rfl, gi_RX11, ⟨by decide +kernel, by decide +kernel⟩, by decide +kernel, by decide +kernel, by decide, by decide⟩, inG (mt3 (List.mem_of_getElem? (i := 112) rfl)) rfl⟩
abbrev mX11_checkRange : Mt := (none, RX11, false, [])
set_option maxRecDepth 20000 in
theorem msX11_checkRange : MS yX11_checkRange cX11_checkRange 3 mX11_checkRange 3 := ⟨⟨inG (mt3 (List.mem_of_getElem? (i := 116) rfl)) rfl, gi_RX11, ⟨by decide +kernel, by decide +kernel⟩, by decide +kernel, by decide +kernel, by decide, by decide⟩, inG (mt3 (List.mem_of_getElem? (i := 115) rfl)) rfl⟩
abbrev mX0_lengthen : Mt := ((some .int), RX0, false, [])
set_option maxRecDepth 20000 in
theorem mvX0_lengthen : MV yX0_lengthen cX0_lengthen 6 mX0_lengthen 2 := ⟨⟨inG (mt3 (List.mem_of_getElem? (i := 136) rfl)) rfl, gi_RX0, ⟨by decide +kernel, by decide +kernel⟩, by decide +kernel, by decide +kernel, by decide, by decide⟩, inG (mt3 (List.mem_of_getElem? (i := 134) rfl)) rfl, inG (mt3 (List.mem_of_getElem? (i := 135) rfl)) rfl⟩
abbrev mX9_head : Mt := ((some .int), RX9, false, [])
set_option maxRecDepth 20000 in
theorem mvX9_head : MV yX9_head cX9_head 1 mX9_head 0 := ⟨⟨inG (mt2 (List.mem_of_getElem? (i := 145) rfl)) rfl, gi_RX9, ⟨by decide +kernel, by decide +kernel⟩, by decide +kernel, by decide +kernel, by decide, by decide⟩, inG (mt2 (List.mem_of_getElem? (i := 143) rfl)) rfl, inG (mt2 (List.mem_of_getElem? (i := 144) rfl)) rfl⟩
abbrev mX2_neighbour : Mt := ((some .int), RX2, false, [])
set_option maxRecDepth 20000 in
theorem msX2_neighbour : MS yX2_neighbour cX2_neighbour 2 mX2_neighbour 2 := ⟨⟨inG (mt2 (List.mem_of_getElem? (i := 160) rfl)) rfl, gi_RX2, ⟨by decide +kernel, by decide +kernel⟩, by decide +kernel, by decide +kernel, by decide, by decide⟩, inG (mt2 (List.mem_of_getElem? (i := 159) rfl)) rfl⟩
abbrev mX2_column : Mt := ((some .int), RX2, false, [])
set_option maxRecDepth 20000 in
theorem msX2_column : MS yX2_column cX2_column 1 mX2_column 1 := ⟨⟨inG (mt2 (List.mem_of_getElem? (i := 163) rfl)) rfl, gi_RX2, ⟨by decide +kernel, by decide +kernel⟩, by decide +kernel, by decide +kernel, by decide, by decide⟩, inG (mt2 (List.mem_of_getElem? (i := 162) rfl)) rfl⟩
abbrev mX2_row : Mt := ((some .int), RX2, false, [])
set_option maxRecDepth 20000 in
theorem msX2_row : MS yX2_row cX2_row 1 mX2_row 1 := ⟨⟨inG (mt2 (List.mem_of_getElem? (i := 168) rfl)) rfl, gi_RX2, ⟨by decide +kernel, by decide +kernel⟩, by decide +kernel, by decide +kernel, by decide, by decide⟩, inG (mt2 (List.mem_of_getElem? (i := 167) rfl)) rfl⟩
abbrev mX0_refusalAt : Mt := ((some .int), RX0, false, [])
set_option maxRecDepth 20000 in
theorem mvX0_refusalAt : MV yX0_refusalAt cX0_refusalAt 3 mX0_refusalAt 2 := ⟨⟨inG (mt3 (List.mem_of_getElem? (i := 141) rfl)) rfl, gi_RX0, ⟨by decide +kernel, by decide +kernel⟩, by decide +kernel, by decide +kernel, by decide, by decide⟩, inG (mt3 (List.mem_of_getElem? (i := 140) rfl)) rfl, inG (mp_ (List.mem_of_getElem? (i := 3) rfl)) rfl⟩
abbrev mX0_pathAt : Mt := ((some .int), RX0, false, [])
set_option maxRecDepth 20000 in
theorem mvX0_pathAt : MV yX0_pathAt cX0_pathAt 2 mX0_pathAt 1 := ⟨⟨inG (mt3 (List.mem_of_getElem? (i := 145) rfl)) rfl, gi_RX0, ⟨by decide +kernel, by decide +kernel⟩, by decide +kernel, by decide +kernel, by decide, by decide⟩, inG (mt3 (List.mem_of_getElem? (i := 143) rfl)) rfl, inG (mt3 (List.mem_of_getElem? (i := 144) rfl)) rfl⟩
abbrev mX0_noteStep : Mt := (none, RX0, false, [])
set_option maxRecDepth 20000 in
theorem mvX0_noteStep : MV yX0_noteStep cX0_noteStep 2 mX0_noteStep 1 := ⟨⟨inG (mt3 (List.mem_of_getElem? (i := 151) rfl)) rfl, gi_RX0, ⟨by decide +kernel, by decide +kernel⟩, by decide +kernel, by decide +kernel, by decide, by decide⟩, inG (mt3 (List.mem_of_getElem? (i := 150) rfl)) rfl, inG (mp_ (List.mem_of_getElem? (i := 4) rfl)) rfl⟩
abbrev mX12_step : Mt := ((some .int), RX12, false, [])
set_option maxRecDepth 20000 in
theorem mvX12_step : MV yX12_step cX12_step 5 mX12_step 2 := ⟨⟨inG (mt6 (List.mem_of_getElem? (i := 110) rfl)) rfl, gi_RX12, ⟨by decide +kernel, by decide +kernel⟩, by decide +kernel, by decide +kernel, by decide, by decide⟩, inG (mt6 (List.mem_of_getElem? (i := 108) rfl)) rfl, inG (mt6 (List.mem_of_getElem? (i := 109) rfl)) rfl⟩
abbrev mX12_isPath : Mt := ((some .boolean), RX12, false, [])
set_option maxRecDepth 20000 in
theorem mvX12_isPath : MV yX12_isPath cX12_isPath 2 mX12_isPath 1 := ⟨⟨inG (mt6 (List.mem_of_getElem? (i := 114) rfl)) rfl, gi_RX12, ⟨by decide +kernel, by decide +kernel⟩, by decide +kernel, by decide +kernel, by decide, by decide⟩, inG (mt6 (List.mem_of_getElem? (i := 113) rfl)) rfl, inG (mp_ (List.mem_of_getElem? (i := 22) rfl)) rfl⟩
abbrev mX12_headOf : Mt := ((some .int), RX12, false, [])
set_option maxRecDepth 20000 in
theorem mvX12_headOf : MV yX12_headOf cX12_headOf 2 mX12_headOf 1 := ⟨⟨inG (mt6 (List.mem_of_getElem? (i := 118) rfl)) rfl, gi_RX12, ⟨by decide +kernel, by decide +kernel⟩, by decide +kernel, by decide +kernel, by decide, by decide⟩, inG (mt6 (List.mem_of_getElem? (i := 117) rfl)) rfl, inG (mp_ (List.mem_of_getElem? (i := 23) rfl)) rfl⟩
abbrev mX12_next : Mt := ((some .int), RX12, false, [])
set_option maxRecDepth 20000 in
theorem msX12_next : MS yX12_next cX12_next 4 mX12_next 2 := ⟨⟨inG (mt6 (List.mem_of_getElem? (i := 121) rfl)) rfl, gi_RX12, ⟨by decide +kernel, by decide +kernel⟩, by decide +kernel, by decide +kernel, by decide, by decide⟩, inG (mt6 (List.mem_of_getElem? (i := 120) rfl)) rfl⟩
abbrev mX12_reason : Mt := ((some .int), RX12, false, [])
set_option maxRecDepth 20000 in
theorem mvX12_reason : MV yX12_reason cX12_reason 3 mX12_reason 2 := ⟨⟨inG (mt6 (List.mem_of_getElem? (i := 125) rfl)) rfl, gi_RX12, ⟨by decide +kernel, by decide +kernel⟩, by decide +kernel, by decide +kernel, by decide, by decide⟩, inG (mt6 (List.mem_of_getElem? (i := 124) rfl)) rfl, inG (mp_ (List.mem_of_getElem? (i := 24) rfl)) rfl⟩
abbrev mL_back : Mt := ((some .int), RL, false, [(0, 9, 12, 13), (0, 9, 15, 15)])
set_option maxRecDepth 20000 in
theorem msL_back : MS yL_back cL_back 4 mL_back 3 := ⟨⟨inG (mt3 (List.mem_of_getElem? (i := 154) rfl)) rfl, gi_RL, ⟨by decide +kernel, by decide +kernel⟩, by decide +kernel, by decide +kernel, by decide, by decide⟩, inG (mt3 (List.mem_of_getElem? (i := 153) rfl)) rfl⟩
abbrev mX11_back : Mt := ((some .int), RX11, false, [])
set_option maxRecDepth 20000 in
theorem mvX11_back : MV yX11_back cX11_back 2 mX11_back 1 := ⟨⟨inG (mt3 (List.mem_of_getElem? (i := 158) rfl)) rfl, gi_RX11, ⟨by decide +kernel, by decide +kernel⟩, by decide +kernel, by decide +kernel, by decide, by decide⟩, inG (mt3 (List.mem_of_getElem? (i := 156) rfl)) rfl, inG (mt3 (List.mem_of_getElem? (i := 157) rfl)) rfl⟩
abbrev mX0_trail : Mt := ((some (.object "LatticePaths$Trail")), RX0, false, [])
set_option maxRecDepth 20000 in
theorem mvX0_trail : MV yX0_trail cX0_trail 2 mX0_trail 1 := ⟨⟨inG (mt2 (List.mem_of_getElem? (i := 141) rfl)) rfl, gi_RX0, ⟨by decide +kernel, by decide +kernel⟩, by decide +kernel, by decide +kernel, by decide, by decide⟩, inG (mt2 (List.mem_of_getElem? (i := 139) rfl)) rfl, inG (mt2 (List.mem_of_getElem? (i := 140) rfl)) rfl⟩
abbrev mX0_shorten : Mt := ((some .int), RX0, false, [])
set_option maxRecDepth 20000 in
theorem mvX0_shorten : MV yX0_shorten cX0_shorten 3 mX0_shorten 1 := ⟨⟨inG (mt3 (List.mem_of_getElem? (i := 164) rfl)) rfl, gi_RX0, ⟨by decide +kernel, by decide +kernel⟩, by decide +kernel, by decide +kernel, by decide, by decide⟩, inG (mt3 (List.mem_of_getElem? (i := 162) rfl)) rfl, inG (mt3 (List.mem_of_getElem? (i := 163) rfl)) rfl⟩
abbrev mX9_endAt : Mt := (none, RX9, false, [])
set_option maxRecDepth 20000 in
theorem mvX9_endAt : MV yX9_endAt cX9_endAt 2 mX9_endAt 1 := ⟨⟨inG (mt3 (List.mem_of_getElem? (i := 168) rfl)) rfl, gi_RX9, ⟨by decide +kernel, by decide +kernel⟩, by decide +kernel, by decide +kernel, by decide, by decide⟩, inG (mt3 (List.mem_of_getElem? (i := 166) rfl)) rfl, inG (mt3 (List.mem_of_getElem? (i := 167) rfl)) rfl⟩
abbrev mX12_back : Mt := ((some .int), RX12, false, [])
set_option maxRecDepth 20000 in
theorem mvX12_back : MV yX12_back cX12_back 2 mX12_back 1 := ⟨⟨inG (mt6 (List.mem_of_getElem? (i := 129) rfl)) rfl, gi_RX12, ⟨by decide +kernel, by decide +kernel⟩, by decide +kernel, by decide +kernel, by decide, by decide⟩, inG (mt6 (List.mem_of_getElem? (i := 127) rfl)) rfl, inG (mt6 (List.mem_of_getElem? (i := 128) rfl)) rfl⟩
abbrev mL_slither : Mt := ((some .int), RL, false, [(0, 10, 13, 13), (0, 10, 17, 20)])
set_option maxRecDepth 20000 in
theorem msL_slither : MS yL_slither cL_slither 5 mL_slither 4 := ⟨⟨inG (mt3 (List.mem_of_getElem? (i := 171) rfl)) rfl, gi_RL, ⟨by decide +kernel, by decide +kernel⟩, by decide +kernel, by decide +kernel, by decide, by decide⟩, inG (mt3 (List.mem_of_getElem? (i := 170) rfl)) rfl⟩
abbrev mX11_slither : Mt := ((some .int), RX11, false, [])
set_option maxRecDepth 20000 in
theorem mvX11_slither : MV yX11_slither cX11_slither 3 mX11_slither 2 := ⟨⟨inG (mt3 (List.mem_of_getElem? (i := 175) rfl)) rfl, gi_RX11, ⟨by decide +kernel, by decide +kernel⟩, by decide +kernel, by decide +kernel, by decide, by decide⟩, inG (mt3 (List.mem_of_getElem? (i := 173) rfl)) rfl, inG (mt3 (List.mem_of_getElem? (i := 174) rfl)) rfl⟩
abbrev mX0_creep : Mt := ((some .int), RX0, false, [])
set_option maxRecDepth 20000 in
theorem mvX0_creep : MV yX0_creep cX0_creep 6 mX0_creep 2 := ⟨⟨inG (mt3 (List.mem_of_getElem? (i := 179) rfl)) rfl, gi_RX0, ⟨by decide +kernel, by decide +kernel⟩, by decide +kernel, by decide +kernel, by decide, by decide⟩, inG (mt3 (List.mem_of_getElem? (i := 177) rfl)) rfl, inG (mt3 (List.mem_of_getElem? (i := 178) rfl)) rfl⟩
abbrev mX9_tail : Mt := ((some .int), RX9, false, [])
set_option maxRecDepth 20000 in
theorem mvX9_tail : MV yX9_tail cX9_tail 1 mX9_tail 0 := ⟨⟨inG (mt3 (List.mem_of_getElem? (i := 183) rfl)) rfl, gi_RX9, ⟨by decide +kernel, by decide +kernel⟩, by decide +kernel, by decide +kernel, by decide, by decide⟩, inG (mt3 (List.mem_of_getElem? (i := 181) rfl)) rfl, inG (mt3 (List.mem_of_getElem? (i := 182) rfl)) rfl⟩
abbrev mX9_advanceTo : Mt := (none, RX9, false, [])
set_option maxRecDepth 20000 in
theorem mvX9_advanceTo : MV yX9_advanceTo cX9_advanceTo 3 mX9_advanceTo 1 := ⟨⟨inG (mt3 (List.mem_of_getElem? (i := 187) rfl)) rfl, gi_RX9, ⟨by decide +kernel, by decide +kernel⟩, by decide +kernel, by decide +kernel, by decide, by decide⟩, inG (mt3 (List.mem_of_getElem? (i := 185) rfl)) rfl, inG (mt3 (List.mem_of_getElem? (i := 186) rfl)) rfl⟩
abbrev mX9_put : Mt := (none, RX9, false, [])
set_option maxRecDepth 20000 in
theorem mvX9_put : MV yX9_put cX9_put 3 mX9_put 2 := ⟨⟨inG (mt3 (List.mem_of_getElem? (i := 191) rfl)) rfl, gi_RX9, ⟨by decide +kernel, by decide +kernel⟩, by decide +kernel, by decide +kernel, by decide, by decide⟩, inG (mt3 (List.mem_of_getElem? (i := 189) rfl)) rfl, inG (mt3 (List.mem_of_getElem? (i := 190) rfl)) rfl⟩
abbrev mX12_slither : Mt := ((some .int), RX12, false, [])
set_option maxRecDepth 20000 in
theorem mvX12_slither : MV yX12_slither cX12_slither 6 mX12_slither 2 := ⟨⟨inG (mt6 (List.mem_of_getElem? (i := 133) rfl)) rfl, gi_RX12, ⟨by decide +kernel, by decide +kernel⟩, by decide +kernel, by decide +kernel, by decide, by decide⟩, inG (mt6 (List.mem_of_getElem? (i := 131) rfl)) rfl, inG (mt6 (List.mem_of_getElem? (i := 132) rfl)) rfl⟩
abbrev mX12_takeRow : Mt := (none, RX12, false, [])
set_option maxRecDepth 20000 in
theorem mvX12_takeRow : MV yX12_takeRow cX12_takeRow 3 mX12_takeRow 1 := ⟨⟨inG (mt6 (List.mem_of_getElem? (i := 137) rfl)) rfl, gi_RX12, ⟨by decide +kernel, by decide +kernel⟩, by decide +kernel, by decide +kernel, by decide, by decide⟩, inG (mt6 (List.mem_of_getElem? (i := 136) rfl)) rfl, inG (mp_ (List.mem_of_getElem? (i := 25) rfl)) rfl⟩
abbrev mX12_giveRow : Mt := (none, RX12, false, [])
set_option maxRecDepth 20000 in
theorem mvX12_giveRow : MV yX12_giveRow cX12_giveRow 3 mX12_giveRow 1 := ⟨⟨inG (mt6 (List.mem_of_getElem? (i := 141) rfl)) rfl, gi_RX12, ⟨by decide +kernel, by decide +kernel⟩, by decide +kernel, by decide +kernel, by decide, by decide⟩, inG (mt6 (List.mem_of_getElem? (i := 140) rfl)) rfl, inG (mp_ (List.mem_of_getElem? (i := 26) rfl)) rfl⟩
abbrev mL_turn : Mt := ((some .int), RL, false, [(0, 12, 15, 13), (0, 12, 19, 20)])
set_option maxRecDepth 20000 in
theorem msL_turn : MS yL_turn cL_turn 6 mL_turn 5 := ⟨⟨inG (mt3 (List.mem_of_getElem? (i := 194) rfl)) rfl, gi_RL, ⟨by decide +kernel, by decide +kernel⟩, by decide +kernel, by decide +kernel, by decide, by decide⟩, inG (mt3 (List.mem_of_getElem? (i := 193) rfl)) rfl⟩
abbrev mX11_turn : Mt := ((some .int), RX11, false, [])
set_option maxRecDepth 20000 in
theorem mvX11_turn : MV yX11_turn cX11_turn 5 mX11_turn 3 := ⟨⟨inG (mt3 (List.mem_of_getElem? (i := 198) rfl)) rfl, gi_RX11, ⟨by decide +kernel, by decide +kernel⟩, by decide +kernel, by decide +kernel, by decide, by decide⟩, inG (mt3 (List.mem_of_getElem? (i := 196) rfl)) rfl, inG (mt3 (List.mem_of_getElem? (i := 197) rfl)) rfl⟩
abbrev mX11_checkPlace : Mt := (none, RX11, false, [])
set_option maxRecDepth 20000 in
theorem mvX11_checkPlace : MV yX11_checkPlace cX11_checkPlace 3 mX11_checkPlace 2 := ⟨⟨inG (mt3 (List.mem_of_getElem? (i := 202) rfl)) rfl, gi_RX11, ⟨by decide +kernel, by decide +kernel⟩, by decide +kernel, by decide +kernel, by decide, by decide⟩, inG (mt3 (List.mem_of_getElem? (i := 201) rfl)) rfl, inG (mp_ (List.mem_of_getElem? (i := 5) rfl)) rfl⟩
abbrev mX11_checkQuarters : Mt := (none, RX11, false, [])
set_option maxRecDepth 20000 in
theorem msX11_checkQuarters : MS yX11_checkQuarters cX11_checkQuarters 1 mX11_checkQuarters 1 := ⟨⟨inG (mt3 (List.mem_of_getElem? (i := 207) rfl)) rfl, gi_RX11, ⟨by decide +kernel, by decide +kernel⟩, by decide +kernel, by decide +kernel, by decide, by decide⟩, inG (mt3 (List.mem_of_getElem? (i := 206) rfl)) rfl⟩
abbrev mX10_refusal : Mt := ((some .int), RX10, false, [])
set_option maxRecDepth 20000 in
theorem mvX10_refusal : MV yX10_refusal cX10_refusal 9 mX10_refusal 4 := ⟨⟨inG (mt3 (List.mem_of_getElem? (i := 211) rfl)) rfl, gi_RX10, ⟨by decide +kernel, by decide +kernel⟩, by decide +kernel, by decide +kernel, by decide, by decide⟩, inG (mt3 (List.mem_of_getElem? (i := 209) rfl)) rfl, inG (mt3 (List.mem_of_getElem? (i := 210) rfl)) rfl⟩
abbrev mX10_land : Mt := ((some .boolean), RX10, false, [])
set_option maxRecDepth 20000 in
theorem mvX10_land : MV yX10_land cX10_land 6 mX10_land 3 := ⟨⟨inG (mt3 (List.mem_of_getElem? (i := 216) rfl)) rfl, gi_RX10, ⟨by decide +kernel, by decide +kernel⟩, by decide +kernel, by decide +kernel, by decide, by decide⟩, inG (mt3 (List.mem_of_getElem? (i := 215) rfl)) rfl, inG (mp_ (List.mem_of_getElem? (i := 6) rfl)) rfl⟩
abbrev mX10_swung : Mt := ((some .int), RX10, false, [])
set_option maxRecDepth 20000 in
theorem msX10_swung : MS yX10_swung cX10_swung 7 mX10_swung 3 := ⟨⟨inG (mt3 (List.mem_of_getElem? (i := 221) rfl)) rfl, gi_RX10, ⟨by decide +kernel, by decide +kernel⟩, by decide +kernel, by decide +kernel, by decide, by decide⟩, inG (mt3 (List.mem_of_getElem? (i := 220) rfl)) rfl⟩
abbrev mX0_placeAt : Mt := ((some .int), RX0, false, [])
set_option maxRecDepth 20000 in
theorem mvX0_placeAt : MV yX0_placeAt cX0_placeAt 2 mX0_placeAt 1 := ⟨⟨inG (mt3 (List.mem_of_getElem? (i := 229) rfl)) rfl, gi_RX0, ⟨by decide +kernel, by decide +kernel⟩, by decide +kernel, by decide +kernel, by decide, by decide⟩, inG (mt3 (List.mem_of_getElem? (i := 227) rfl)) rfl, inG (mt3 (List.mem_of_getElem? (i := 228) rfl)) rfl⟩
abbrev mX0_noteTurn : Mt := (none, RX0, false, [])
set_option maxRecDepth 20000 in
theorem mvX0_noteTurn : MV yX0_noteTurn cX0_noteTurn 2 mX0_noteTurn 1 := ⟨⟨inG (mt3 (List.mem_of_getElem? (i := 233) rfl)) rfl, gi_RX0, ⟨by decide +kernel, by decide +kernel⟩, by decide +kernel, by decide +kernel, by decide, by decide⟩, inG (mt3 (List.mem_of_getElem? (i := 231) rfl)) rfl, inG (mt3 (List.mem_of_getElem? (i := 232) rfl)) rfl⟩
abbrev mX10_moveSites : Mt := (none, RX10, false, [])
set_option maxRecDepth 20000 in
theorem mvX10_moveSites : MV yX10_moveSites cX10_moveSites 6 mX10_moveSites 3 := ⟨⟨inG (mt3 (List.mem_of_getElem? (i := 237) rfl)) rfl, gi_RX10, ⟨by decide +kernel, by decide +kernel⟩, by decide +kernel, by decide +kernel, by decide, by decide⟩, inG (mt3 (List.mem_of_getElem? (i := 235) rfl)) rfl, inG (mt3 (List.mem_of_getElem? (i := 236) rfl)) rfl⟩
abbrev mX12_turn : Mt := ((some .int), RX12, false, [])
set_option maxRecDepth 20000 in
theorem mvX12_turn : MV yX12_turn cX12_turn 6 mX12_turn 3 := ⟨⟨inG (mt6 (List.mem_of_getElem? (i := 145) rfl)) rfl, gi_RX12, ⟨by decide +kernel, by decide +kernel⟩, by decide +kernel, by decide +kernel, by decide, by decide⟩, inG (mt6 (List.mem_of_getElem? (i := 143) rfl)) rfl, inG (mt6 (List.mem_of_getElem? (i := 144) rfl)) rfl⟩
abbrev mX12_isSite : Mt := ((some .boolean), RX12, false, [])
set_option maxRecDepth 20000 in
theorem mvX12_isSite : MV yX12_isSite cX12_isSite 3 mX12_isSite 2 := ⟨⟨inG (mt6 (List.mem_of_getElem? (i := 149) rfl)) rfl, gi_RX12, ⟨by decide +kernel, by decide +kernel⟩, by decide +kernel, by decide +kernel, by decide, by decide⟩, inG (mt6 (List.mem_of_getElem? (i := 148) rfl)) rfl, inG (mp_ (List.mem_of_getElem? (i := 27) rfl)) rfl⟩
abbrev mX12_whyNotTurned : Mt := ((some .int), RX12, false, [])
set_option maxRecDepth 20000 in
theorem mvX12_whyNotTurned : MV yX12_whyNotTurned cX12_whyNotTurned 8 mX12_whyNotTurned 3 := ⟨⟨inG (mt6 (List.mem_of_getElem? (i := 153) rfl)) rfl, gi_RX12, ⟨by decide +kernel, by decide +kernel⟩, by decide +kernel, by decide +kernel, by decide, by decide⟩, inG (mt6 (List.mem_of_getElem? (i := 152) rfl)) rfl, inG (mp_ (List.mem_of_getElem? (i := 28) rfl)) rfl⟩
abbrev mX12_turned : Mt := ((some .int), RX12, false, [])
set_option maxRecDepth 20000 in
theorem msX12_turned : MS yX12_turned cX12_turned 7 mX12_turned 3 := ⟨⟨inG (mt6 (List.mem_of_getElem? (i := 156) rfl)) rfl, gi_RX12, ⟨by decide +kernel, by decide +kernel⟩, by decide +kernel, by decide +kernel, by decide, by decide⟩, inG (mt6 (List.mem_of_getElem? (i := 155) rfl)) rfl⟩
abbrev mL_reverse : Mt := ((some .int), RL, false, [(0, 9, 12, 13)])
set_option maxRecDepth 20000 in
theorem msL_reverse : MS yL_reverse cL_reverse 4 mL_reverse 3 := ⟨⟨inG (mt4 (List.mem_of_getElem? (i := 2) rfl)) rfl, gi_RL, ⟨by decide +kernel, by decide +kernel⟩, by decide +kernel, by decide +kernel, by decide, by decide⟩, inG (mt4 (List.mem_of_getElem? (i := 1) rfl)) rfl⟩
abbrev mX11_reverse : Mt := ((some .int), RX11, false, [])
set_option maxRecDepth 20000 in
theorem mvX11_reverse : MV yX11_reverse cX11_reverse 2 mX11_reverse 1 := ⟨⟨inG (mt4 (List.mem_of_getElem? (i := 6) rfl)) rfl, gi_RX11, ⟨by decide +kernel, by decide +kernel⟩, by decide +kernel, by decide +kernel, by decide, by decide⟩, inG (mt4 (List.mem_of_getElem? (i := 4) rfl)) rfl, inG (mt4 (List.mem_of_getElem? (i := 5) rfl)) rfl⟩
abbrev mX0_flip : Mt := ((some .int), RX0, false, [])
set_option maxRecDepth 20000 in
theorem mvX0_flip : MV yX0_flip cX0_flip 2 mX0_flip 1 := ⟨⟨inG (mt4 (List.mem_of_getElem? (i := 10) rfl)) rfl, gi_RX0, ⟨by decide +kernel, by decide +kernel⟩, by decide +kernel, by decide +kernel, by decide, by decide⟩, inG (mt4 (List.mem_of_getElem? (i := 8) rfl)) rfl, inG (mt4 (List.mem_of_getElem? (i := 9) rfl)) rfl⟩
abbrev mX9_flip : Mt := (none, RX9, false, [])
set_option maxRecDepth 20000 in
theorem mvX9_flip : MV yX9_flip cX9_flip 4 mX9_flip 0 := ⟨⟨inG (mt4 (List.mem_of_getElem? (i := 14) rfl)) rfl, gi_RX9, ⟨by decide +kernel, by decide +kernel⟩, by decide +kernel, by decide +kernel, by decide, by decide⟩, inG (mt4 (List.mem_of_getElem? (i := 12) rfl)) rfl, inG (mt4 (List.mem_of_getElem? (i := 13) rfl)) rfl⟩
abbrev mX12_reverse : Mt := ((some .int), RX12, false, [])
set_option maxRecDepth 20000 in
theorem mvX12_reverse : MV yX12_reverse cX12_reverse 2 mX12_reverse 1 := ⟨⟨inG (mt6 (List.mem_of_getElem? (i := 160) rfl)) rfl, gi_RX12, ⟨by decide +kernel, by decide +kernel⟩, by decide +kernel, by decide +kernel, by decide, by decide⟩, inG (mt6 (List.mem_of_getElem? (i := 158) rfl)) rfl, inG (mt6 (List.mem_of_getElem? (i := 159) rfl)) rfl⟩
abbrev mX12_reverseRow : Mt := (none, RX12, false, [])
set_option maxRecDepth 20000 in
theorem mvX12_reverseRow : MV yX12_reverseRow cX12_reverseRow 3 mX12_reverseRow 0 := ⟨⟨inG (mt6 (List.mem_of_getElem? (i := 164) rfl)) rfl, gi_RX12, ⟨by decide +kernel, by decide +kernel⟩, by decide +kernel, by decide +kernel, by decide, by decide⟩, inG (mt6 (List.mem_of_getElem? (i := 163) rfl)) rfl, inG (mp_ (List.mem_of_getElem? (i := 29) rfl)) rfl⟩
abbrev mL_join : Mt := ((some .int), RL, false, [(0, 10, 13, 13), (0, 10, 17, 20), (0, 10, 21, 15)])
set_option maxRecDepth 20000 in
theorem msL_join : MS yL_join cL_join 5 mL_join 4 := ⟨⟨inG (mt4 (List.mem_of_getElem? (i := 17) rfl)) rfl, gi_RL, ⟨by decide +kernel, by decide +kernel⟩, by decide +kernel, by decide +kernel, by decide, by decide⟩, inG (mt4 (List.mem_of_getElem? (i := 16) rfl)) rfl⟩
abbrev mX11_join : Mt := ((some .int), RX11, false, [])
set_option maxRecDepth 20000 in
theorem mvX11_join : MV yX11_join cX11_join 5 mX11_join 2 := ⟨⟨inG (mt4 (List.mem_of_getElem? (i := 21) rfl)) rfl, gi_RX11, ⟨by decide +kernel, by decide +kernel⟩, by decide +kernel, by decide +kernel, by decide, by decide⟩, inG (mt4 (List.mem_of_getElem? (i := 19) rfl)) rfl, inG (mt4 (List.mem_of_getElem? (i := 20) rfl)) rfl⟩
abbrev mX11_checkTwoPaths : Mt := (none, RX11, false, [])
set_option maxRecDepth 20000 in
theorem mvX11_checkTwoPaths : MV yX11_checkTwoPaths cX11_checkTwoPaths 3 mX11_checkTwoPaths 2 := ⟨⟨inG (mt4 (List.mem_of_getElem? (i := 25) rfl)) rfl, gi_RX11, ⟨by decide +kernel, by decide +kernel⟩, by decide +kernel, by decide +kernel, by decide, by decide⟩, inG (mt4 (List.mem_of_getElem? (i := 24) rfl)) rfl, inG (mp_ (List.mem_of_getElem? (i := 7) rfl)) rfl⟩
abbrev mX2_areNeighbours : Mt := ((some .boolean), RX2, false, [])
set_option maxRecDepth 20000 in
theorem msX2_areNeighbours : MS yX2_areNeighbours cX2_areNeighbours 2 mX2_areNeighbours 2 := ⟨⟨inG (mt4 (List.mem_of_getElem? (i := 29) rfl)) rfl, gi_RX2, ⟨by decide +kernel, by decide +kernel⟩, by decide +kernel, by decide +kernel, by decide, by decide⟩, inG (mt4 (List.mem_of_getElem? (i := 28) rfl)) rfl⟩
abbrev mX2_squaredDistance : Mt := ((some .int), RX2, false, [])
set_option maxRecDepth 20000 in
theorem msX2_squaredDistance : MS yX2_squaredDistance cX2_squaredDistance 4 mX2_squaredDistance 2 := ⟨⟨inG (mt4 (List.mem_of_getElem? (i := 32) rfl)) rfl, gi_RX2, ⟨by decide +kernel, by decide +kernel⟩, by decide +kernel, by decide +kernel, by decide, by decide⟩, inG (mt4 (List.mem_of_getElem? (i := 31) rfl)) rfl⟩
abbrev mX0_weld : Mt := ((some .int), RX0, false, [])
set_option maxRecDepth 20000 in
theorem mvX0_weld : MV yX0_weld cX0_weld 6 mX0_weld 2 := ⟨⟨inG (mt4 (List.mem_of_getElem? (i := 37) rfl)) rfl, gi_RX0, ⟨by decide +kernel, by decide +kernel⟩, by decide +kernel, by decide +kernel, by decide, by decide⟩, inG (mt4 (List.mem_of_getElem? (i := 35) rfl)) rfl, inG (mt4 (List.mem_of_getElem? (i := 36) rfl)) rfl⟩
abbrev mX0_drop : Mt := (none, RX0, false, [])
set_option maxRecDepth 20000 in
theorem mvX0_drop : MV yX0_drop cX0_drop 4 mX0_drop 1 := ⟨⟨inG (mt4 (List.mem_of_getElem? (i := 41) rfl)) rfl, gi_RX0, ⟨by decide +kernel, by decide +kernel⟩, by decide +kernel, by decide +kernel, by decide, by decide⟩, inG (mt4 (List.mem_of_getElem? (i := 39) rfl)) rfl, inG (mt4 (List.mem_of_getElem? (i := 40) rfl)) rfl⟩
abbrev mX12_join : Mt := ((some .int), RX12, false, [])
set_option maxRecDepth 20000 in
theorem mvX12_join : MV yX12_join cX12_join 6 mX12_join 2 := ⟨⟨inG (mt6 (List.mem_of_getElem? (i := 168) rfl)) rfl, gi_RX12, ⟨by decide +kernel, by decide +kernel⟩, by decide +kernel, by decide +kernel, by decide, by decide⟩, inG (mt6 (List.mem_of_getElem? (i := 166) rfl)) rfl, inG (mt6 (List.mem_of_getElem? (i := 167) rfl)) rfl⟩
abbrev mX12_direction : Mt := ((some .int), RX12, false, [])
set_option maxRecDepth 20000 in
theorem msX12_direction : MS yX12_direction cX12_direction 3 mX12_direction 2 := ⟨⟨inG (mt6 (List.mem_of_getElem? (i := 171) rfl)) rfl, gi_RX12, ⟨by decide +kernel, by decide +kernel⟩, by decide +kernel, by decide +kernel, by decide, by decide⟩, inG (mt6 (List.mem_of_getElem? (i := 170) rfl)) rfl⟩
abbrev mX12_dropPath : Mt := (none, RX12, false, [])
set_option maxRecDepth 20000 in
theorem mvX12_dropPath : MV yX12_dropPath cX12_dropPath 3 mX12_dropPath 1 := ⟨⟨inG (mt6 (List.mem_of_getElem? (i := 175) rfl)) rfl, gi_RX12, ⟨by decide +kernel, by decide +kernel⟩, by decide +kernel, by decide +kernel, by decide, by decide⟩, inG (mt6 (List.mem_of_getElem? (i := 174) rfl)) rfl, inG (mp_ (List.mem_of_getElem? (i := 30) rfl)) rfl⟩
abbrev mL_split : Mt := ((some .int), RL, false, [(0, 10, 13, 13), (0, 10, 17, 15)])
set_option maxRecDepth 20000 in
theorem msL_split : MS yL_split cL_split 5 mL_split 4 := ⟨⟨inG (mt4 (List.mem_of_getElem? (i := 44) rfl)) rfl, gi_RL, ⟨by decide +kernel, by decide +kernel⟩, by decide +kernel, by decide +kernel, by decide, by decide⟩, inG (mt4 (List.mem_of_getElem? (i := 43) rfl)) rfl⟩
abbrev mX11_split : Mt := ((some .int), RX11, false, [])
set_option maxRecDepth 20000 in
theorem mvX11_split : MV yX11_split cX11_split 3 mX11_split 2 := ⟨⟨inG (mt4 (List.mem_of_getElem? (i := 48) rfl)) rfl, gi_RX11, ⟨by decide +kernel, by decide +kernel⟩, by decide +kernel, by decide +kernel, by decide, by decide⟩, inG (mt4 (List.mem_of_getElem? (i := 46) rfl)) rfl, inG (mt4 (List.mem_of_getElem? (i := 47) rfl)) rfl⟩
abbrev mX0_cut : Mt := ((some .int), RX0, false, [])
set_option maxRecDepth 20000 in
theorem mvX0_cut : MV yX0_cut cX0_cut 4 mX0_cut 2 := ⟨⟨inG (mt4 (List.mem_of_getElem? (i := 54) rfl)) rfl, gi_RX0, ⟨by decide +kernel, by decide +kernel⟩, by decide +kernel, by decide +kernel, by decide, by decide⟩, inG (mt4 (List.mem_of_getElem? (i := 52) rfl)) rfl, inG (mt4 (List.mem_of_getElem? (i := 53) rfl)) rfl⟩
abbrev mX12_split : Mt := ((some .int), RX12, false, [])
set_option maxRecDepth 20000 in
theorem mvX12_split : MV yX12_split cX12_split 4 mX12_split 2 := ⟨⟨inG (mt6 (List.mem_of_getElem? (i := 179) rfl)) rfl, gi_RX12, ⟨by decide +kernel, by decide +kernel⟩, by decide +kernel, by decide +kernel, by decide, by decide⟩, inG (mt6 (List.mem_of_getElem? (i := 177) rfl)) rfl, inG (mt6 (List.mem_of_getElem? (i := 178) rfl)) rfl⟩
abbrev mL_remove : Mt := ((some .int), RL, false, [(0, 9, 12, 13)])
set_option maxRecDepth 20000 in
theorem msL_remove : MS yL_remove cL_remove 4 mL_remove 3 := ⟨⟨inG (mt4 (List.mem_of_getElem? (i := 57) rfl)) rfl, gi_RL, ⟨by decide +kernel, by decide +kernel⟩, by decide +kernel, by decide +kernel, by decide, by decide⟩, inG (mt4 (List.mem_of_getElem? (i := 56) rfl)) rfl⟩
abbrev mX11_remove : Mt := ((some .int), RX11, false, [])
set_option maxRecDepth 20000 in
theorem mvX11_remove : MV yX11_remove cX11_remove 2 mX11_remove 1 := ⟨⟨inG (mt4 (List.mem_of_getElem? (i := 61) rfl)) rfl, gi_RX11, ⟨by decide +kernel, by decide +kernel⟩, by decide +kernel, by decide +kernel, by decide, by decide⟩, inG (mt4 (List.mem_of_getElem? (i := 59) rfl)) rfl, inG (mt4 (List.mem_of_getElem? (i := 60) rfl)) rfl⟩
abbrev mX12_remove : Mt := ((some .int), RX12, false, [])
set_option maxRecDepth 20000 in
theorem mvX12_remove : MV yX12_remove cX12_remove 2 mX12_remove 1 := ⟨⟨inG (mt6 (List.mem_of_getElem? (i := 183) rfl)) rfl, gi_RX12, ⟨by decide +kernel, by decide +kernel⟩, by decide +kernel, by decide +kernel, by decide, by decide⟩, inG (mt6 (List.mem_of_getElem? (i := 181) rfl)) rfl, inG (mt6 (List.mem_of_getElem? (i := 182) rfl)) rfl⟩
abbrev mL_append : Mt := ((some .int), RL, false, [(0, 9, 12, 20), (0, 9, 15, 15)])
set_option maxRecDepth 20000 in
theorem msL_append : MS yL_append cL_append 4 mL_append 3 := ⟨⟨inG (mt4 (List.mem_of_getElem? (i := 65) rfl)) rfl, gi_RL, ⟨by decide +kernel, by decide +kernel⟩, by decide +kernel, by decide +kernel, by decide, by decide⟩, inG (mt4 (List.mem_of_getElem? (i := 64) rfl)) rfl⟩
abbrev mX11_append : Mt := ((some .int), RX11, false, [])
set_option maxRecDepth 20000 in
theorem mvX11_append : MV yX11_append cX11_append 2 mX11_append 1 := ⟨⟨inG (mt4 (List.mem_of_getElem? (i := 69) rfl)) rfl, gi_RX11, ⟨by decide +kernel, by decide +kernel⟩, by decide +kernel, by decide +kernel, by decide, by decide⟩, inG (mt4 (List.mem_of_getElem? (i := 67) rfl)) rfl, inG (mt4 (List.mem_of_getElem? (i := 68) rfl)) rfl⟩
abbrev mX3_isFull : Mt := ((some .boolean), RX3, false, [])
set_option maxRecDepth 20000 in
theorem mvX3_isFull : MV yX3_isFull cX3_isFull 1 mX3_isFull 0 := ⟨⟨inG (mt4 (List.mem_of_getElem? (i := 73) rfl)) rfl, gi_RX3, ⟨by decide +kernel, by decide +kernel⟩, by decide +kernel, by decide +kernel, by decide, by decide⟩, inG (mt4 (List.mem_of_getElem? (i := 71) rfl)) rfl, inG (mt4 (List.mem_of_getElem? (i := 72) rfl)) rfl⟩
abbrev mX3_add : Mt := (none, RX3, false, [])
set_option maxRecDepth 20000 in
theorem mvX3_add : MV yX3_add cX3_add 2 mX3_add 1 := ⟨⟨inG (mt4 (List.mem_of_getElem? (i := 78) rfl)) rfl, gi_RX3, ⟨by decide +kernel, by decide +kernel⟩, by decide +kernel, by decide +kernel, by decide, by decide⟩, inG (mt4 (List.mem_of_getElem? (i := 76) rfl)) rfl, inG (mt4 (List.mem_of_getElem? (i := 77) rfl)) rfl⟩
abbrev mX3_length : Mt := ((some .int), RX3, false, [])
set_option maxRecDepth 20000 in
theorem mvX3_length : MV yX3_length cX3_length 1 mX3_length 0 := ⟨⟨inG (mt2 (List.mem_of_getElem? (i := 26) rfl)) rfl, gi_RX3, ⟨by decide +kernel, by decide +kernel⟩, by decide +kernel, by decide +kernel, by decide, by decide⟩, inG (mt2 (List.mem_of_getElem? (i := 24) rfl)) rfl, inG (mt2 (List.mem_of_getElem? (i := 25) rfl)) rfl⟩
abbrev mX12_append : Mt := ((some .int), RX12, false, [])
set_option maxRecDepth 20000 in
theorem mvX12_append : MV yX12_append cX12_append 2 mX12_append 1 := ⟨⟨inG (mt6 (List.mem_of_getElem? (i := 187) rfl)) rfl, gi_RX12, ⟨by decide +kernel, by decide +kernel⟩, by decide +kernel, by decide +kernel, by decide, by decide⟩, inG (mt6 (List.mem_of_getElem? (i := 185) rfl)) rfl, inG (mt6 (List.mem_of_getElem? (i := 186) rfl)) rfl⟩
abbrev mX11_clearBuffer : Mt := ((some .int), RX11, false, [])
set_option maxRecDepth 20000 in
theorem mvX11_clearBuffer : MV yX11_clearBuffer cX11_clearBuffer 2 mX11_clearBuffer 0 := ⟨⟨inG (mt2 (List.mem_of_getElem? (i := 22) rfl)) rfl, gi_RX11, ⟨by decide +kernel, by decide +kernel⟩, by decide +kernel, by decide +kernel, by decide, by decide⟩, inG (mt2 (List.mem_of_getElem? (i := 20) rfl)) rfl, inG (mt2 (List.mem_of_getElem? (i := 21) rfl)) rfl⟩
abbrev mX3_clear : Mt := (none, RX3, false, [])
set_option maxRecDepth 20000 in
theorem mvX3_clear : MV yX3_clear cX3_clear 1 mX3_clear 0 := ⟨⟨inG (mt2 (List.mem_of_getElem? (i := 30) rfl)) rfl, gi_RX3, ⟨by decide +kernel, by decide +kernel⟩, by decide +kernel, by decide +kernel, by decide, by decide⟩, inG (mt2 (List.mem_of_getElem? (i := 28) rfl)) rfl, inG (mt2 (List.mem_of_getElem? (i := 29) rfl)) rfl⟩
abbrev mX12_clearBuffer : Mt := ((some .int), RX12, false, [])
set_option maxRecDepth 20000 in
theorem mvX12_clearBuffer : MV yX12_clearBuffer cX12_clearBuffer 2 mX12_clearBuffer 0 := ⟨⟨inG (mt6 (List.mem_of_getElem? (i := 191) rfl)) rfl, gi_RX12, ⟨by decide +kernel, by decide +kernel⟩, by decide +kernel, by decide +kernel, by decide, by decide⟩, inG (mt6 (List.mem_of_getElem? (i := 189) rfl)) rfl, inG (mt6 (List.mem_of_getElem? (i := 190) rfl)) rfl⟩
abbrev mX11_firstError : Mt := ((some .int), RX11, false, [])
set_option maxRecDepth 20000 in
theorem mvX11_firstError : MV yX11_firstError cX11_firstError 1 mX11_firstError 0 := ⟨⟨inG (mt2 (List.mem_of_getElem? (i := 34) rfl)) rfl, gi_RX11, ⟨by decide +kernel, by decide +kernel⟩, by decide +kernel, by decide +kernel, by decide, by decide⟩, inG (mt2 (List.mem_of_getElem? (i := 32) rfl)) rfl, inG (mt2 (List.mem_of_getElem? (i := 33) rfl)) rfl⟩
abbrev mX3_errorIndex : Mt := ((some .int), RX3, false, [])
set_option maxRecDepth 20000 in
theorem mvX3_errorIndex : MV yX3_errorIndex cX3_errorIndex 2 mX3_errorIndex 0 := ⟨⟨inG (mt2 (List.mem_of_getElem? (i := 38) rfl)) rfl, gi_RX3, ⟨by decide +kernel, by decide +kernel⟩, by decide +kernel, by decide +kernel, by decide, by decide⟩, inG (mt2 (List.mem_of_getElem? (i := 36) rfl)) rfl, inG (mt2 (List.mem_of_getElem? (i := 37) rfl)) rfl⟩
abbrev mX3_fits : Mt := ((some .boolean), RX3, false, [])
set_option maxRecDepth 20000 in
theorem msX3_fits : MS yX3_fits cX3_fits 2 mX3_fits 2 := ⟨⟨inG (mt2 (List.mem_of_getElem? (i := 41) rfl)) rfl, gi_RX3, ⟨by decide +kernel, by decide +kernel⟩, by decide +kernel, by decide +kernel, by decide, by decide⟩, inG (mt2 (List.mem_of_getElem? (i := 40) rfl)) rfl⟩
abbrev mJ0_indexOf_0f7a4 : Mt := ((some .int), RJ0, false, [])
set_option maxRecDepth 20000 in
theorem mvJ0_indexOf_0f7a4 : MV yJ0_indexOf_0f7a4 cJ0_indexOf_0f7a4 2 mJ0_indexOf_0f7a4 1 := ⟨⟨inG (mt2 (List.mem_of_getElem? (i := 46) rfl)) rfl, gi_RJ0, ⟨by decide +kernel, by decide +kernel⟩, by decide +kernel, by decide +kernel, by decide, by decide⟩, inG (mt2 (List.mem_of_getElem? (i := 44) rfl)) rfl, inG (mt2 (List.mem_of_getElem? (i := 45) rfl)) rfl⟩
abbrev mJ0_indexOf_7cf53 : Mt := ((some .int), RJ0, false, [])
set_option maxRecDepth 20000 in
theorem mvJ0_indexOf_7cf53 : MV yJ0_indexOf_7cf53 cJ0_indexOf_7cf53 3 mJ0_indexOf_7cf53 2 := ⟨⟨inG (mt2 (List.mem_of_getElem? (i := 50) rfl)) rfl, gi_RJ0, ⟨by decide +kernel, by decide +kernel⟩, by decide +kernel, by decide +kernel, by decide, by decide⟩, inG (mt2 (List.mem_of_getElem? (i := 48) rfl)) rfl, inG (mt2 (List.mem_of_getElem? (i := 49) rfl)) rfl⟩
abbrev mJ0_isLatin1_aae02 : Mt := ((some .boolean), RJ0, false, [])
set_option maxRecDepth 20000 in
theorem mvJ0_isLatin1_aae02 : MV yJ0_isLatin1_aae02 cJ0_isLatin1_aae02 1 mJ0_isLatin1_aae02 0 := ⟨⟨inG (mt2 (List.mem_of_getElem? (i := 54) rfl)) rfl, gi_RJ0, ⟨by decide +kernel, by decide +kernel⟩, by decide +kernel, by decide +kernel, by decide, by decide⟩, inG (mt2 (List.mem_of_getElem? (i := 52) rfl)) rfl, inG (mt2 (List.mem_of_getElem? (i := 53) rfl)) rfl⟩
abbrev mJ0_length_8abf5 : Mt := ((some .int), RJ0, false, [])
set_option maxRecDepth 20000 in
theorem mvJ0_length_8abf5 : MV yJ0_length_8abf5 cJ0_length_8abf5 1 mJ0_length_8abf5 0 := ⟨⟨inG (mt2 (List.mem_of_getElem? (i := 60) rfl)) rfl, gi_RJ0, ⟨by decide +kernel, by decide +kernel⟩, by decide +kernel, by decide +kernel, by decide, by decide⟩, inG (mt2 (List.mem_of_getElem? (i := 58) rfl)) rfl, inG (mt2 (List.mem_of_getElem? (i := 59) rfl)) rfl⟩
abbrev mJ0_coder_7d493 : Mt := ((some .byte), RJ0, false, [])
set_option maxRecDepth 20000 in
theorem mvJ0_coder_7d493 : MV yJ0_coder_7d493 cJ0_coder_7d493 1 mJ0_coder_7d493 0 := ⟨⟨inG (mt2 (List.mem_of_getElem? (i := 64) rfl)) rfl, gi_RJ0, ⟨by decide +kernel, by decide +kernel⟩, by decide +kernel, by decide +kernel, by decide, by decide⟩, inG (mt2 (List.mem_of_getElem? (i := 62) rfl)) rfl, inG (mt2 (List.mem_of_getElem? (i := 63) rfl)) rfl⟩
abbrev mJ1_indexOf_4cfef : Mt := ((some .int), RJ1, false, [])
set_option maxRecDepth 20000 in
theorem msJ1_indexOf_4cfef : MS yJ1_indexOf_4cfef cJ1_indexOf_4cfef 4 mJ1_indexOf_4cfef 4 := ⟨⟨inG (mt2 (List.mem_of_getElem? (i := 67) rfl)) rfl, gi_RJ1, ⟨by decide +kernel, by decide +kernel⟩, by decide +kernel, by decide +kernel, by decide, by decide⟩, inG (mt2 (List.mem_of_getElem? (i := 66) rfl)) rfl⟩
abbrev mJ1_canEncode_9a6ad : Mt := ((some .boolean), RJ1, false, [])
set_option maxRecDepth 20000 in
theorem msJ1_canEncode_9a6ad : MS yJ1_canEncode_9a6ad cJ1_canEncode_9a6ad 1 mJ1_canEncode_9a6ad 1 := ⟨⟨inG (mt2 (List.mem_of_getElem? (i := 70) rfl)) rfl, gi_RJ1, ⟨by decide +kernel, by decide +kernel⟩, by decide +kernel, by decide +kernel, by decide, by decide⟩, inG (mt2 (List.mem_of_getElem? (i := 69) rfl)) rfl⟩
abbrev mJ1_indexOfChar_4cfef : Mt := ((some .int), RJ1, false, [])
set_option maxRecDepth 20000 in
theorem msJ1_indexOfChar_4cfef : MS yJ1_indexOfChar_4cfef cJ1_indexOfChar_4cfef 6 mJ1_indexOfChar_4cfef 4 := ⟨⟨inG (mt2 (List.mem_of_getElem? (i := 79) rfl)) rfl, gi_RJ1, ⟨by decide +kernel, by decide +kernel⟩, by decide +kernel, by decide +kernel, by decide, by decide⟩, inG (mt2 (List.mem_of_getElem? (i := 78) rfl)) rfl⟩
abbrev mJ2_indexOf_4cfef : Mt := ((some .int), RJ2, false, [])
set_option maxRecDepth 20000 in
theorem msJ2_indexOf_4cfef : MS yJ2_indexOf_4cfef cJ2_indexOf_4cfef 4 mJ2_indexOf_4cfef 4 := ⟨⟨inG (mt2 (List.mem_of_getElem? (i := 82) rfl)) rfl, gi_RJ2, ⟨by decide +kernel, by decide +kernel⟩, by decide +kernel, by decide +kernel, by decide, by decide⟩, inG (mt2 (List.mem_of_getElem? (i := 81) rfl)) rfl⟩
abbrev mJ2_indexOfChar_4cfef : Mt := ((some .int), RJ2, false, [])
set_option maxRecDepth 20000 in
theorem msJ2_indexOfChar_4cfef : MS yJ2_indexOfChar_4cfef cJ2_indexOfChar_4cfef 4 mJ2_indexOfChar_4cfef 4 := ⟨⟨inG (mt2 (List.mem_of_getElem? (i := 88) rfl)) rfl, gi_RJ2, ⟨by decide +kernel, by decide +kernel⟩, by decide +kernel, by decide +kernel, by decide, by decide⟩, inG (mt2 (List.mem_of_getElem? (i := 87) rfl)) rfl⟩
abbrev mJ2_checkBoundsBeginEnd_d044e : Mt := (none, RJ2, false, [])
set_option maxRecDepth 20000 in
theorem msJ2_checkBoundsBeginEnd_d044e : MS yJ2_checkBoundsBeginEnd_d044e cJ2_checkBoundsBeginEnd_d044e 3 mJ2_checkBoundsBeginEnd_d044e 3 := ⟨⟨inG (mt2 (List.mem_of_getElem? (i := 91) rfl)) rfl, gi_RJ2, ⟨by decide +kernel, by decide +kernel⟩, by decide +kernel, by decide +kernel, by decide, by decide⟩, inG (mt2 (List.mem_of_getElem? (i := 90) rfl)) rfl⟩
abbrev mJ2_length_9d52b : Mt := ((some .int), RJ2, false, [])
set_option maxRecDepth 20000 in
theorem msJ2_length_9d52b : MS yJ2_length_9d52b cJ2_length_9d52b 1 mJ2_length_9d52b 1 := ⟨⟨inG (mt2 (List.mem_of_getElem? (i := 94) rfl)) rfl, gi_RJ2, ⟨by decide +kernel, by decide +kernel⟩, by decide +kernel, by decide +kernel, by decide, by decide⟩, inG (mt2 (List.mem_of_getElem? (i := 93) rfl)) rfl⟩
abbrev mJ0_checkBoundsBeginEnd_23922 : Mt := (none, RJ0, false, [])
set_option maxRecDepth 20000 in
theorem msJ0_checkBoundsBeginEnd_23922 : MS yJ0_checkBoundsBeginEnd_23922 cJ0_checkBoundsBeginEnd_23922 3 mJ0_checkBoundsBeginEnd_23922 3 := ⟨⟨inG (mt2 (List.mem_of_getElem? (i := 97) rfl)) rfl, gi_RJ0, ⟨by decide +kernel, by decide +kernel⟩, by decide +kernel, by decide +kernel, by decide, by decide⟩, inG (mt2 (List.mem_of_getElem? (i := 96) rfl)) rfl⟩
abbrev mJ3_checkFromToIndex_8c36e : Mt := ((some .int), RJ3, false, [])
set_option maxRecDepth 20000 in
theorem msJ3_checkFromToIndex_8c36e : MS yJ3_checkFromToIndex_8c36e cJ3_checkFromToIndex_8c36e 4 mJ3_checkFromToIndex_8c36e 4 := ⟨⟨inG (mt2 (List.mem_of_getElem? (i := 102) rfl)) rfl, gi_RJ3, ⟨by decide +kernel, by decide +kernel⟩, by decide +kernel, by decide +kernel, by decide, by decide⟩, inG (mt2 (List.mem_of_getElem? (i := 101) rfl)) rfl⟩
abbrev mJ2_indexOfCharUnsafe_4cfef : Mt := ((some .int), RJ2, false, [])
set_option maxRecDepth 20000 in
theorem msJ2_indexOfCharUnsafe_4cfef : MS yJ2_indexOfCharUnsafe_4cfef cJ2_indexOfCharUnsafe_4cfef 5 mJ2_indexOfCharUnsafe_4cfef 4 := ⟨⟨inG (mt2 (List.mem_of_getElem? (i := 105) rfl)) rfl, gi_RJ2, ⟨by decide +kernel, by decide +kernel⟩, by decide +kernel, by decide +kernel, by decide, by decide⟩, inG (mt2 (List.mem_of_getElem? (i := 104) rfl)) rfl⟩
abbrev mJ2_getChar_3b067 : Mt := ((some .char), RJ2, false, [])
set_option maxRecDepth 20000 in
theorem msJ2_getChar_3b067 : MS yJ2_getChar_3b067 cJ2_getChar_3b067 2 mJ2_getChar_3b067 2 := ⟨⟨inG (mt2 (List.mem_of_getElem? (i := 108) rfl)) rfl, gi_RJ2, ⟨by decide +kernel, by decide +kernel⟩, by decide +kernel, by decide +kernel, by decide, by decide⟩, inG (mt2 (List.mem_of_getElem? (i := 107) rfl)) rfl⟩
abbrev mJ2_indexOfSupplementary_4cfef : Mt := ((some .int), RJ2, false, [])
set_option maxRecDepth 20000 in
theorem msJ2_indexOfSupplementary_4cfef : MS yJ2_indexOfSupplementary_4cfef cJ2_indexOfSupplementary_4cfef 7 mJ2_indexOfSupplementary_4cfef 4 := ⟨⟨inG (mt2 (List.mem_of_getElem? (i := 117) rfl)) rfl, gi_RJ2, ⟨by decide +kernel, by decide +kernel⟩, by decide +kernel, by decide +kernel, by decide, by decide⟩, inG (mt2 (List.mem_of_getElem? (i := 116) rfl)) rfl⟩
abbrev mJ11_isValidCodePoint_9a6ad : Mt := ((some .boolean), RJ11, false, [])
set_option maxRecDepth 20000 in
theorem msJ11_isValidCodePoint_9a6ad : MS yJ11_isValidCodePoint_9a6ad cJ11_isValidCodePoint_9a6ad 2 mJ11_isValidCodePoint_9a6ad 1 := ⟨⟨inG (mt2 (List.mem_of_getElem? (i := 120) rfl)) rfl, gi_RJ11, ⟨by decide +kernel, by decide +kernel⟩, by decide +kernel, by decide +kernel, by decide, by decide⟩, inG (mt2 (List.mem_of_getElem? (i := 119) rfl)) rfl⟩
abbrev mJ11_highSurrogate_5068e : Mt := ((some .char), RJ11, false, [])
set_option maxRecDepth 20000 in
theorem msJ11_highSurrogate_5068e : MS yJ11_highSurrogate_5068e cJ11_highSurrogate_5068e 1 mJ11_highSurrogate_5068e 1 := ⟨⟨inG (mt2 (List.mem_of_getElem? (i := 123) rfl)) rfl, gi_RJ11, ⟨by decide +kernel, by decide +kernel⟩, by decide +kernel, by decide +kernel, by decide, by decide⟩, inG (mt2 (List.mem_of_getElem? (i := 122) rfl)) rfl⟩
abbrev mJ11_lowSurrogate_5068e : Mt := ((some .char), RJ11, false, [])
set_option maxRecDepth 20000 in
theorem msJ11_lowSurrogate_5068e : MS yJ11_lowSurrogate_5068e cJ11_lowSurrogate_5068e 1 mJ11_lowSurrogate_5068e 1 := ⟨⟨inG (mt2 (List.mem_of_getElem? (i := 127) rfl)) rfl, gi_RJ11, ⟨by decide +kernel, by decide +kernel⟩, by decide +kernel, by decide +kernel, by decide, by decide⟩, inG (mt2 (List.mem_of_getElem? (i := 126) rfl)) rfl⟩
abbrev mX12_firstError : Mt := ((some .int), RX12, false, [])
set_option maxRecDepth 20000 in
theorem mvX12_firstError : MV yX12_firstError cX12_firstError 1 mX12_firstError 0 := ⟨⟨inG (mt6 (List.mem_of_getElem? (i := 195) rfl)) rfl, gi_RX12, ⟨by decide +kernel, by decide +kernel⟩, by decide +kernel, by decide +kernel, by decide, by decide⟩, inG (mt6 (List.mem_of_getElem? (i := 193) rfl)) rfl, inG (mt6 (List.mem_of_getElem? (i := 194) rfl)) rfl⟩
abbrev mX12_findError : Mt := ((some .int), RX12, false, [])
set_option maxRecDepth 20000 in
theorem mvX12_findError : MV yX12_findError cX12_findError 2 mX12_findError 0 := ⟨⟨inG (mt6 (List.mem_of_getElem? (i := 199) rfl)) rfl, gi_RX12, ⟨by decide +kernel, by decide +kernel⟩, by decide +kernel, by decide +kernel, by decide, by decide⟩, inG (mt6 (List.mem_of_getElem? (i := 198) rfl)) rfl, inG (mp_ (List.mem_of_getElem? (i := 31) rfl)) rfl⟩
abbrev mX12_isGood : Mt := ((some .boolean), RX12, false, [])
set_option maxRecDepth 20000 in
theorem mvX12_isGood : MV yX12_isGood cX12_isGood 3 mX12_isGood 1 := ⟨⟨inG (mt6 (List.mem_of_getElem? (i := 203) rfl)) rfl, gi_RX12, ⟨by decide +kernel, by decide +kernel⟩, by decide +kernel, by decide +kernel, by decide, by decide⟩, inG (mt6 (List.mem_of_getElem? (i := 202) rfl)) rfl, inG (mp_ (List.mem_of_getElem? (i := 32) rfl)) rfl⟩
abbrev mX12_directionOf : Mt := ((some .int), RX12, false, [])
set_option maxRecDepth 20000 in
theorem msX12_directionOf : MS yX12_directionOf cX12_directionOf 2 mX12_directionOf 1 := ⟨⟨inG (mt6 (List.mem_of_getElem? (i := 206) rfl)) rfl, gi_RX12, ⟨by decide +kernel, by decide +kernel⟩, by decide +kernel, by decide +kernel, by decide, by decide⟩, inG (mt6 (List.mem_of_getElem? (i := 205) rfl)) rfl⟩
abbrev mX12_letterOf : Mt := ((some .int), RX12, false, [])
set_option maxRecDepth 20000 in
theorem msX12_letterOf : MS yX12_letterOf cX12_letterOf 1 mX12_letterOf 1 := ⟨⟨inG (mt6 (List.mem_of_getElem? (i := 209) rfl)) rfl, gi_RX12, ⟨by decide +kernel, by decide +kernel⟩, by decide +kernel, by decide +kernel, by decide, by decide⟩, inG (mt6 (List.mem_of_getElem? (i := 208) rfl)) rfl⟩
abbrev mL_draw : Mt := ((some .int), RL, false, [(0, 8, 11, 20), (0, 8, 14, 15)])
set_option maxRecDepth 20000 in
theorem msL_draw : MS yL_draw cL_draw 3 mL_draw 2 := ⟨⟨inG (mt4 (List.mem_of_getElem? (i := 82) rfl)) rfl, gi_RL, ⟨by decide +kernel, by decide +kernel⟩, by decide +kernel, by decide +kernel, by decide, by decide⟩, inG (mt4 (List.mem_of_getElem? (i := 81) rfl)) rfl⟩
abbrev mX11_draw : Mt := ((some .int), RX11, false, [])
set_option maxRecDepth 20000 in
theorem mvX11_draw : MV yX11_draw cX11_draw 1 mX11_draw 0 := ⟨⟨inG (mt4 (List.mem_of_getElem? (i := 86) rfl)) rfl, gi_RX11, ⟨by decide +kernel, by decide +kernel⟩, by decide +kernel, by decide +kernel, by decide, by decide⟩, inG (mt4 (List.mem_of_getElem? (i := 84) rfl)) rfl, inG (mt4 (List.mem_of_getElem? (i := 85) rfl)) rfl⟩
abbrev mX3_isComplete : Mt := ((some .boolean), RX3, false, [])
set_option maxRecDepth 20000 in
theorem mvX3_isComplete : MV yX3_isComplete cX3_isComplete 1 mX3_isComplete 0 := ⟨⟨inG (mt4 (List.mem_of_getElem? (i := 90) rfl)) rfl, gi_RX3, ⟨by decide +kernel, by decide +kernel⟩, by decide +kernel, by decide +kernel, by decide, by decide⟩, inG (mt4 (List.mem_of_getElem? (i := 88) rfl)) rfl, inG (mt4 (List.mem_of_getElem? (i := 89) rfl)) rfl⟩
abbrev mX3_layOut : Mt := ((some .boolean), RX3, false, [])
set_option maxRecDepth 20000 in
theorem mvX3_layOut : MV yX3_layOut cX3_layOut 5 mX3_layOut 2 := ⟨⟨inG (mt4 (List.mem_of_getElem? (i := 96) rfl)) rfl, gi_RX3, ⟨by decide +kernel, by decide +kernel⟩, by decide +kernel, by decide +kernel, by decide, by decide⟩, inG (mt4 (List.mem_of_getElem? (i := 94) rfl)) rfl, inG (mt4 (List.mem_of_getElem? (i := 95) rfl)) rfl⟩
abbrev mX9_covers : Mt := ((some .boolean), RX9, false, [])
set_option maxRecDepth 20000 in
theorem mvX9_covers : MV yX9_covers cX9_covers 3 mX9_covers 1 := ⟨⟨inG (mt4 (List.mem_of_getElem? (i := 104) rfl)) rfl, gi_RX9, ⟨by decide +kernel, by decide +kernel⟩, by decide +kernel, by decide +kernel, by decide, by decide⟩, inG (mt4 (List.mem_of_getElem? (i := 102) rfl)) rfl, inG (mt4 (List.mem_of_getElem? (i := 103) rfl)) rfl⟩
abbrev mX12_draw : Mt := ((some .int), RX12, false, [])
set_option maxRecDepth 20000 in
theorem mvX12_draw : MV yX12_draw cX12_draw 1 mX12_draw 0 := ⟨⟨inG (mt6 (List.mem_of_getElem? (i := 213) rfl)) rfl, gi_RX12, ⟨by decide +kernel, by decide +kernel⟩, by decide +kernel, by decide +kernel, by decide, by decide⟩, inG (mt6 (List.mem_of_getElem? (i := 211) rfl)) rfl, inG (mt6 (List.mem_of_getElem? (i := 212) rfl)) rfl⟩
abbrev mX12_readsRow : Mt := ((some .boolean), RX12, false, [])
set_option maxRecDepth 20000 in
theorem mvX12_readsRow : MV yX12_readsRow cX12_readsRow 4 mX12_readsRow 0 := ⟨⟨inG (mt6 (List.mem_of_getElem? (i := 217) rfl)) rfl, gi_RX12, ⟨by decide +kernel, by decide +kernel⟩, by decide +kernel, by decide +kernel, by decide, by decide⟩, inG (mt6 (List.mem_of_getElem? (i := 216) rfl)) rfl, inG (mp_ (List.mem_of_getElem? (i := 33) rfl)) rfl⟩
abbrev mX12_isFree : Mt := ((some .boolean), RX12, false, [])
set_option maxRecDepth 20000 in
theorem mvX12_isFree : MV yX12_isFree cX12_isFree 2 mX12_isFree 1 := ⟨⟨inG (mt6 (List.mem_of_getElem? (i := 221) rfl)) rfl, gi_RX12, ⟨by decide +kernel, by decide +kernel⟩, by decide +kernel, by decide +kernel, by decide, by decide⟩, inG (mt6 (List.mem_of_getElem? (i := 220) rfl)) rfl, inG (mp_ (List.mem_of_getElem? (i := 34) rfl)) rfl⟩
abbrev mL_write : Mt := ((some .int), RL, false, [(0, 9, 12, 13)])
set_option maxRecDepth 20000 in
theorem msL_write : MS yL_write cL_write 4 mL_write 3 := ⟨⟨inG (mt4 (List.mem_of_getElem? (i := 110) rfl)) rfl, gi_RL, ⟨by decide +kernel, by decide +kernel⟩, by decide +kernel, by decide +kernel, by decide, by decide⟩, inG (mt4 (List.mem_of_getElem? (i := 109) rfl)) rfl⟩
abbrev mX11_write : Mt := ((some .int), RX11, false, [])
set_option maxRecDepth 20000 in
theorem mvX11_write : MV yX11_write cX11_write 2 mX11_write 1 := ⟨⟨inG (mt4 (List.mem_of_getElem? (i := 114) rfl)) rfl, gi_RX11, ⟨by decide +kernel, by decide +kernel⟩, by decide +kernel, by decide +kernel, by decide, by decide⟩, inG (mt4 (List.mem_of_getElem? (i := 112) rfl)) rfl, inG (mt4 (List.mem_of_getElem? (i := 113) rfl)) rfl⟩
abbrev mX3_tell : Mt := (none, RX3, false, [])
set_option maxRecDepth 20000 in
theorem mvX3_tell : MV yX3_tell cX3_tell 3 mX3_tell 1 := ⟨⟨inG (mt4 (List.mem_of_getElem? (i := 118) rfl)) rfl, gi_RX3, ⟨by decide +kernel, by decide +kernel⟩, by decide +kernel, by decide +kernel, by decide, by decide⟩, inG (mt4 (List.mem_of_getElem? (i := 116) rfl)) rfl, inG (mt4 (List.mem_of_getElem? (i := 117) rfl)) rfl⟩
abbrev mX9_steps : Mt := ((some .int), RX9, false, [])
set_option maxRecDepth 20000 in
theorem mvX9_steps : MV yX9_steps cX9_steps 1 mX9_steps 0 := ⟨⟨inG (mt4 (List.mem_of_getElem? (i := 127) rfl)) rfl, gi_RX9, ⟨by decide +kernel, by decide +kernel⟩, by decide +kernel, by decide +kernel, by decide, by decide⟩, inG (mt4 (List.mem_of_getElem? (i := 125) rfl)) rfl, inG (mt4 (List.mem_of_getElem? (i := 126) rfl)) rfl⟩
abbrev mX9_stepAt : Mt := ((some .int), RX9, false, [])
set_option maxRecDepth 20000 in
theorem mvX9_stepAt : MV yX9_stepAt cX9_stepAt 2 mX9_stepAt 1 := ⟨⟨inG (mt4 (List.mem_of_getElem? (i := 131) rfl)) rfl, gi_RX9, ⟨by decide +kernel, by decide +kernel⟩, by decide +kernel, by decide +kernel, by decide, by decide⟩, inG (mt4 (List.mem_of_getElem? (i := 129) rfl)) rfl, inG (mt4 (List.mem_of_getElem? (i := 130) rfl)) rfl⟩
abbrev mX2_direction : Mt := ((some .int), RX2, false, [])
set_option maxRecDepth 20000 in
theorem msX2_direction : MS yX2_direction cX2_direction 3 mX2_direction 2 := ⟨⟨inG (mt4 (List.mem_of_getElem? (i := 134) rfl)) rfl, gi_RX2, ⟨by decide +kernel, by decide +kernel⟩, by decide +kernel, by decide +kernel, by decide, by decide⟩, inG (mt4 (List.mem_of_getElem? (i := 133) rfl)) rfl⟩
abbrev mJ0_charAt_5068e : Mt := ((some .char), RJ0, false, [])
set_option maxRecDepth 20000 in
theorem mvJ0_charAt_5068e : MV yJ0_charAt_5068e cJ0_charAt_5068e 2 mJ0_charAt_5068e 1 := ⟨⟨inG (mt4 (List.mem_of_getElem? (i := 139) rfl)) rfl, gi_RJ0, ⟨by decide +kernel, by decide +kernel⟩, by decide +kernel, by decide +kernel, by decide, by decide⟩, inG (mt4 (List.mem_of_getElem? (i := 137) rfl)) rfl, inG (mt4 (List.mem_of_getElem? (i := 138) rfl)) rfl⟩
abbrev mJ1_charAt_3b067 : Mt := ((some .char), RJ1, false, [])
set_option maxRecDepth 20000 in
theorem msJ1_charAt_3b067 : MS yJ1_charAt_3b067 cJ1_charAt_3b067 2 mJ1_charAt_3b067 2 := ⟨⟨inG (mt4 (List.mem_of_getElem? (i := 142) rfl)) rfl, gi_RJ1, ⟨by decide +kernel, by decide +kernel⟩, by decide +kernel, by decide +kernel, by decide, by decide⟩, inG (mt4 (List.mem_of_getElem? (i := 141) rfl)) rfl⟩
abbrev mJ0_checkIndex_df160 : Mt := (none, RJ0, false, [])
set_option maxRecDepth 20000 in
theorem msJ0_checkIndex_df160 : MS yJ0_checkIndex_df160 cJ0_checkIndex_df160 2 mJ0_checkIndex_df160 2 := ⟨⟨inG (mt4 (List.mem_of_getElem? (i := 145) rfl)) rfl, gi_RJ0, ⟨by decide +kernel, by decide +kernel⟩, by decide +kernel, by decide +kernel, by decide, by decide⟩, inG (mt4 (List.mem_of_getElem? (i := 144) rfl)) rfl⟩
abbrev mJ3_checkIndex_8e157 : Mt := ((some .int), RJ3, false, [])
set_option maxRecDepth 20000 in
theorem msJ3_checkIndex_8e157 : MS yJ3_checkIndex_8e157 cJ3_checkIndex_8e157 3 mJ3_checkIndex_8e157 3 := ⟨⟨inG (mt4 (List.mem_of_getElem? (i := 148) rfl)) rfl, gi_RJ3, ⟨by decide +kernel, by decide +kernel⟩, by decide +kernel, by decide +kernel, by decide, by decide⟩, inG (mt4 (List.mem_of_getElem? (i := 147) rfl)) rfl⟩
abbrev mJ2_charAt_3b067 : Mt := ((some .char), RJ2, false, [])
set_option maxRecDepth 20000 in
theorem msJ2_charAt_3b067 : MS yJ2_charAt_3b067 cJ2_charAt_3b067 2 mJ2_charAt_3b067 2 := ⟨⟨inG (mt4 (List.mem_of_getElem? (i := 151) rfl)) rfl, gi_RJ2, ⟨by decide +kernel, by decide +kernel⟩, by decide +kernel, by decide +kernel, by decide, by decide⟩, inG (mt4 (List.mem_of_getElem? (i := 150) rfl)) rfl⟩
abbrev mJ2_checkIndex_2214a : Mt := (none, RJ2, false, [])
set_option maxRecDepth 20000 in
theorem msJ2_checkIndex_2214a : MS yJ2_checkIndex_2214a cJ2_checkIndex_2214a 2 mJ2_checkIndex_2214a 2 := ⟨⟨inG (mt4 (List.mem_of_getElem? (i := 154) rfl)) rfl, gi_RJ2, ⟨by decide +kernel, by decide +kernel⟩, by decide +kernel, by decide +kernel, by decide, by decide⟩, inG (mt4 (List.mem_of_getElem? (i := 153) rfl)) rfl⟩
abbrev mX12_write : Mt := ((some .int), RX12, false, [])
set_option maxRecDepth 20000 in
theorem mvX12_write : MV yX12_write cX12_write 4 mX12_write 1 := ⟨⟨inG (mt6 (List.mem_of_getElem? (i := 225) rfl)) rfl, gi_RX12, ⟨by decide +kernel, by decide +kernel⟩, by decide +kernel, by decide +kernel, by decide, by decide⟩, inG (mt6 (List.mem_of_getElem? (i := 223) rfl)) rfl, inG (mt6 (List.mem_of_getElem? (i := 224) rfl)) rfl⟩
abbrev mL_undo : Mt := ((some .int), RL, false, [(0, 8, 11, 15)])
set_option maxRecDepth 20000 in
theorem msL_undo : MS yL_undo cL_undo 3 mL_undo 2 := ⟨⟨inG (mt4 (List.mem_of_getElem? (i := 158) rfl)) rfl, gi_RL, ⟨by decide +kernel, by decide +kernel⟩, by decide +kernel, by decide +kernel, by decide, by decide⟩, inG (mt4 (List.mem_of_getElem? (i := 157) rfl)) rfl⟩
abbrev mX11_undo : Mt := ((some .int), RX11, false, [])
set_option maxRecDepth 20000 in
theorem mvX11_undo : MV yX11_undo cX11_undo 1 mX11_undo 0 := ⟨⟨inG (mt4 (List.mem_of_getElem? (i := 162) rfl)) rfl, gi_RX11, ⟨by decide +kernel, by decide +kernel⟩, by decide +kernel, by decide +kernel, by decide, by decide⟩, inG (mt4 (List.mem_of_getElem? (i := 160) rfl)) rfl, inG (mt4 (List.mem_of_getElem? (i := 161) rfl)) rfl⟩
abbrev mX1_size : Mt := ((some .int), RX1, false, [])
set_option maxRecDepth 20000 in
theorem mvX1_size : MV yX1_size cX1_size 1 mX1_size 0 := ⟨⟨inG (mt4 (List.mem_of_getElem? (i := 166) rfl)) rfl, gi_RX1, ⟨by decide +kernel, by decide +kernel⟩, by decide +kernel, by decide +kernel, by decide, by decide⟩, inG (mt4 (List.mem_of_getElem? (i := 164) rfl)) rfl, inG (mt4 (List.mem_of_getElem? (i := 165) rfl)) rfl⟩
abbrev mX1_restoreLast : Mt := (none, RX1, false, [])
set_option maxRecDepth 20000 in
theorem mvX1_restoreLast : MV yX1_restoreLast cX1_restoreLast 2 mX1_restoreLast 1 := ⟨⟨inG (mt4 (List.mem_of_getElem? (i := 171) rfl)) rfl, gi_RX1, ⟨by decide +kernel, by decide +kernel⟩, by decide +kernel, by decide +kernel, by decide, by decide⟩, inG (mt4 (List.mem_of_getElem? (i := 169) rfl)) rfl, inG (mt4 (List.mem_of_getElem? (i := 170) rfl)) rfl⟩
abbrev mX5_putInto : Mt := (none, RX5, false, [])
set_option maxRecDepth 20000 in
theorem mvX5_putInto : MV yX5_putInto cX5_putInto 6 mX5_putInto 1 := ⟨⟨inG (mt4 (List.mem_of_getElem? (i := 175) rfl)) rfl, gi_RX5, ⟨by decide +kernel, by decide +kernel⟩, by decide +kernel, by decide +kernel, by decide, by decide⟩, inG (mt4 (List.mem_of_getElem? (i := 173) rfl)) rfl, inG (mt4 (List.mem_of_getElem? (i := 174) rfl)) rfl⟩
abbrev mX12_undo : Mt := ((some .int), RX12, false, [])
set_option maxRecDepth 20000 in
theorem mvX12_undo : MV yX12_undo cX12_undo 2 mX12_undo 0 := ⟨⟨inG (mt6 (List.mem_of_getElem? (i := 63) rfl)) rfl, gi_RX12, ⟨by decide +kernel, by decide +kernel⟩, by decide +kernel, by decide +kernel, by decide, by decide⟩, inG (mt6 (List.mem_of_getElem? (i := 61) rfl)) rfl, inG (mt6 (List.mem_of_getElem? (i := 62) rfl)) rfl⟩
abbrev mL_keep : Mt := ((some .int), RL, false, [(0, 9, 12, 20)])
set_option maxRecDepth 20000 in
theorem msL_keep : MS yL_keep cL_keep 4 mL_keep 3 := ⟨⟨inG (mt4 (List.mem_of_getElem? (i := 181) rfl)) rfl, gi_RL, ⟨by decide +kernel, by decide +kernel⟩, by decide +kernel, by decide +kernel, by decide, by decide⟩, inG (mt4 (List.mem_of_getElem? (i := 180) rfl)) rfl⟩
abbrev mX11_keep : Mt := ((some .int), RX11, false, [])
set_option maxRecDepth 20000 in
theorem mvX11_keep : MV yX11_keep cX11_keep 2 mX11_keep 1 := ⟨⟨inG (mt4 (List.mem_of_getElem? (i := 185) rfl)) rfl, gi_RX11, ⟨by decide +kernel, by decide +kernel⟩, by decide +kernel, by decide +kernel, by decide, by decide⟩, inG (mt4 (List.mem_of_getElem? (i := 183) rfl)) rfl, inG (mt4 (List.mem_of_getElem? (i := 184) rfl)) rfl⟩
abbrev mX8_take : Mt := (none, RX8, false, [])
set_option maxRecDepth 20000 in
theorem mvX8_take : MV yX8_take cX8_take 3 mX8_take 2 := ⟨⟨inG (mt4 (List.mem_of_getElem? (i := 189) rfl)) rfl, gi_RX8, ⟨by decide +kernel, by decide +kernel⟩, by decide +kernel, by decide +kernel, by decide, by decide⟩, inG (mt4 (List.mem_of_getElem? (i := 187) rfl)) rfl, inG (mt4 (List.mem_of_getElem? (i := 188) rfl)) rfl⟩
abbrev mX12_keep : Mt := ((some .int), RX12, false, [])
set_option maxRecDepth 20000 in
theorem mvX12_keep : MV yX12_keep cX12_keep 3 mX12_keep 1 := ⟨⟨inG (mt6 (List.mem_of_getElem? (i := 71) rfl)) rfl, gi_RX12, ⟨by decide +kernel, by decide +kernel⟩, by decide +kernel, by decide +kernel, by decide, by decide⟩, inG (mt6 (List.mem_of_getElem? (i := 69) rfl)) rfl, inG (mt6 (List.mem_of_getElem? (i := 70) rfl)) rfl⟩
abbrev mL_goBack : Mt := ((some .int), RL, false, [(0, 9, 12, 20), (0, 9, 15, 15)])
set_option maxRecDepth 20000 in
theorem msL_goBack : MS yL_goBack cL_goBack 4 mL_goBack 3 := ⟨⟨inG (mt4 (List.mem_of_getElem? (i := 193) rfl)) rfl, gi_RL, ⟨by decide +kernel, by decide +kernel⟩, by decide +kernel, by decide +kernel, by decide, by decide⟩, inG (mt4 (List.mem_of_getElem? (i := 192) rfl)) rfl⟩
abbrev mX11_goBack : Mt := ((some .int), RX11, false, [])
set_option maxRecDepth 20000 in
theorem mvX11_goBack : MV yX11_goBack cX11_goBack 2 mX11_goBack 1 := ⟨⟨inG (mt4 (List.mem_of_getElem? (i := 197) rfl)) rfl, gi_RX11, ⟨by decide +kernel, by decide +kernel⟩, by decide +kernel, by decide +kernel, by decide, by decide⟩, inG (mt4 (List.mem_of_getElem? (i := 195) rfl)) rfl, inG (mt4 (List.mem_of_getElem? (i := 196) rfl)) rfl⟩
abbrev mX8_isTaken : Mt := ((some .boolean), RX8, false, [])
set_option maxRecDepth 20000 in
theorem mvX8_isTaken : MV yX8_isTaken cX8_isTaken 2 mX8_isTaken 1 := ⟨⟨inG (mt4 (List.mem_of_getElem? (i := 201) rfl)) rfl, gi_RX8, ⟨by decide +kernel, by decide +kernel⟩, by decide +kernel, by decide +kernel, by decide, by decide⟩, inG (mt4 (List.mem_of_getElem? (i := 199) rfl)) rfl, inG (mt4 (List.mem_of_getElem? (i := 200) rfl)) rfl⟩
abbrev mX8_putInto : Mt := (none, RX8, false, [])
set_option maxRecDepth 20000 in
theorem mvX8_putInto : MV yX8_putInto cX8_putInto 3 mX8_putInto 2 := ⟨⟨inG (mt4 (List.mem_of_getElem? (i := 206) rfl)) rfl, gi_RX8, ⟨by decide +kernel, by decide +kernel⟩, by decide +kernel, by decide +kernel, by decide, by decide⟩, inG (mt4 (List.mem_of_getElem? (i := 204) rfl)) rfl, inG (mt4 (List.mem_of_getElem? (i := 205) rfl)) rfl⟩
abbrev mX12_goBack : Mt := ((some .int), RX12, false, [])
set_option maxRecDepth 20000 in
theorem mvX12_goBack : MV yX12_goBack cX12_goBack 3 mX12_goBack 1 := ⟨⟨inG (mt6 (List.mem_of_getElem? (i := 78) rfl)) rfl, gi_RX12, ⟨by decide +kernel, by decide +kernel⟩, by decide +kernel, by decide +kernel, by decide, by decide⟩, inG (mt6 (List.mem_of_getElem? (i := 76) rfl)) rfl, inG (mt6 (List.mem_of_getElem? (i := 77) rfl)) rfl⟩
abbrev mL_site : Mt := ((some .int), RL, false, [(0, 12, 15, 13), (0, 12, 19, 20)])
set_option maxRecDepth 20000 in
theorem msL_site : MS yL_site cL_site 6 mL_site 5 := ⟨⟨inG (mt4 (List.mem_of_getElem? (i := 210) rfl)) rfl, gi_RL, ⟨by decide +kernel, by decide +kernel⟩, by decide +kernel, by decide +kernel, by decide, by decide⟩, inG (mt4 (List.mem_of_getElem? (i := 209) rfl)) rfl⟩
abbrev mX11_site : Mt := ((some .int), RX11, false, [])
set_option maxRecDepth 20000 in
theorem mvX11_site : MV yX11_site cX11_site 5 mX11_site 3 := ⟨⟨inG (mt4 (List.mem_of_getElem? (i := 214) rfl)) rfl, gi_RX11, ⟨by decide +kernel, by decide +kernel⟩, by decide +kernel, by decide +kernel, by decide, by decide⟩, inG (mt4 (List.mem_of_getElem? (i := 212) rfl)) rfl, inG (mt4 (List.mem_of_getElem? (i := 213) rfl)) rfl⟩
abbrev mX0_freeDirections : Mt := ((some .int), RX0, false, [])
set_option maxRecDepth 20000 in
theorem mvX0_freeDirections : MV yX0_freeDirections cX0_freeDirections 4 mX0_freeDirections 1 := ⟨⟨inG (mt2 (List.mem_of_getElem? (i := 157) rfl)) rfl, gi_RX0, ⟨by decide +kernel, by decide +kernel⟩, by decide +kernel, by decide +kernel, by decide, by decide⟩, inG (mt2 (List.mem_of_getElem? (i := 155) rfl)) rfl, inG (mt2 (List.mem_of_getElem? (i := 156) rfl)) rfl⟩
abbrev mX12_site : Mt := ((some .int), RX12, false, [])
set_option maxRecDepth 20000 in
theorem mvX12_site : MV yX12_site cX12_site 5 mX12_site 3 := ⟨⟨inG (mt6 (List.mem_of_getElem? (i := 229) rfl)) rfl, gi_RX12, ⟨by decide +kernel, by decide +kernel⟩, by decide +kernel, by decide +kernel, by decide, by decide⟩, inG (mt6 (List.mem_of_getElem? (i := 227) rfl)) rfl, inG (mt6 (List.mem_of_getElem? (i := 228) rfl)) rfl⟩
abbrev mX12_freeAround : Mt := ((some .int), RX12, false, [])
set_option maxRecDepth 20000 in
theorem mvX12_freeAround : MV yX12_freeAround cX12_freeAround 4 mX12_freeAround 1 := ⟨⟨inG (mt6 (List.mem_of_getElem? (i := 233) rfl)) rfl, gi_RX12, ⟨by decide +kernel, by decide +kernel⟩, by decide +kernel, by decide +kernel, by decide, by decide⟩, inG (mt6 (List.mem_of_getElem? (i := 232) rfl)) rfl, inG (mp_ (List.mem_of_getElem? (i := 35) rfl)) rfl⟩
abbrev mL_place : Mt := ((some .int), RL, false, [(0, 10, 13, 13)])
set_option maxRecDepth 20000 in
theorem msL_place : MS yL_place cL_place 5 mL_place 4 := ⟨⟨inG (mt4 (List.mem_of_getElem? (i := 219) rfl)) rfl, gi_RL, ⟨by decide +kernel, by decide +kernel⟩, by decide +kernel, by decide +kernel, by decide, by decide⟩, inG (mt4 (List.mem_of_getElem? (i := 218) rfl)) rfl⟩
abbrev mX11_place : Mt := ((some .int), RX11, false, [])
set_option maxRecDepth 20000 in
theorem mvX11_place : MV yX11_place cX11_place 3 mX11_place 2 := ⟨⟨inG (mt4 (List.mem_of_getElem? (i := 223) rfl)) rfl, gi_RX11, ⟨by decide +kernel, by decide +kernel⟩, by decide +kernel, by decide +kernel, by decide, by decide⟩, inG (mt4 (List.mem_of_getElem? (i := 221) rfl)) rfl, inG (mt4 (List.mem_of_getElem? (i := 222) rfl)) rfl⟩
abbrev mX12_place : Mt := ((some .int), RX12, false, [])
set_option maxRecDepth 20000 in
theorem mvX12_place : MV yX12_place cX12_place 3 mX12_place 2 := ⟨⟨inG (mt6 (List.mem_of_getElem? (i := 237) rfl)) rfl, gi_RX12, ⟨by decide +kernel, by decide +kernel⟩, by decide +kernel, by decide +kernel, by decide, by decide⟩, inG (mt6 (List.mem_of_getElem? (i := 235) rfl)) rfl, inG (mt6 (List.mem_of_getElem? (i := 236) rfl)) rfl⟩
abbrev mL_path : Mt := ((some .int), RL, false, [(0, 10, 13, 13), (0, 10, 17, 20)])
set_option maxRecDepth 20000 in
theorem msL_path : MS yL_path cL_path 5 mL_path 4 := ⟨⟨inG (mt4 (List.mem_of_getElem? (i := 227) rfl)) rfl, gi_RL, ⟨by decide +kernel, by decide +kernel⟩, by decide +kernel, by decide +kernel, by decide, by decide⟩, inG (mt4 (List.mem_of_getElem? (i := 226) rfl)) rfl⟩
abbrev mX11_path : Mt := ((some .int), RX11, false, [])
set_option maxRecDepth 20000 in
theorem mvX11_path : MV yX11_path cX11_path 4 mX11_path 2 := ⟨⟨inG (mt4 (List.mem_of_getElem? (i := 231) rfl)) rfl, gi_RX11, ⟨by decide +kernel, by decide +kernel⟩, by decide +kernel, by decide +kernel, by decide, by decide⟩, inG (mt4 (List.mem_of_getElem? (i := 229) rfl)) rfl, inG (mt4 (List.mem_of_getElem? (i := 230) rfl)) rfl⟩
abbrev mX9_corners : Mt := ((some .int), RX9, false, [])
set_option maxRecDepth 20000 in
theorem mvX9_corners : MV yX9_corners cX9_corners 3 mX9_corners 0 := ⟨⟨inG (mt4 (List.mem_of_getElem? (i := 235) rfl)) rfl, gi_RX9, ⟨by decide +kernel, by decide +kernel⟩, by decide +kernel, by decide +kernel, by decide, by decide⟩, inG (mt4 (List.mem_of_getElem? (i := 233) rfl)) rfl, inG (mt4 (List.mem_of_getElem? (i := 234) rfl)) rfl⟩
abbrev mX0_contacts : Mt := ((some .int), RX0, false, [])
set_option maxRecDepth 20000 in
theorem mvX0_contacts : MV yX0_contacts cX0_contacts 7 mX0_contacts 1 := ⟨⟨inG (mt5 (List.mem_of_getElem? (i := 1) rfl)) rfl, gi_RX0, ⟨by decide +kernel, by decide +kernel⟩, by decide +kernel, by decide +kernel, by decide, by decide⟩, inG (mt4 (List.mem_of_getElem? (i := 239) rfl)) rfl, inG (mt5 (List.mem_of_getElem? (i := 0) rfl)) rfl⟩
abbrev mX9_width : Mt := ((some .int), RX9, false, [])
set_option maxRecDepth 20000 in
theorem mvX9_width : MV yX9_width cX9_width 4 mX9_width 0 := ⟨⟨inG (mt5 (List.mem_of_getElem? (i := 9) rfl)) rfl, gi_RX9, ⟨by decide +kernel, by decide +kernel⟩, by decide +kernel, by decide +kernel, by decide, by decide⟩, inG (mt5 (List.mem_of_getElem? (i := 7) rfl)) rfl, inG (mt5 (List.mem_of_getElem? (i := 8) rfl)) rfl⟩
abbrev mX9_height : Mt := ((some .int), RX9, false, [])
set_option maxRecDepth 20000 in
theorem mvX9_height : MV yX9_height cX9_height 4 mX9_height 0 := ⟨⟨inG (mt5 (List.mem_of_getElem? (i := 16) rfl)) rfl, gi_RX9, ⟨by decide +kernel, by decide +kernel⟩, by decide +kernel, by decide +kernel, by decide, by decide⟩, inG (mt5 (List.mem_of_getElem? (i := 14) rfl)) rfl, inG (mt5 (List.mem_of_getElem? (i := 15) rfl)) rfl⟩
abbrev mX9_moment : Mt := ((some .int), RX9, false, [])
set_option maxRecDepth 20000 in
theorem mvX9_moment : MV yX9_moment cX9_moment 7 mX9_moment 0 := ⟨⟨inG (mt5 (List.mem_of_getElem? (i := 23) rfl)) rfl, gi_RX9, ⟨by decide +kernel, by decide +kernel⟩, by decide +kernel, by decide +kernel, by decide, by decide⟩, inG (mt5 (List.mem_of_getElem? (i := 21) rfl)) rfl, inG (mt5 (List.mem_of_getElem? (i := 22) rfl)) rfl⟩
abbrev mX0_freeBorder : Mt := ((some .int), RX0, false, [])
set_option maxRecDepth 20000 in
theorem mvX0_freeBorder : MV yX0_freeBorder cX0_freeBorder 4 mX0_freeBorder 1 := ⟨⟨inG (mt5 (List.mem_of_getElem? (i := 27) rfl)) rfl, gi_RX0, ⟨by decide +kernel, by decide +kernel⟩, by decide +kernel, by decide +kernel, by decide, by decide⟩, inG (mt5 (List.mem_of_getElem? (i := 25) rfl)) rfl, inG (mt5 (List.mem_of_getElem? (i := 26) rfl)) rfl⟩
abbrev mX0_neighboursIn : Mt := ((some .int), RX0, false, [])
set_option maxRecDepth 20000 in
theorem mvX0_neighboursIn : MV yX0_neighboursIn cX0_neighboursIn 5 mX0_neighboursIn 2 := ⟨⟨inG (mt5 (List.mem_of_getElem? (i := 31) rfl)) rfl, gi_RX0, ⟨by decide +kernel, by decide +kernel⟩, by decide +kernel, by decide +kernel, by decide, by decide⟩, inG (mt5 (List.mem_of_getElem? (i := 30) rfl)) rfl, inG (mp_ (List.mem_of_getElem? (i := 8) rfl)) rfl⟩
abbrev mX12_path : Mt := ((some .int), RX12, false, [])
set_option maxRecDepth 20000 in
theorem mvX12_path : MV yX12_path cX12_path 3 mX12_path 2 := ⟨⟨inG (mt7 (List.mem_of_getElem? (i := 1) rfl)) rfl, gi_RX12, ⟨by decide +kernel, by decide +kernel⟩, by decide +kernel, by decide +kernel, by decide, by decide⟩, inG (mt6 (List.mem_of_getElem? (i := 239) rfl)) rfl, inG (mt7 (List.mem_of_getElem? (i := 0) rfl)) rfl⟩
abbrev mX12_tellsPath : Mt := ((some .int), RX12, false, [])
set_option maxRecDepth 20000 in
theorem mvX12_tellsPath : MV yX12_tellsPath cX12_tellsPath 3 mX12_tellsPath 2 := ⟨⟨inG (mt7 (List.mem_of_getElem? (i := 5) rfl)) rfl, gi_RX12, ⟨by decide +kernel, by decide +kernel⟩, by decide +kernel, by decide +kernel, by decide, by decide⟩, inG (mt7 (List.mem_of_getElem? (i := 4) rfl)) rfl, inG (mp_ (List.mem_of_getElem? (i := 36) rfl)) rfl⟩
abbrev mX12_corners : Mt := ((some .int), RX12, false, [])
set_option maxRecDepth 20000 in
theorem mvX12_corners : MV yX12_corners cX12_corners 4 mX12_corners 1 := ⟨⟨inG (mt7 (List.mem_of_getElem? (i := 9) rfl)) rfl, gi_RX12, ⟨by decide +kernel, by decide +kernel⟩, by decide +kernel, by decide +kernel, by decide, by decide⟩, inG (mt7 (List.mem_of_getElem? (i := 8) rfl)) rfl, inG (mp_ (List.mem_of_getElem? (i := 37) rfl)) rfl⟩
abbrev mX12_stepOf : Mt := ((some .int), RX12, false, [])
set_option maxRecDepth 20000 in
theorem mvX12_stepOf : MV yX12_stepOf cX12_stepOf 3 mX12_stepOf 2 := ⟨⟨inG (mt7 (List.mem_of_getElem? (i := 13) rfl)) rfl, gi_RX12, ⟨by decide +kernel, by decide +kernel⟩, by decide +kernel, by decide +kernel, by decide, by decide⟩, inG (mt7 (List.mem_of_getElem? (i := 12) rfl)) rfl, inG (mp_ (List.mem_of_getElem? (i := 38) rfl)) rfl⟩
abbrev mX12_contacts : Mt := ((some .int), RX12, false, [])
set_option maxRecDepth 20000 in
theorem mvX12_contacts : MV yX12_contacts cX12_contacts 5 mX12_contacts 1 := ⟨⟨inG (mt7 (List.mem_of_getElem? (i := 17) rfl)) rfl, gi_RX12, ⟨by decide +kernel, by decide +kernel⟩, by decide +kernel, by decide +kernel, by decide, by decide⟩, inG (mt7 (List.mem_of_getElem? (i := 16) rfl)) rfl, inG (mp_ (List.mem_of_getElem? (i := 39) rfl)) rfl⟩
abbrev mX12_span : Mt := ((some .int), RX12, false, [])
set_option maxRecDepth 20000 in
theorem mvX12_span : MV yX12_span cX12_span 7 mX12_span 2 := ⟨⟨inG (mt7 (List.mem_of_getElem? (i := 21) rfl)) rfl, gi_RX12, ⟨by decide +kernel, by decide +kernel⟩, by decide +kernel, by decide +kernel, by decide, by decide⟩, inG (mt7 (List.mem_of_getElem? (i := 20) rfl)) rfl, inG (mp_ (List.mem_of_getElem? (i := 40) rfl)) rfl⟩
abbrev mX12_squared : Mt := ((some .int), RX12, false, [])
set_option maxRecDepth 20000 in
theorem msX12_squared : MS yX12_squared cX12_squared 4 mX12_squared 2 := ⟨⟨inG (mt7 (List.mem_of_getElem? (i := 24) rfl)) rfl, gi_RX12, ⟨by decide +kernel, by decide +kernel⟩, by decide +kernel, by decide +kernel, by decide, by decide⟩, inG (mt7 (List.mem_of_getElem? (i := 23) rfl)) rfl⟩
abbrev mX12_moment : Mt := ((some .int), RX12, false, [])
set_option maxRecDepth 20000 in
theorem mvX12_moment : MV yX12_moment cX12_moment 7 mX12_moment 1 := ⟨⟨inG (mt7 (List.mem_of_getElem? (i := 28) rfl)) rfl, gi_RX12, ⟨by decide +kernel, by decide +kernel⟩, by decide +kernel, by decide +kernel, by decide, by decide⟩, inG (mt7 (List.mem_of_getElem? (i := 27) rfl)) rfl, inG (mp_ (List.mem_of_getElem? (i := 41) rfl)) rfl⟩
abbrev mX12_freeBeside : Mt := ((some .int), RX12, false, [])
set_option maxRecDepth 20000 in
theorem mvX12_freeBeside : MV yX12_freeBeside cX12_freeBeside 7 mX12_freeBeside 1 := ⟨⟨inG (mt7 (List.mem_of_getElem? (i := 32) rfl)) rfl, gi_RX12, ⟨by decide +kernel, by decide +kernel⟩, by decide +kernel, by decide +kernel, by decide, by decide⟩, inG (mt7 (List.mem_of_getElem? (i := 31) rfl)) rfl, inG (mp_ (List.mem_of_getElem? (i := 42) rfl)) rfl⟩
abbrev mX11_trapped : Mt := ((some .int), RX11, false, [])
set_option maxRecDepth 20000 in
theorem mvX11_trapped : MV yX11_trapped cX11_trapped 3 mX11_trapped 0 := ⟨⟨inG (mt2 (List.mem_of_getElem? (i := 133) rfl)) rfl, gi_RX11, ⟨by decide +kernel, by decide +kernel⟩, by decide +kernel, by decide +kernel, by decide, by decide⟩, inG (mt2 (List.mem_of_getElem? (i := 131) rfl)) rfl, inG (mt2 (List.mem_of_getElem? (i := 132) rfl)) rfl⟩
abbrev mX12_trapped : Mt := ((some .int), RX12, false, [])
set_option maxRecDepth 20000 in
theorem mvX12_trapped : MV yX12_trapped cX12_trapped 3 mX12_trapped 0 := ⟨⟨inG (mt7 (List.mem_of_getElem? (i := 36) rfl)) rfl, gi_RX12, ⟨by decide +kernel, by decide +kernel⟩, by decide +kernel, by decide +kernel, by decide, by decide⟩, inG (mt7 (List.mem_of_getElem? (i := 34) rfl)) rfl, inG (mt7 (List.mem_of_getElem? (i := 35) rfl)) rfl⟩
abbrev mL_touching : Mt := ((some .int), RL, false, [(0, 10, 13, 13), (0, 10, 17, 20)])
set_option maxRecDepth 20000 in
theorem msL_touching : MS yL_touching cL_touching 5 mL_touching 4 := ⟨⟨inG (mt5 (List.mem_of_getElem? (i := 34) rfl)) rfl, gi_RL, ⟨by decide +kernel, by decide +kernel⟩, by decide +kernel, by decide +kernel, by decide, by decide⟩, inG (mt5 (List.mem_of_getElem? (i := 33) rfl)) rfl⟩
abbrev mX11_touching : Mt := ((some .int), RX11, false, [])
set_option maxRecDepth 20000 in
theorem mvX11_touching : MV yX11_touching cX11_touching 3 mX11_touching 2 := ⟨⟨inG (mt5 (List.mem_of_getElem? (i := 38) rfl)) rfl, gi_RX11, ⟨by decide +kernel, by decide +kernel⟩, by decide +kernel, by decide +kernel, by decide, by decide⟩, inG (mt5 (List.mem_of_getElem? (i := 36) rfl)) rfl, inG (mt5 (List.mem_of_getElem? (i := 37) rfl)) rfl⟩
abbrev mX0_touchingPairs : Mt := ((some .int), RX0, false, [])
set_option maxRecDepth 20000 in
theorem mvX0_touchingPairs : MV yX0_touchingPairs cX0_touchingPairs 6 mX0_touchingPairs 2 := ⟨⟨inG (mt5 (List.mem_of_getElem? (i := 42) rfl)) rfl, gi_RX0, ⟨by decide +kernel, by decide +kernel⟩, by decide +kernel, by decide +kernel, by decide, by decide⟩, inG (mt5 (List.mem_of_getElem? (i := 40) rfl)) rfl, inG (mt5 (List.mem_of_getElem? (i := 41) rfl)) rfl⟩
abbrev mX12_touching : Mt := ((some .int), RX12, false, [])
set_option maxRecDepth 20000 in
theorem mvX12_touching : MV yX12_touching cX12_touching 6 mX12_touching 2 := ⟨⟨inG (mt7 (List.mem_of_getElem? (i := 40) rfl)) rfl, gi_RX12, ⟨by decide +kernel, by decide +kernel⟩, by decide +kernel, by decide +kernel, by decide, by decide⟩, inG (mt7 (List.mem_of_getElem? (i := 38) rfl)) rfl, inG (mt7 (List.mem_of_getElem? (i := 39) rfl)) rfl⟩
abbrev mL_shape : Mt := ((some .int), RL, false, [(0, 10, 13, 13), (0, 10, 17, 20)])
set_option maxRecDepth 20000 in
theorem msL_shape : MS yL_shape cL_shape 5 mL_shape 4 := ⟨⟨inG (mt5 (List.mem_of_getElem? (i := 45) rfl)) rfl, gi_RL, ⟨by decide +kernel, by decide +kernel⟩, by decide +kernel, by decide +kernel, by decide, by decide⟩, inG (mt5 (List.mem_of_getElem? (i := 44) rfl)) rfl⟩
abbrev mX11_shape : Mt := ((some .int), RX11, false, [])
set_option maxRecDepth 20000 in
theorem mvX11_shape : MV yX11_shape cX11_shape 3 mX11_shape 2 := ⟨⟨inG (mt5 (List.mem_of_getElem? (i := 49) rfl)) rfl, gi_RX11, ⟨by decide +kernel, by decide +kernel⟩, by decide +kernel, by decide +kernel, by decide, by decide⟩, inG (mt5 (List.mem_of_getElem? (i := 47) rfl)) rfl, inG (mt5 (List.mem_of_getElem? (i := 48) rfl)) rfl⟩
abbrev mX7_find : Mt := (none, RX7, false, [])
set_option maxRecDepth 20000 in
theorem mvX7_find : MV yX7_find cX7_find 3 mX7_find 1 := ⟨⟨inG (mt5 (List.mem_of_getElem? (i := 54) rfl)) rfl, gi_RX7, ⟨by decide +kernel, by decide +kernel⟩, by decide +kernel, by decide +kernel, by decide, by decide⟩, inG (mt5 (List.mem_of_getElem? (i := 52) rfl)) rfl, inG (mt5 (List.mem_of_getElem? (i := 53) rfl)) rfl⟩
abbrev mX7_turned : Mt := ((some .int), RX7, false, [])
set_option maxRecDepth 20000 in
theorem msX7_turned : MS yX7_turned cX7_turned 2 mX7_turned 2 := ⟨⟨inG (mt5 (List.mem_of_getElem? (i := 59) rfl)) rfl, gi_RX7, ⟨by decide +kernel, by decide +kernel⟩, by decide +kernel, by decide +kernel, by decide, by decide⟩, inG (mt5 (List.mem_of_getElem? (i := 58) rfl)) rfl⟩
abbrev mX7_consider : Mt := (none, RX7, false, [])
set_option maxRecDepth 20000 in
theorem mvX7_consider : MV yX7_consider cX7_consider 6 mX7_consider 3 := ⟨⟨inG (mt5 (List.mem_of_getElem? (i := 64) rfl)) rfl, gi_RX7, ⟨by decide +kernel, by decide +kernel⟩, by decide +kernel, by decide +kernel, by decide, by decide⟩, inG (mt5 (List.mem_of_getElem? (i := 63) rfl)) rfl, inG (mp_ (List.mem_of_getElem? (i := 9) rfl)) rfl⟩
abbrev mX7_mirrored : Mt := ((some .int), RX7, false, [])
set_option maxRecDepth 20000 in
theorem msX7_mirrored : MS yX7_mirrored cX7_mirrored 1 mX7_mirrored 1 := ⟨⟨inG (mt5 (List.mem_of_getElem? (i := 67) rfl)) rfl, gi_RX7, ⟨by decide +kernel, by decide +kernel⟩, by decide +kernel, by decide +kernel, by decide, by decide⟩, inG (mt5 (List.mem_of_getElem? (i := 66) rfl)) rfl⟩
abbrev mX7_isViewLess : Mt := ((some .boolean), RX7, false, [])
set_option maxRecDepth 20000 in
theorem mvX7_isViewLess : MV yX7_isViewLess cX7_isViewLess 2 mX7_isViewLess 0 := ⟨⟨inG (mt5 (List.mem_of_getElem? (i := 71) rfl)) rfl, gi_RX7, ⟨by decide +kernel, by decide +kernel⟩, by decide +kernel, by decide +kernel, by decide, by decide⟩, inG (mt5 (List.mem_of_getElem? (i := 70) rfl)) rfl, inG (mp_ (List.mem_of_getElem? (i := 10) rfl)) rfl⟩
abbrev mX7_stepAt : Mt := ((some .int), RX7, false, [])
set_option maxRecDepth 20000 in
theorem mvX7_stepAt : MV yX7_stepAt cX7_stepAt 2 mX7_stepAt 1 := ⟨⟨inG (mt5 (List.mem_of_getElem? (i := 78) rfl)) rfl, gi_RX7, ⟨by decide +kernel, by decide +kernel⟩, by decide +kernel, by decide +kernel, by decide, by decide⟩, inG (mt5 (List.mem_of_getElem? (i := 76) rfl)) rfl, inG (mt5 (List.mem_of_getElem? (i := 77) rfl)) rfl⟩
abbrev mX12_shape : Mt := ((some .int), RX12, false, [])
set_option maxRecDepth 20000 in
theorem mvX12_shape : MV yX12_shape cX12_shape 3 mX12_shape 2 := ⟨⟨inG (mt7 (List.mem_of_getElem? (i := 44) rfl)) rfl, gi_RX12, ⟨by decide +kernel, by decide +kernel⟩, by decide +kernel, by decide +kernel, by decide, by decide⟩, inG (mt7 (List.mem_of_getElem? (i := 42) rfl)) rfl, inG (mt7 (List.mem_of_getElem? (i := 43) rfl)) rfl⟩
abbrev mX12_layShape : Mt := (none, RX12, false, [])
set_option maxRecDepth 20000 in
theorem mvX12_layShape : MV yX12_layShape cX12_layShape 7 mX12_layShape 1 := ⟨⟨inG (mt7 (List.mem_of_getElem? (i := 48) rfl)) rfl, gi_RX12, ⟨by decide +kernel, by decide +kernel⟩, by decide +kernel, by decide +kernel, by decide, by decide⟩, inG (mt7 (List.mem_of_getElem? (i := 47) rfl)) rfl, inG (mp_ (List.mem_of_getElem? (i := 43) rfl)) rfl⟩
abbrev mX12_laySteps : Mt := (none, RX12, false, [])
set_option maxRecDepth 20000 in
theorem mvX12_laySteps : MV yX12_laySteps cX12_laySteps 6 mX12_laySteps 2 := ⟨⟨inG (mt7 (List.mem_of_getElem? (i := 52) rfl)) rfl, gi_RX12, ⟨by decide +kernel, by decide +kernel⟩, by decide +kernel, by decide +kernel, by decide, by decide⟩, inG (mt7 (List.mem_of_getElem? (i := 51) rfl)) rfl, inG (mp_ (List.mem_of_getElem? (i := 44) rfl)) rfl⟩
abbrev mL_isAlike : Mt := ((some .int), RL, false, [(0, 17, 20, 13)])
set_option maxRecDepth 20000 in
theorem msL_isAlike : MS yL_isAlike cL_isAlike 5 mL_isAlike 4 := ⟨⟨inG (mt5 (List.mem_of_getElem? (i := 81) rfl)) rfl, gi_RL, ⟨by decide +kernel, by decide +kernel⟩, by decide +kernel, by decide +kernel, by decide, by decide⟩, inG (mt5 (List.mem_of_getElem? (i := 80) rfl)) rfl⟩
abbrev mX11_isAlike : Mt := ((some .boolean), RX11, false, [])
set_option maxRecDepth 20000 in
theorem mvX11_isAlike : MV yX11_isAlike cX11_isAlike 3 mX11_isAlike 2 := ⟨⟨inG (mt5 (List.mem_of_getElem? (i := 85) rfl)) rfl, gi_RX11, ⟨by decide +kernel, by decide +kernel⟩, by decide +kernel, by decide +kernel, by decide, by decide⟩, inG (mt5 (List.mem_of_getElem? (i := 83) rfl)) rfl, inG (mt5 (List.mem_of_getElem? (i := 84) rfl)) rfl⟩
abbrev mX7_matches : Mt := ((some .boolean), RX7, false, [])
set_option maxRecDepth 20000 in
theorem mvX7_matches : MV yX7_matches cX7_matches 3 mX7_matches 1 := ⟨⟨inG (mt5 (List.mem_of_getElem? (i := 89) rfl)) rfl, gi_RX7, ⟨by decide +kernel, by decide +kernel⟩, by decide +kernel, by decide +kernel, by decide, by decide⟩, inG (mt5 (List.mem_of_getElem? (i := 87) rfl)) rfl, inG (mt5 (List.mem_of_getElem? (i := 88) rfl)) rfl⟩
abbrev mX12_isAlike : Mt := ((some .boolean), RX12, false, [])
set_option maxRecDepth 20000 in
theorem mvX12_isAlike : MV yX12_isAlike cX12_isAlike 3 mX12_isAlike 2 := ⟨⟨inG (mt7 (List.mem_of_getElem? (i := 56) rfl)) rfl, gi_RX12, ⟨by decide +kernel, by decide +kernel⟩, by decide +kernel, by decide +kernel, by decide, by decide⟩, inG (mt7 (List.mem_of_getElem? (i := 54) rfl)) rfl, inG (mt7 (List.mem_of_getElem? (i := 55) rfl)) rfl⟩
abbrev mX12_hasShapeOf : Mt := ((some .boolean), RX12, false, [])
set_option maxRecDepth 20000 in
theorem mvX12_hasShapeOf : MV yX12_hasShapeOf cX12_hasShapeOf 6 mX12_hasShapeOf 2 := ⟨⟨inG (mt7 (List.mem_of_getElem? (i := 60) rfl)) rfl, gi_RX12, ⟨by decide +kernel, by decide +kernel⟩, by decide +kernel, by decide +kernel, by decide, by decide⟩, inG (mt7 (List.mem_of_getElem? (i := 59) rfl)) rfl, inG (mp_ (List.mem_of_getElem? (i := 45) rfl)) rfl⟩
abbrev mL_free : Mt := ((some .int), RL, false, [(0, 9, 12, 20)])
set_option maxRecDepth 20000 in
theorem msL_free : MS yL_free cL_free 4 mL_free 3 := ⟨⟨inG (mt5 (List.mem_of_getElem? (i := 92) rfl)) rfl, gi_RL, ⟨by decide +kernel, by decide +kernel⟩, by decide +kernel, by decide +kernel, by decide, by decide⟩, inG (mt5 (List.mem_of_getElem? (i := 91) rfl)) rfl⟩
abbrev mX11_free : Mt := ((some .int), RX11, false, [])
set_option maxRecDepth 20000 in
theorem mvX11_free : MV yX11_free cX11_free 2 mX11_free 1 := ⟨⟨inG (mt5 (List.mem_of_getElem? (i := 96) rfl)) rfl, gi_RX11, ⟨by decide +kernel, by decide +kernel⟩, by decide +kernel, by decide +kernel, by decide, by decide⟩, inG (mt5 (List.mem_of_getElem? (i := 94) rfl)) rfl, inG (mt5 (List.mem_of_getElem? (i := 95) rfl)) rfl⟩
abbrev mX4_explore : Mt := (none, RX4, false, [])
set_option maxRecDepth 20000 in
theorem mvX4_explore : MV yX4_explore cX4_explore 3 mX4_explore 1 := ⟨⟨inG (mt5 (List.mem_of_getElem? (i := 100) rfl)) rfl, gi_RX4, ⟨by decide +kernel, by decide +kernel⟩, by decide +kernel, by decide +kernel, by decide, by decide⟩, inG (mt5 (List.mem_of_getElem? (i := 98) rfl)) rfl, inG (mt5 (List.mem_of_getElem? (i := 99) rfl)) rfl⟩
abbrev mX4_isUnseen : Mt := ((some .boolean), RX4, false, [])
set_option maxRecDepth 20000 in
theorem mvX4_isUnseen : MV yX4_isUnseen cX4_isUnseen 3 mX4_isUnseen 2 := ⟨⟨inG (mt5 (List.mem_of_getElem? (i := 105) rfl)) rfl, gi_RX4, ⟨by decide +kernel, by decide +kernel⟩, by decide +kernel, by decide +kernel, by decide, by decide⟩, inG (mt5 (List.mem_of_getElem? (i := 104) rfl)) rfl, inG (mp_ (List.mem_of_getElem? (i := 11) rfl)) rfl⟩
abbrev mX4_flood : Mt := ((some .int), RX4, false, [])
set_option maxRecDepth 20000 in
theorem mvX4_flood : MV yX4_flood cX4_flood 7 mX4_flood 2 := ⟨⟨inG (mt5 (List.mem_of_getElem? (i := 110) rfl)) rfl, gi_RX4, ⟨by decide +kernel, by decide +kernel⟩, by decide +kernel, by decide +kernel, by decide, by decide⟩, inG (mt5 (List.mem_of_getElem? (i := 109) rfl)) rfl, inG (mp_ (List.mem_of_getElem? (i := 12) rfl)) rfl⟩
abbrev mX0_takenSites : Mt := ((some .int), RX0, false, [])
set_option maxRecDepth 20000 in
theorem mvX0_takenSites : MV yX0_takenSites cX0_takenSites 1 mX0_takenSites 0 := ⟨⟨inG (mt2 (List.mem_of_getElem? (i := 188) rfl)) rfl, gi_RX0, ⟨by decide +kernel, by decide +kernel⟩, by decide +kernel, by decide +kernel, by decide, by decide⟩, inG (mt2 (List.mem_of_getElem? (i := 186) rfl)) rfl, inG (mt2 (List.mem_of_getElem? (i := 187) rfl)) rfl⟩
abbrev mX4_size : Mt := ((some .int), RX4, false, [])
set_option maxRecDepth 20000 in
theorem mvX4_size : MV yX4_size cX4_size 1 mX4_size 0 := ⟨⟨inG (mt5 (List.mem_of_getElem? (i := 115) rfl)) rfl, gi_RX4, ⟨by decide +kernel, by decide +kernel⟩, by decide +kernel, by decide +kernel, by decide, by decide⟩, inG (mt5 (List.mem_of_getElem? (i := 113) rfl)) rfl, inG (mt5 (List.mem_of_getElem? (i := 114) rfl)) rfl⟩
abbrev mX4_greatest : Mt := ((some .int), RX4, false, [])
set_option maxRecDepth 20000 in
theorem mvX4_greatest : MV yX4_greatest cX4_greatest 3 mX4_greatest 0 := ⟨⟨inG (mt5 (List.mem_of_getElem? (i := 119) rfl)) rfl, gi_RX4, ⟨by decide +kernel, by decide +kernel⟩, by decide +kernel, by decide +kernel, by decide, by decide⟩, inG (mt5 (List.mem_of_getElem? (i := 117) rfl)) rfl, inG (mt5 (List.mem_of_getElem? (i := 118) rfl)) rfl⟩
abbrev mX11_regionsAtHeads : Mt := ((some .int), RX11, false, [])
set_option maxRecDepth 20000 in
theorem mvX11_regionsAtHeads : MV yX11_regionsAtHeads cX11_regionsAtHeads 2 mX11_regionsAtHeads 0 := ⟨⟨inG (mt5 (List.mem_of_getElem? (i := 124) rfl)) rfl, gi_RX11, ⟨by decide +kernel, by decide +kernel⟩, by decide +kernel, by decide +kernel, by decide, by decide⟩, inG (mt5 (List.mem_of_getElem? (i := 123) rfl)) rfl, inG (mp_ (List.mem_of_getElem? (i := 13) rfl)) rfl⟩
abbrev mX4_chooseAround : Mt := (none, RX4, false, [])
set_option maxRecDepth 20000 in
theorem mvX4_chooseAround : MV yX4_chooseAround cX4_chooseAround 4 mX4_chooseAround 1 := ⟨⟨inG (mt5 (List.mem_of_getElem? (i := 128) rfl)) rfl, gi_RX4, ⟨by decide +kernel, by decide +kernel⟩, by decide +kernel, by decide +kernel, by decide, by decide⟩, inG (mt5 (List.mem_of_getElem? (i := 126) rfl)) rfl, inG (mt5 (List.mem_of_getElem? (i := 127) rfl)) rfl⟩
abbrev mX4_chosenRegions : Mt := ((some .int), RX4, false, [])
set_option maxRecDepth 20000 in
theorem mvX4_chosenRegions : MV yX4_chosenRegions cX4_chosenRegions 3 mX4_chosenRegions 0 := ⟨⟨inG (mt5 (List.mem_of_getElem? (i := 133) rfl)) rfl, gi_RX4, ⟨by decide +kernel, by decide +kernel⟩, by decide +kernel, by decide +kernel, by decide, by decide⟩, inG (mt5 (List.mem_of_getElem? (i := 131) rfl)) rfl, inG (mt5 (List.mem_of_getElem? (i := 132) rfl)) rfl⟩
abbrev mX12_free : Mt := ((some .int), RX12, false, [])
set_option maxRecDepth 20000 in
theorem mvX12_free : MV yX12_free cX12_free 4 mX12_free 1 := ⟨⟨inG (mt7 (List.mem_of_getElem? (i := 64) rfl)) rfl, gi_RX12, ⟨by decide +kernel, by decide +kernel⟩, by decide +kernel, by decide +kernel, by decide, by decide⟩, inG (mt7 (List.mem_of_getElem? (i := 62) rfl)) rfl, inG (mt7 (List.mem_of_getElem? (i := 63) rfl)) rfl⟩
abbrev mX12_findRegions : Mt := (none, RX12, false, [])
set_option maxRecDepth 20000 in
theorem mvX12_findRegions : MV yX12_findRegions cX12_findRegions 2 mX12_findRegions 0 := ⟨⟨inG (mt7 (List.mem_of_getElem? (i := 68) rfl)) rfl, gi_RX12, ⟨by decide +kernel, by decide +kernel⟩, by decide +kernel, by decide +kernel, by decide, by decide⟩, inG (mt7 (List.mem_of_getElem? (i := 67) rfl)) rfl, inG (mp_ (List.mem_of_getElem? (i := 46) rfl)) rfl⟩
abbrev mX12_growRegion : Mt := (none, RX12, false, [])
set_option maxRecDepth 20000 in
theorem mvX12_growRegion : MV yX12_growRegion cX12_growRegion 5 mX12_growRegion 1 := ⟨⟨inG (mt7 (List.mem_of_getElem? (i := 72) rfl)) rfl, gi_RX12, ⟨by decide +kernel, by decide +kernel⟩, by decide +kernel, by decide +kernel, by decide, by decide⟩, inG (mt7 (List.mem_of_getElem? (i := 71) rfl)) rfl, inG (mp_ (List.mem_of_getElem? (i := 47) rfl)) rfl⟩
abbrev mX12_isBeside : Mt := ((some .boolean), RX12, false, [])
set_option maxRecDepth 20000 in
theorem mvX12_isBeside : MV yX12_isBeside cX12_isBeside 6 mX12_isBeside 2 := ⟨⟨inG (mt7 (List.mem_of_getElem? (i := 76) rfl)) rfl, gi_RX12, ⟨by decide +kernel, by decide +kernel⟩, by decide +kernel, by decide +kernel, by decide, by decide⟩, inG (mt7 (List.mem_of_getElem? (i := 75) rfl)) rfl, inG (mp_ (List.mem_of_getElem? (i := 48) rfl)) rfl⟩
abbrev mX12_freeSites : Mt := ((some .int), RX12, false, [])
set_option maxRecDepth 20000 in
theorem mvX12_freeSites : MV yX12_freeSites cX12_freeSites 3 mX12_freeSites 0 := ⟨⟨inG (mt7 (List.mem_of_getElem? (i := 80) rfl)) rfl, gi_RX12, ⟨by decide +kernel, by decide +kernel⟩, by decide +kernel, by decide +kernel, by decide, by decide⟩, inG (mt7 (List.mem_of_getElem? (i := 79) rfl)) rfl, inG (mp_ (List.mem_of_getElem? (i := 49) rfl)) rfl⟩
abbrev mX12_greatestRegion : Mt := ((some .int), RX12, false, [])
set_option maxRecDepth 20000 in
theorem mvX12_greatestRegion : MV yX12_greatestRegion cX12_greatestRegion 3 mX12_greatestRegion 0 := ⟨⟨inG (mt7 (List.mem_of_getElem? (i := 84) rfl)) rfl, gi_RX12, ⟨by decide +kernel, by decide +kernel⟩, by decide +kernel, by decide +kernel, by decide, by decide⟩, inG (mt7 (List.mem_of_getElem? (i := 83) rfl)) rfl, inG (mp_ (List.mem_of_getElem? (i := 50) rfl)) rfl⟩
abbrev mX12_isBesideHead : Mt := ((some .boolean), RX12, false, [])
set_option maxRecDepth 20000 in
theorem mvX12_isBesideHead : MV yX12_isBesideHead cX12_isBesideHead 4 mX12_isBesideHead 1 := ⟨⟨inG (mt7 (List.mem_of_getElem? (i := 88) rfl)) rfl, gi_RX12, ⟨by decide +kernel, by decide +kernel⟩, by decide +kernel, by decide +kernel, by decide, by decide⟩, inG (mt7 (List.mem_of_getElem? (i := 87) rfl)) rfl, inG (mp_ (List.mem_of_getElem? (i := 51) rfl)) rfl⟩
abbrev mL_ways : Mt := ((some .int), RL, false, [(0, 10, 13, 13), (0, 10, 17, 20)])
set_option maxRecDepth 20000 in
theorem msL_ways : MS yL_ways cL_ways 5 mL_ways 4 := ⟨⟨inG (mt5 (List.mem_of_getElem? (i := 136) rfl)) rfl, gi_RL, ⟨by decide +kernel, by decide +kernel⟩, by decide +kernel, by decide +kernel, by decide, by decide⟩, inG (mt5 (List.mem_of_getElem? (i := 135) rfl)) rfl⟩
abbrev mX11_ways : Mt := ((some .int), RX11, false, [])
set_option maxRecDepth 20000 in
theorem mvX11_ways : MV yX11_ways cX11_ways 3 mX11_ways 2 := ⟨⟨inG (mt5 (List.mem_of_getElem? (i := 140) rfl)) rfl, gi_RX11, ⟨by decide +kernel, by decide +kernel⟩, by decide +kernel, by decide +kernel, by decide, by decide⟩, inG (mt5 (List.mem_of_getElem? (i := 138) rfl)) rfl, inG (mt5 (List.mem_of_getElem? (i := 139) rfl)) rfl⟩
abbrev mX6_rowsOfSteps : Mt := ((some .int), RX6, false, [])
set_option maxRecDepth 20000 in
theorem mvX6_rowsOfSteps : MV yX6_rowsOfSteps cX6_rowsOfSteps 4 mX6_rowsOfSteps 3 := ⟨⟨inG (mt5 (List.mem_of_getElem? (i := 144) rfl)) rfl, gi_RX6, ⟨by decide +kernel, by decide +kernel⟩, by decide +kernel, by decide +kernel, by decide, by decide⟩, inG (mt5 (List.mem_of_getElem? (i := 142) rfl)) rfl, inG (mt5 (List.mem_of_getElem? (i := 143) rfl)) rfl⟩
abbrev mX6_survey : Mt := (none, RX6, false, [])
set_option maxRecDepth 20000 in
theorem mvX6_survey : MV yX6_survey cX6_survey 3 mX6_survey 1 := ⟨⟨inG (mt5 (List.mem_of_getElem? (i := 148) rfl)) rfl, gi_RX6, ⟨by decide +kernel, by decide +kernel⟩, by decide +kernel, by decide +kernel, by decide, by decide⟩, inG (mt5 (List.mem_of_getElem? (i := 147) rfl)) rfl, inG (mp_ (List.mem_of_getElem? (i := 14) rfl)) rfl⟩
abbrev mX6_rowsFrom : Mt := ((some .int), RX6, false, [])
set_option maxRecDepth 20000 in
theorem msX6_rowsFrom : MS yX6_rowsFrom cX6_rowsFrom 5 mX6_rowsFrom 3 := ⟨⟨inG (mt5 (List.mem_of_getElem? (i := 154) rfl)) rfl, gi_RX6, ⟨by decide +kernel, by decide +kernel⟩, by decide +kernel, by decide +kernel, by decide, by decide⟩, inG (mt5 (List.mem_of_getElem? (i := 153) rfl)) rfl⟩
abbrev mX6_rowsThrough : Mt := ((some .int), RX6, false, [])
set_option maxRecDepth 20000 in
theorem msX6_rowsThrough : MS yX6_rowsThrough cX6_rowsThrough 4 mX6_rowsThrough 3 := ⟨⟨inG (mt5 (List.mem_of_getElem? (i := 158) rfl)) rfl, gi_RX6, ⟨by decide +kernel, by decide +kernel⟩, by decide +kernel, by decide +kernel, by decide, by decide⟩, inG (mt5 (List.mem_of_getElem? (i := 157) rfl)) rfl⟩
abbrev mX12_ways : Mt := ((some .int), RX12, false, [])
set_option maxRecDepth 20000 in
theorem mvX12_ways : MV yX12_ways cX12_ways 3 mX12_ways 2 := ⟨⟨inG (mt7 (List.mem_of_getElem? (i := 92) rfl)) rfl, gi_RX12, ⟨by decide +kernel, by decide +kernel⟩, by decide +kernel, by decide +kernel, by decide, by decide⟩, inG (mt7 (List.mem_of_getElem? (i := 90) rfl)) rfl, inG (mt7 (List.mem_of_getElem? (i := 91) rfl)) rfl⟩
abbrev mX12_waysFrom : Mt := ((some .int), RX12, false, [])
set_option maxRecDepth 20000 in
theorem mvX12_waysFrom : MV yX12_waysFrom cX12_waysFrom 6 mX12_waysFrom 2 := ⟨⟨inG (mt7 (List.mem_of_getElem? (i := 96) rfl)) rfl, gi_RX12, ⟨by decide +kernel, by decide +kernel⟩, by decide +kernel, by decide +kernel, by decide, by decide⟩, inG (mt7 (List.mem_of_getElem? (i := 95) rfl)) rfl, inG (mp_ (List.mem_of_getElem? (i := 52) rfl)) rfl⟩
abbrev mL_bestStep : Mt := ((some .int), RL, false, [(0, 9, 12, 13)])
set_option maxRecDepth 20000 in
theorem msL_bestStep : MS yL_bestStep cL_bestStep 4 mL_bestStep 3 := ⟨⟨inG (mt5 (List.mem_of_getElem? (i := 163) rfl)) rfl, gi_RL, ⟨by decide +kernel, by decide +kernel⟩, by decide +kernel, by decide +kernel, by decide, by decide⟩, inG (mt5 (List.mem_of_getElem? (i := 162) rfl)) rfl⟩
abbrev mX11_bestStep : Mt := ((some .int), RX11, false, [])
set_option maxRecDepth 20000 in
theorem mvX11_bestStep : MV yX11_bestStep cX11_bestStep 2 mX11_bestStep 1 := ⟨⟨inG (mt5 (List.mem_of_getElem? (i := 167) rfl)) rfl, gi_RX11, ⟨by decide +kernel, by decide +kernel⟩, by decide +kernel, by decide +kernel, by decide, by decide⟩, inG (mt5 (List.mem_of_getElem? (i := 165) rfl)) rfl, inG (mt5 (List.mem_of_getElem? (i := 166) rfl)) rfl⟩
abbrev mX6_bestDirection : Mt := ((some .int), RX6, false, [])
set_option maxRecDepth 20000 in
theorem mvX6_bestDirection : MV yX6_bestDirection cX6_bestDirection 8 mX6_bestDirection 2 := ⟨⟨inG (mt5 (List.mem_of_getElem? (i := 171) rfl)) rfl, gi_RX6, ⟨by decide +kernel, by decide +kernel⟩, by decide +kernel, by decide +kernel, by decide, by decide⟩, inG (mt5 (List.mem_of_getElem? (i := 169) rfl)) rfl, inG (mt5 (List.mem_of_getElem? (i := 170) rfl)) rfl⟩
abbrev mX12_bestStep : Mt := ((some .int), RX12, false, [])
set_option maxRecDepth 20000 in
theorem mvX12_bestStep : MV yX12_bestStep cX12_bestStep 7 mX12_bestStep 1 := ⟨⟨inG (mt7 (List.mem_of_getElem? (i := 100) rfl)) rfl, gi_RX12, ⟨by decide +kernel, by decide +kernel⟩, by decide +kernel, by decide +kernel, by decide, by decide⟩, inG (mt7 (List.mem_of_getElem? (i := 98) rfl)) rfl, inG (mt7 (List.mem_of_getElem? (i := 99) rfl)) rfl⟩
abbrev mL_reach : Mt := ((some .int), RL, false, [(0, 9, 12, 13)])
set_option maxRecDepth 20000 in
theorem msL_reach : MS yL_reach cL_reach 4 mL_reach 3 := ⟨⟨inG (mt5 (List.mem_of_getElem? (i := 174) rfl)) rfl, gi_RL, ⟨by decide +kernel, by decide +kernel⟩, by decide +kernel, by decide +kernel, by decide, by decide⟩, inG (mt5 (List.mem_of_getElem? (i := 173) rfl)) rfl⟩
abbrev mX11_reach : Mt := ((some .int), RX11, false, [])
set_option maxRecDepth 20000 in
theorem mvX11_reach : MV yX11_reach cX11_reach 2 mX11_reach 1 := ⟨⟨inG (mt5 (List.mem_of_getElem? (i := 178) rfl)) rfl, gi_RX11, ⟨by decide +kernel, by decide +kernel⟩, by decide +kernel, by decide +kernel, by decide, by decide⟩, inG (mt5 (List.mem_of_getElem? (i := 176) rfl)) rfl, inG (mt5 (List.mem_of_getElem? (i := 177) rfl)) rfl⟩
abbrev mX4_chosenSites : Mt := ((some .int), RX4, false, [])
set_option maxRecDepth 20000 in
theorem mvX4_chosenSites : MV yX4_chosenSites cX4_chosenSites 3 mX4_chosenSites 0 := ⟨⟨inG (mt5 (List.mem_of_getElem? (i := 182) rfl)) rfl, gi_RX4, ⟨by decide +kernel, by decide +kernel⟩, by decide +kernel, by decide +kernel, by decide, by decide⟩, inG (mt5 (List.mem_of_getElem? (i := 180) rfl)) rfl, inG (mt5 (List.mem_of_getElem? (i := 181) rfl)) rfl⟩
abbrev mX12_reach : Mt := ((some .int), RX12, false, [])
set_option maxRecDepth 20000 in
theorem mvX12_reach : MV yX12_reach cX12_reach 4 mX12_reach 1 := ⟨⟨inG (mt7 (List.mem_of_getElem? (i := 104) rfl)) rfl, gi_RX12, ⟨by decide +kernel, by decide +kernel⟩, by decide +kernel, by decide +kernel, by decide, by decide⟩, inG (mt7 (List.mem_of_getElem? (i := 102) rfl)) rfl, inG (mt7 (List.mem_of_getElem? (i := 103) rfl)) rfl⟩
abbrev mL_ifTurned : Mt := ((some .int), RL, false, [(0, 12, 15, 13), (0, 12, 19, 20)])
set_option maxRecDepth 20000 in
theorem msL_ifTurned : MS yL_ifTurned cL_ifTurned 6 mL_ifTurned 5 := ⟨⟨inG (mt5 (List.mem_of_getElem? (i := 185) rfl)) rfl, gi_RL, ⟨by decide +kernel, by decide +kernel⟩, by decide +kernel, by decide +kernel, by decide, by decide⟩, inG (mt5 (List.mem_of_getElem? (i := 184) rfl)) rfl⟩
abbrev mX11_ifTurned : Mt := ((some .int), RX11, false, [])
set_option maxRecDepth 20000 in
theorem mvX11_ifTurned : MV yX11_ifTurned cX11_ifTurned 4 mX11_ifTurned 3 := ⟨⟨inG (mt5 (List.mem_of_getElem? (i := 189) rfl)) rfl, gi_RX11, ⟨by decide +kernel, by decide +kernel⟩, by decide +kernel, by decide +kernel, by decide, by decide⟩, inG (mt5 (List.mem_of_getElem? (i := 187) rfl)) rfl, inG (mt5 (List.mem_of_getElem? (i := 188) rfl)) rfl⟩
abbrev mX12_ifTurned : Mt := ((some .int), RX12, false, [])
set_option maxRecDepth 20000 in
theorem mvX12_ifTurned : MV yX12_ifTurned cX12_ifTurned 4 mX12_ifTurned 3 := ⟨⟨inG (mt7 (List.mem_of_getElem? (i := 108) rfl)) rfl, gi_RX12, ⟨by decide +kernel, by decide +kernel⟩, by decide +kernel, by decide +kernel, by decide, by decide⟩, inG (mt7 (List.mem_of_getElem? (i := 106) rfl)) rfl, inG (mt7 (List.mem_of_getElem? (i := 107) rfl)) rfl⟩
abbrev mL_turnable : Mt := ((some .int), RL, false, [(0, 9, 12, 13)])
set_option maxRecDepth 20000 in
theorem msL_turnable : MS yL_turnable cL_turnable 4 mL_turnable 3 := ⟨⟨inG (mt5 (List.mem_of_getElem? (i := 192) rfl)) rfl, gi_RL, ⟨by decide +kernel, by decide +kernel⟩, by decide +kernel, by decide +kernel, by decide, by decide⟩, inG (mt5 (List.mem_of_getElem? (i := 191) rfl)) rfl⟩
abbrev mX11_turnable : Mt := ((some .int), RX11, false, [])
set_option maxRecDepth 20000 in
theorem mvX11_turnable : MV yX11_turnable cX11_turnable 2 mX11_turnable 1 := ⟨⟨inG (mt5 (List.mem_of_getElem? (i := 196) rfl)) rfl, gi_RX11, ⟨by decide +kernel, by decide +kernel⟩, by decide +kernel, by decide +kernel, by decide, by decide⟩, inG (mt5 (List.mem_of_getElem? (i := 194) rfl)) rfl, inG (mt5 (List.mem_of_getElem? (i := 195) rfl)) rfl⟩
abbrev mX10_possibleTurns : Mt := ((some .int), RX10, false, [])
set_option maxRecDepth 20000 in
theorem mvX10_possibleTurns : MV yX10_possibleTurns cX10_possibleTurns 6 mX10_possibleTurns 2 := ⟨⟨inG (mt5 (List.mem_of_getElem? (i := 200) rfl)) rfl, gi_RX10, ⟨by decide +kernel, by decide +kernel⟩, by decide +kernel, by decide +kernel, by decide, by decide⟩, inG (mt5 (List.mem_of_getElem? (i := 198) rfl)) rfl, inG (mt5 (List.mem_of_getElem? (i := 199) rfl)) rfl⟩
abbrev mX12_turnable : Mt := ((some .int), RX12, false, [])
set_option maxRecDepth 20000 in
theorem mvX12_turnable : MV yX12_turnable cX12_turnable 5 mX12_turnable 1 := ⟨⟨inG (mt7 (List.mem_of_getElem? (i := 112) rfl)) rfl, gi_RX12, ⟨by decide +kernel, by decide +kernel⟩, by decide +kernel, by decide +kernel, by decide, by decide⟩, inG (mt7 (List.mem_of_getElem? (i := 110) rfl)) rfl, inG (mt7 (List.mem_of_getElem? (i := 111) rfl)) rfl⟩
abbrev mL_count : Mt := ((some .int), RL, false, [(0, 9, 12, 20)])
set_option maxRecDepth 20000 in
theorem msL_count : MS yL_count cL_count 4 mL_count 3 := ⟨⟨inG (mt5 (List.mem_of_getElem? (i := 205) rfl)) rfl, gi_RL, ⟨by decide +kernel, by decide +kernel⟩, by decide +kernel, by decide +kernel, by decide, by decide⟩, inG (mt5 (List.mem_of_getElem? (i := 204) rfl)) rfl⟩
abbrev mX11_count : Mt := ((some .int), RX11, false, [])
set_option maxRecDepth 20000 in
theorem mvX11_count : MV yX11_count cX11_count 2 mX11_count 1 := ⟨⟨inG (mt5 (List.mem_of_getElem? (i := 209) rfl)) rfl, gi_RX11, ⟨by decide +kernel, by decide +kernel⟩, by decide +kernel, by decide +kernel, by decide, by decide⟩, inG (mt5 (List.mem_of_getElem? (i := 207) rfl)) rfl, inG (mt5 (List.mem_of_getElem? (i := 208) rfl)) rfl⟩
abbrev mX0_stepsMade : Mt := ((some .int), RX0, false, [])
set_option maxRecDepth 20000 in
theorem mvX0_stepsMade : MV yX0_stepsMade cX0_stepsMade 1 mX0_stepsMade 0 := ⟨⟨inG (mt5 (List.mem_of_getElem? (i := 213) rfl)) rfl, gi_RX0, ⟨by decide +kernel, by decide +kernel⟩, by decide +kernel, by decide +kernel, by decide, by decide⟩, inG (mt5 (List.mem_of_getElem? (i := 211) rfl)) rfl, inG (mt5 (List.mem_of_getElem? (i := 212) rfl)) rfl⟩
abbrev mX0_refusals : Mt := ((some .int), RX0, false, [])
set_option maxRecDepth 20000 in
theorem mvX0_refusals : MV yX0_refusals cX0_refusals 1 mX0_refusals 0 := ⟨⟨inG (mt5 (List.mem_of_getElem? (i := 217) rfl)) rfl, gi_RX0, ⟨by decide +kernel, by decide +kernel⟩, by decide +kernel, by decide +kernel, by decide, by decide⟩, inG (mt5 (List.mem_of_getElem? (i := 215) rfl)) rfl, inG (mt5 (List.mem_of_getElem? (i := 216) rfl)) rfl⟩
abbrev mX0_turnsMade : Mt := ((some .int), RX0, false, [])
set_option maxRecDepth 20000 in
theorem mvX0_turnsMade : MV yX0_turnsMade cX0_turnsMade 1 mX0_turnsMade 0 := ⟨⟨inG (mt5 (List.mem_of_getElem? (i := 221) rfl)) rfl, gi_RX0, ⟨by decide +kernel, by decide +kernel⟩, by decide +kernel, by decide +kernel, by decide, by decide⟩, inG (mt5 (List.mem_of_getElem? (i := 219) rfl)) rfl, inG (mt5 (List.mem_of_getElem? (i := 220) rfl)) rfl⟩
abbrev mX12_count : Mt := ((some .int), RX12, false, [])
set_option maxRecDepth 20000 in
theorem mvX12_count : MV yX12_count cX12_count 2 mX12_count 1 := ⟨⟨inG (mt7 (List.mem_of_getElem? (i := 116) rfl)) rfl, gi_RX12, ⟨by decide +kernel, by decide +kernel⟩, by decide +kernel, by decide +kernel, by decide, by decide⟩, inG (mt7 (List.mem_of_getElem? (i := 114) rfl)) rfl, inG (mt7 (List.mem_of_getElem? (i := 115) rfl)) rfl⟩
abbrev mX12_sitesInPaths : Mt := ((some .int), RX12, false, [])
set_option maxRecDepth 20000 in
theorem mvX12_sitesInPaths : MV yX12_sitesInPaths cX12_sitesInPaths 3 mX12_sitesInPaths 0 := ⟨⟨inG (mt7 (List.mem_of_getElem? (i := 120) rfl)) rfl, gi_RX12, ⟨by decide +kernel, by decide +kernel⟩, by decide +kernel, by decide +kernel, by decide, by decide⟩, inG (mt7 (List.mem_of_getElem? (i := 119) rfl)) rfl, inG (mp_ (List.mem_of_getElem? (i := 53) rfl)) rfl⟩
abbrev mL_spread : Mt := ((some .int), RL, false, [(0, 8, 11, 13)])
set_option maxRecDepth 20000 in
theorem msL_spread : MS yL_spread cL_spread 4 mL_spread 3 := ⟨⟨inG (mt5 (List.mem_of_getElem? (i := 224) rfl)) rfl, gi_RL, ⟨by decide +kernel, by decide +kernel⟩, by decide +kernel, by decide +kernel, by decide, by decide⟩, inG (mt5 (List.mem_of_getElem? (i := 223) rfl)) rfl⟩
abbrev mX11_spread : Mt := ((some .double), RX11, false, [])
set_option maxRecDepth 20000 in
theorem mvX11_spread : MV yX11_spread cX11_spread 5 mX11_spread 1 := ⟨⟨inG (mt5 (List.mem_of_getElem? (i := 228) rfl)) rfl, gi_RX11, ⟨by decide +kernel, by decide +kernel⟩, by decide +kernel, by decide +kernel, by decide, by decide⟩, inG (mt5 (List.mem_of_getElem? (i := 226) rfl)) rfl, inG (mt5 (List.mem_of_getElem? (i := 227) rfl)) rfl⟩
abbrev mX12_spread : Mt := ((some .double), RX12, false, [])
set_option maxRecDepth 20000 in
theorem mvX12_spread : MV yX12_spread cX12_spread 4 mX12_spread 1 := ⟨⟨inG (mt7 (List.mem_of_getElem? (i := 124) rfl)) rfl, gi_RX12, ⟨by decide +kernel, by decide +kernel⟩, by decide +kernel, by decide +kernel, by decide, by decide⟩, inG (mt7 (List.mem_of_getElem? (i := 122) rfl)) rfl, inG (mt7 (List.mem_of_getElem? (i := 123) rfl)) rfl⟩
abbrev mX11_share : Mt := ((some .float), RX11, false, [])
set_option maxRecDepth 20000 in
theorem mvX11_share : MV yX11_share cX11_share 1 mX11_share 0 := ⟨⟨inG (mt2 (List.mem_of_getElem? (i := 184) rfl)) rfl, gi_RX11, ⟨by decide +kernel, by decide +kernel⟩, by decide +kernel, by decide +kernel, by decide, by decide⟩, inG (mt2 (List.mem_of_getElem? (i := 182) rfl)) rfl, inG (mt2 (List.mem_of_getElem? (i := 183) rfl)) rfl⟩
abbrev mX12_share : Mt := ((some .float), RX12, false, [])
set_option maxRecDepth 20000 in
theorem mvX12_share : MV yX12_share cX12_share 1 mX12_share 0 := ⟨⟨inG (mt7 (List.mem_of_getElem? (i := 128) rfl)) rfl, gi_RX12, ⟨by decide +kernel, by decide +kernel⟩, by decide +kernel, by decide +kernel, by decide, by decide⟩, inG (mt7 (List.mem_of_getElem? (i := 126) rfl)) rfl, inG (mt7 (List.mem_of_getElem? (i := 127) rfl)) rfl⟩
set_option maxRecDepth 20000 in
theorem lkL_108 : Cond.methodLink RL 108 yX11_init ∈ GW := inG (mt1 (List.mem_of_getElem? (i := 30) rfl)) rfl
set_option maxRecDepth 20000 in
theorem lkX11_3 : Cond.methodLink RX11 3 objectInit ∈ GW := inG (mt1 (List.mem_of_getElem? (i := 33) rfl)) rfl
set_option maxRecDepth 20000 in
theorem lkX11_11 : Cond.methodLink RX11 11 yX0_init ∈ GW := inG (mt1 (List.mem_of_getElem? (i := 38) rfl)) rfl
set_option maxRecDepth 20000 in
theorem lkX0_3 : Cond.methodLink RX0 3 objectInit ∈ GW := inG (mt1 (List.mem_of_getElem? (i := 41) rfl)) rfl
set_option maxRecDepth 20000 in
theorem lkX9_3 : Cond.methodLink RX9 3 objectInit ∈ GW := inG (mt1 (List.mem_of_getElem? (i := 48) rfl)) rfl
set_option maxRecDepth 20000 in
theorem lkX0_25 : Cond.methodLink RX0 25 yJ7_fill_53178 ∈ GW := inG (mt1 (List.mem_of_getElem? (i := 57) rfl)) rfl
set_option maxRecDepth 20000 in
theorem lkX11_18 : Cond.methodLink RX11 18 yX1_init ∈ GW := inG (mt1 (List.mem_of_getElem? (i := 92) rfl)) rfl
set_option maxRecDepth 20000 in
theorem lkX1_3 : Cond.methodLink RX1 3 objectInit ∈ GW := inG (mt1 (List.mem_of_getElem? (i := 95) rfl)) rfl
set_option maxRecDepth 20000 in
theorem lkX5_3 : Cond.methodLink RX5 3 objectInit ∈ GW := inG (mt1 (List.mem_of_getElem? (i := 102) rfl)) rfl
set_option maxRecDepth 20000 in
theorem lkX11_25 : Cond.methodLink RX11 25 yX8_init ∈ GW := inG (mt1 (List.mem_of_getElem? (i := 134) rfl)) rfl
set_option maxRecDepth 20000 in
theorem lkX8_3 : Cond.methodLink RX8 3 objectInit ∈ GW := inG (mt1 (List.mem_of_getElem? (i := 137) rfl)) rfl
set_option maxRecDepth 20000 in
theorem lkX3_3 : Cond.methodLink RX3 3 objectInit ∈ GW := inG (mt1 (List.mem_of_getElem? (i := 153) rfl)) rfl
set_option maxRecDepth 20000 in
theorem lkX10_3 : Cond.methodLink RX10 3 objectInit ∈ GW := inG (mt1 (List.mem_of_getElem? (i := 169) rfl)) rfl
set_option maxRecDepth 20000 in
theorem lkX6_3 : Cond.methodLink RX6 3 objectInit ∈ GW := inG (mt1 (List.mem_of_getElem? (i := 179) rfl)) rfl
set_option maxRecDepth 20000 in
theorem lkX4_3 : Cond.methodLink RX4 3 objectInit ∈ GW := inG (mt1 (List.mem_of_getElem? (i := 189) rfl)) rfl
set_option maxRecDepth 20000 in
theorem lkX7_3 : Cond.methodLink RX7 3 objectInit ∈ GW := inG (mt1 (List.mem_of_getElem? (i := 211) rfl)) rfl
set_option maxRecDepth 20000 in
theorem lkL_111 : Cond.methodLink RL 111 yX12_init ∈ GW := inG (mt5 (List.mem_of_getElem? (i := 231) rfl)) rfl
set_option maxRecDepth 20000 in
theorem lkX12_1 : Cond.methodLink RX12 1 objectInit ∈ GW := inG (mt5 (List.mem_of_getElem? (i := 234) rfl)) rfl
set_option maxRecDepth 20000 in
theorem lkL_112 : Cond.methodLink RL 112 yL_start ∈ GW := inG (mt2 (List.mem_of_getElem? (i := 190) rfl)) rfl
set_option maxRecDepth 20000 in
theorem lkL_7 : Cond.methodLink RL 7 yX11_start ∈ GW := inG (mt2 (List.mem_of_getElem? (i := 195) rfl)) rfl
set_option maxRecDepth 20000 in
theorem lkX11_75 : Cond.methodLink RX11 75 yX11_checkedSite ∈ GW := inG (mt2 (List.mem_of_getElem? (i := 199) rfl)) rfl
set_option maxRecDepth 20000 in
theorem lkX11_336 : Cond.methodLink RX11 336 yX2_number ∈ GW := inG (mt2 (List.mem_of_getElem? (i := 202) rfl)) rfl
set_option maxRecDepth 20000 in
theorem lkX11_79 : Cond.methodLink RX11 79 yX0_isFree ∈ GW := inG (mt3 (List.mem_of_getElem? (i := 30) rfl)) rfl
set_option maxRecDepth 20000 in
theorem lkX0_50 : Cond.methodLink RX0 50 yX2_isSite ∈ GW := inG (mt2 (List.mem_of_getElem? (i := 178) rfl)) rfl
set_option maxRecDepth 20000 in
theorem lkX11_83 : Cond.methodLink RX11 83 yX0_isFull ∈ GW := inG (mt3 (List.mem_of_getElem? (i := 31) rfl)) rfl
set_option maxRecDepth 20000 in
theorem lkX11_94 : Cond.methodLink RX11 94 yX1_save ∈ GW := inG (mt3 (List.mem_of_getElem? (i := 51) rfl)) rfl
set_option maxRecDepth 20000 in
theorem lkX1_25 : Cond.methodLink RX1 25 yX5_take ∈ GW := inG (mt3 (List.mem_of_getElem? (i := 55) rfl)) rfl
set_option maxRecDepth 20000 in
theorem lkX5_29 : Cond.methodLink RX5 29 yX9_length ∈ GW := inG (mt3 (List.mem_of_getElem? (i := 59) rfl)) rfl
set_option maxRecDepth 20000 in
theorem lkX5_35 : Cond.methodLink RX5 35 yX9_at ∈ GW := inG (mt3 (List.mem_of_getElem? (i := 63) rfl)) rfl
set_option maxRecDepth 20000 in
theorem lkX9_19 : Cond.methodLink RX9 19 yX9_has ∈ GW := inG (mt2 (List.mem_of_getElem? (i := 150) rfl)) rfl
set_option maxRecDepth 20000 in
theorem lkX11_98 : Cond.methodLink RX11 98 yX9_begin ∈ GW := inG (mt3 (List.mem_of_getElem? (i := 64) rfl)) rfl
set_option maxRecDepth 20000 in
theorem lkX9_27 : Cond.methodLink RX9 27 yX9_clear ∈ GW := inG (mt3 (List.mem_of_getElem? (i := 68) rfl)) rfl
set_option maxRecDepth 20000 in
theorem lkX9_30 : Cond.methodLink RX9 30 yX9_push ∈ GW := inG (mt3 (List.mem_of_getElem? (i := 72) rfl)) rfl
set_option maxRecDepth 20000 in
theorem lkX9_34 : Cond.methodLink RX9 34 yX9_isFull ∈ GW := inG (mt3 (List.mem_of_getElem? (i := 76) rfl)) rfl
set_option maxRecDepth 20000 in
theorem lkX11_102 : Cond.methodLink RX11 102 yX0_add ∈ GW := inG (mt3 (List.mem_of_getElem? (i := 80) rfl)) rfl
set_option maxRecDepth 20000 in
theorem lkX0_65 : Cond.methodLink RX0 65 yX9_copyFrom ∈ GW := inG (mt3 (List.mem_of_getElem? (i := 84) rfl)) rfl
set_option maxRecDepth 20000 in
theorem lkX9_23 : Cond.methodLink RX9 23 yX9_at ∈ GW := inG (mt2 (List.mem_of_getElem? (i := 146) rfl)) rfl
set_option maxRecDepth 20000 in
theorem lkX0_69 : Cond.methodLink RX0 69 yX0_markSites ∈ GW := inG (mt3 (List.mem_of_getElem? (i := 88) rfl)) rfl
set_option maxRecDepth 20000 in
theorem lkX0_38 : Cond.methodLink RX0 38 yX9_length ∈ GW := inG (mt3 (List.mem_of_getElem? (i := 92) rfl)) rfl
set_option maxRecDepth 20000 in
theorem lkX0_42 : Cond.methodLink RX0 42 yX9_at ∈ GW := inG (mt3 (List.mem_of_getElem? (i := 93) rfl)) rfl
set_option maxRecDepth 20000 in
theorem lkX0_46 : Cond.methodLink RX0 46 yX0_mark ∈ GW := inG (mt3 (List.mem_of_getElem? (i := 94) rfl)) rfl
set_option maxRecDepth 20000 in
theorem lkL_117 : Cond.methodLink RL 117 yX12_start ∈ GW := inG (mt6 (List.mem_of_getElem? (i := 83) rfl)) rfl
set_option maxRecDepth 20000 in
theorem lkX12_62 : Cond.methodLink RX12 62 yX12_within ∈ GW := inG (mt6 (List.mem_of_getElem? (i := 72) rfl)) rfl
set_option maxRecDepth 20000 in
theorem lkX12_78 : Cond.methodLink RX12 78 yX12_fails ∈ GW := inG (mt6 (List.mem_of_getElem? (i := 64) rfl)) rfl
set_option maxRecDepth 20000 in
theorem lkX12_114 : Cond.methodLink RX12 114 yX12_lay ∈ GW := inG (mt6 (List.mem_of_getElem? (i := 87) rfl)) rfl
set_option maxRecDepth 20000 in
theorem lkX12_70 : Cond.methodLink RX12 70 yX12_lengthOf ∈ GW := inG (mt6 (List.mem_of_getElem? (i := 91) rfl)) rfl
set_option maxRecDepth 20000 in
theorem lkX12_74 : Cond.methodLink RX12 74 yX12_siteOf ∈ GW := inG (mt6 (List.mem_of_getElem? (i := 95) rfl)) rfl
set_option maxRecDepth 20000 in
theorem lkX12_81 : Cond.methodLink RX12 81 yX12_save ∈ GW := inG (mt6 (List.mem_of_getElem? (i := 79) rfl)) rfl
set_option maxRecDepth 20000 in
theorem lkX12_117 : Cond.methodLink RX12 117 yX12_addPath ∈ GW := inG (mt6 (List.mem_of_getElem? (i := 99) rfl)) rfl
set_option maxRecDepth 20000 in
theorem lkX12_104 : Cond.methodLink RX12 104 yX12_setSite ∈ GW := inG (mt6 (List.mem_of_getElem? (i := 103) rfl)) rfl
set_option maxRecDepth 20000 in
theorem lkL_118 : Cond.methodLink RL 118 yX12_thrown ∈ GW := inG (mt6 (List.mem_of_getElem? (i := 56) rfl)) rfl
set_option maxRecDepth 20000 in
theorem lkL_121 : Cond.methodLink RL 121 yL_step ∈ GW := inG (mt3 (List.mem_of_getElem? (i := 98) rfl)) rfl
set_option maxRecDepth 20000 in
theorem lkL_17 : Cond.methodLink RL 17 yX11_step ∈ GW := inG (mt3 (List.mem_of_getElem? (i := 102) rfl)) rfl
set_option maxRecDepth 20000 in
theorem lkX11_106 : Cond.methodLink RX11 106 yX11_checkPath ∈ GW := inG (mt3 (List.mem_of_getElem? (i := 106) rfl)) rfl
set_option maxRecDepth 20000 in
theorem lkX11_183 : Cond.methodLink RX11 183 yX0_pathCount ∈ GW := inG (mt2 (List.mem_of_getElem? (i := 134) rfl)) rfl
set_option maxRecDepth 20000 in
theorem lkX11_109 : Cond.methodLink RX11 109 yX11_checkDirection ∈ GW := inG (mt3 (List.mem_of_getElem? (i := 111) rfl)) rfl
set_option maxRecDepth 20000 in
theorem lkX11_186 : Cond.methodLink RX11 186 yX11_checkRange ∈ GW := inG (mt3 (List.mem_of_getElem? (i := 114) rfl)) rfl
set_option maxRecDepth 20000 in
theorem lkX11_112 : Cond.methodLink RX11 112 yX0_lengthen ∈ GW := inG (mt3 (List.mem_of_getElem? (i := 133) rfl)) rfl
set_option maxRecDepth 20000 in
theorem lkX0_72 : Cond.methodLink RX0 72 yX9_head ∈ GW := inG (mt3 (List.mem_of_getElem? (i := 137) rfl)) rfl
set_option maxRecDepth 20000 in
theorem lkX0_75 : Cond.methodLink RX0 75 yX2_neighbour ∈ GW := inG (mt2 (List.mem_of_getElem? (i := 158) rfl)) rfl
set_option maxRecDepth 20000 in
theorem lkX2_9 : Cond.methodLink RX2 9 yX2_column ∈ GW := inG (mt2 (List.mem_of_getElem? (i := 161) rfl)) rfl
set_option maxRecDepth 20000 in
theorem lkX2_19 : Cond.methodLink RX2 19 yX2_row ∈ GW := inG (mt2 (List.mem_of_getElem? (i := 166) rfl)) rfl
set_option maxRecDepth 20000 in
theorem lkX2_25 : Cond.methodLink RX2 25 yX2_number ∈ GW := inG (mt2 (List.mem_of_getElem? (i := 171) rfl)) rfl
set_option maxRecDepth 20000 in
theorem lkX0_79 : Cond.methodLink RX0 79 yX0_refusalAt ∈ GW := inG (mt3 (List.mem_of_getElem? (i := 138) rfl)) rfl
set_option maxRecDepth 20000 in
theorem lkX0_99 : Cond.methodLink RX0 99 yX0_pathAt ∈ GW := inG (mt3 (List.mem_of_getElem? (i := 142) rfl)) rfl
set_option maxRecDepth 20000 in
theorem lkX0_101 : Cond.methodLink RX0 101 yX0_isFree ∈ GW := inG (mt2 (List.mem_of_getElem? (i := 174) rfl)) rfl
set_option maxRecDepth 20000 in
theorem lkX0_82 : Cond.methodLink RX0 82 yX9_isFull ∈ GW := inG (mt3 (List.mem_of_getElem? (i := 146) rfl)) rfl
set_option maxRecDepth 20000 in
theorem lkX0_86 : Cond.methodLink RX0 86 yX9_push ∈ GW := inG (mt3 (List.mem_of_getElem? (i := 147) rfl)) rfl
set_option maxRecDepth 20000 in
theorem lkX0_90 : Cond.methodLink RX0 90 yX0_noteStep ∈ GW := inG (mt3 (List.mem_of_getElem? (i := 148) rfl)) rfl
set_option maxRecDepth 20000 in
theorem lkL_123 : Cond.methodLink RL 123 yX12_step ∈ GW := inG (mt6 (List.mem_of_getElem? (i := 107) rfl)) rfl
set_option maxRecDepth 20000 in
theorem lkX12_66 : Cond.methodLink RX12 66 yX12_isPath ∈ GW := inG (mt6 (List.mem_of_getElem? (i := 111) rfl)) rfl
set_option maxRecDepth 20000 in
theorem lkX12_121 : Cond.methodLink RX12 121 yX12_headOf ∈ GW := inG (mt6 (List.mem_of_getElem? (i := 115) rfl)) rfl
set_option maxRecDepth 20000 in
theorem lkX12_84 : Cond.methodLink RX12 84 yX12_next ∈ GW := inG (mt6 (List.mem_of_getElem? (i := 119) rfl)) rfl
set_option maxRecDepth 20000 in
theorem lkX12_124 : Cond.methodLink RX12 124 yX12_reason ∈ GW := inG (mt6 (List.mem_of_getElem? (i := 122) rfl)) rfl
set_option maxRecDepth 20000 in
theorem lkL_124 : Cond.methodLink RL 124 yL_back ∈ GW := inG (mt3 (List.mem_of_getElem? (i := 152) rfl)) rfl
set_option maxRecDepth 20000 in
theorem lkL_22 : Cond.methodLink RL 22 yX11_back ∈ GW := inG (mt3 (List.mem_of_getElem? (i := 155) rfl)) rfl
set_option maxRecDepth 20000 in
theorem lkX11_115 : Cond.methodLink RX11 115 yX0_trail ∈ GW := inG (mt2 (List.mem_of_getElem? (i := 138) rfl)) rfl
set_option maxRecDepth 20000 in
theorem lkX11_119 : Cond.methodLink RX11 119 yX9_length ∈ GW := inG (mt3 (List.mem_of_getElem? (i := 159) rfl)) rfl
set_option maxRecDepth 20000 in
theorem lkX11_125 : Cond.methodLink RX11 125 yX0_shorten ∈ GW := inG (mt3 (List.mem_of_getElem? (i := 161) rfl)) rfl
set_option maxRecDepth 20000 in
theorem lkX0_104 : Cond.methodLink RX0 104 yX9_endAt ∈ GW := inG (mt3 (List.mem_of_getElem? (i := 165) rfl)) rfl
set_option maxRecDepth 20000 in
theorem lkL_127 : Cond.methodLink RL 127 yX12_back ∈ GW := inG (mt6 (List.mem_of_getElem? (i := 126) rfl)) rfl
set_option maxRecDepth 20000 in
theorem lkL_128 : Cond.methodLink RL 128 yL_slither ∈ GW := inG (mt3 (List.mem_of_getElem? (i := 169) rfl)) rfl
set_option maxRecDepth 20000 in
theorem lkL_26 : Cond.methodLink RL 26 yX11_slither ∈ GW := inG (mt3 (List.mem_of_getElem? (i := 172) rfl)) rfl
set_option maxRecDepth 20000 in
theorem lkX11_129 : Cond.methodLink RX11 129 yX0_creep ∈ GW := inG (mt3 (List.mem_of_getElem? (i := 176) rfl)) rfl
set_option maxRecDepth 20000 in
theorem lkX0_93 : Cond.methodLink RX0 93 yX9_tail ∈ GW := inG (mt3 (List.mem_of_getElem? (i := 180) rfl)) rfl
set_option maxRecDepth 20000 in
theorem lkX0_96 : Cond.methodLink RX0 96 yX9_advanceTo ∈ GW := inG (mt3 (List.mem_of_getElem? (i := 184) rfl)) rfl
set_option maxRecDepth 20000 in
theorem lkX9_38 : Cond.methodLink RX9 38 yX9_put ∈ GW := inG (mt3 (List.mem_of_getElem? (i := 188) rfl)) rfl
set_option maxRecDepth 20000 in
theorem lkL_130 : Cond.methodLink RL 130 yX12_slither ∈ GW := inG (mt6 (List.mem_of_getElem? (i := 130) rfl)) rfl
set_option maxRecDepth 20000 in
theorem lkX12_108 : Cond.methodLink RX12 108 yX12_takeRow ∈ GW := inG (mt6 (List.mem_of_getElem? (i := 134) rfl)) rfl
set_option maxRecDepth 20000 in
theorem lkX12_111 : Cond.methodLink RX12 111 yX12_giveRow ∈ GW := inG (mt6 (List.mem_of_getElem? (i := 138) rfl)) rfl
set_option maxRecDepth 20000 in
theorem lkL_131 : Cond.methodLink RL 131 yL_turn ∈ GW := inG (mt3 (List.mem_of_getElem? (i := 192) rfl)) rfl
set_option maxRecDepth 20000 in
theorem lkL_29 : Cond.methodLink RL 29 yX11_turn ∈ GW := inG (mt3 (List.mem_of_getElem? (i := 195) rfl)) rfl
set_option maxRecDepth 20000 in
theorem lkX11_132 : Cond.methodLink RX11 132 yX11_checkPlace ∈ GW := inG (mt3 (List.mem_of_getElem? (i := 199) rfl)) rfl
set_option maxRecDepth 20000 in
theorem lkX11_343 : Cond.methodLink RX11 343 yX9_has ∈ GW := inG (mt3 (List.mem_of_getElem? (i := 203) rfl)) rfl
set_option maxRecDepth 20000 in
theorem lkX11_136 : Cond.methodLink RX11 136 yX11_checkQuarters ∈ GW := inG (mt3 (List.mem_of_getElem? (i := 205) rfl)) rfl
set_option maxRecDepth 20000 in
theorem lkX11_139 : Cond.methodLink RX11 139 yX10_refusal ∈ GW := inG (mt3 (List.mem_of_getElem? (i := 208) rfl)) rfl
set_option maxRecDepth 20000 in
theorem lkX10_15 : Cond.methodLink RX10 15 yX0_trail ∈ GW := inG (mt3 (List.mem_of_getElem? (i := 212) rfl)) rfl
set_option maxRecDepth 20000 in
theorem lkX10_21 : Cond.methodLink RX10 21 yX10_land ∈ GW := inG (mt3 (List.mem_of_getElem? (i := 213) rfl)) rfl
set_option maxRecDepth 20000 in
theorem lkX10_38 : Cond.methodLink RX10 38 yX9_at ∈ GW := inG (mt3 (List.mem_of_getElem? (i := 217) rfl)) rfl
set_option maxRecDepth 20000 in
theorem lkX10_25 : Cond.methodLink RX10 25 yX9_length ∈ GW := inG (mt3 (List.mem_of_getElem? (i := 218) rfl)) rfl
set_option maxRecDepth 20000 in
theorem lkX10_41 : Cond.methodLink RX10 41 yX10_swung ∈ GW := inG (mt3 (List.mem_of_getElem? (i := 219) rfl)) rfl
set_option maxRecDepth 20000 in
theorem lkX10_45 : Cond.methodLink RX10 45 yX2_column ∈ GW := inG (mt3 (List.mem_of_getElem? (i := 222) rfl)) rfl
set_option maxRecDepth 20000 in
theorem lkX10_50 : Cond.methodLink RX10 50 yX2_row ∈ GW := inG (mt3 (List.mem_of_getElem? (i := 223) rfl)) rfl
set_option maxRecDepth 20000 in
theorem lkX10_53 : Cond.methodLink RX10 53 yX2_number ∈ GW := inG (mt3 (List.mem_of_getElem? (i := 224) rfl)) rfl
set_option maxRecDepth 20000 in
theorem lkX10_31 : Cond.methodLink RX10 31 yX0_pathAt ∈ GW := inG (mt3 (List.mem_of_getElem? (i := 225) rfl)) rfl
set_option maxRecDepth 20000 in
theorem lkX10_35 : Cond.methodLink RX10 35 yX0_placeAt ∈ GW := inG (mt3 (List.mem_of_getElem? (i := 226) rfl)) rfl
set_option maxRecDepth 20000 in
theorem lkX11_143 : Cond.methodLink RX11 143 yX0_noteTurn ∈ GW := inG (mt3 (List.mem_of_getElem? (i := 230) rfl)) rfl
set_option maxRecDepth 20000 in
theorem lkX11_146 : Cond.methodLink RX11 146 yX10_moveSites ∈ GW := inG (mt3 (List.mem_of_getElem? (i := 234) rfl)) rfl
set_option maxRecDepth 20000 in
theorem lkX10_57 : Cond.methodLink RX10 57 yX9_put ∈ GW := inG (mt3 (List.mem_of_getElem? (i := 238) rfl)) rfl
set_option maxRecDepth 20000 in
theorem lkX10_61 : Cond.methodLink RX10 61 yX0_markSites ∈ GW := inG (mt3 (List.mem_of_getElem? (i := 239) rfl)) rfl
set_option maxRecDepth 20000 in
theorem lkL_134 : Cond.methodLink RL 134 yX12_turn ∈ GW := inG (mt6 (List.mem_of_getElem? (i := 142) rfl)) rfl
set_option maxRecDepth 20000 in
theorem lkX12_131 : Cond.methodLink RX12 131 yX12_isSite ∈ GW := inG (mt6 (List.mem_of_getElem? (i := 146) rfl)) rfl
set_option maxRecDepth 20000 in
theorem lkX12_134 : Cond.methodLink RX12 134 yX12_whyNotTurned ∈ GW := inG (mt6 (List.mem_of_getElem? (i := 150) rfl)) rfl
set_option maxRecDepth 20000 in
theorem lkX12_127 : Cond.methodLink RX12 127 yX12_turned ∈ GW := inG (mt6 (List.mem_of_getElem? (i := 154) rfl)) rfl
set_option maxRecDepth 20000 in
theorem lkL_135 : Cond.methodLink RL 135 yL_reverse ∈ GW := inG (mt4 (List.mem_of_getElem? (i := 0) rfl)) rfl
set_option maxRecDepth 20000 in
theorem lkL_33 : Cond.methodLink RL 33 yX11_reverse ∈ GW := inG (mt4 (List.mem_of_getElem? (i := 3) rfl)) rfl
set_option maxRecDepth 20000 in
theorem lkX11_150 : Cond.methodLink RX11 150 yX0_flip ∈ GW := inG (mt4 (List.mem_of_getElem? (i := 7) rfl)) rfl
set_option maxRecDepth 20000 in
theorem lkX0_107 : Cond.methodLink RX0 107 yX9_flip ∈ GW := inG (mt4 (List.mem_of_getElem? (i := 11) rfl)) rfl
set_option maxRecDepth 20000 in
theorem lkL_137 : Cond.methodLink RL 137 yX12_reverse ∈ GW := inG (mt6 (List.mem_of_getElem? (i := 157) rfl)) rfl
set_option maxRecDepth 20000 in
theorem lkX12_137 : Cond.methodLink RX12 137 yX12_reverseRow ∈ GW := inG (mt6 (List.mem_of_getElem? (i := 161) rfl)) rfl
set_option maxRecDepth 20000 in
theorem lkL_138 : Cond.methodLink RL 138 yL_join ∈ GW := inG (mt4 (List.mem_of_getElem? (i := 15) rfl)) rfl
set_option maxRecDepth 20000 in
theorem lkL_36 : Cond.methodLink RL 36 yX11_join ∈ GW := inG (mt4 (List.mem_of_getElem? (i := 18) rfl)) rfl
set_option maxRecDepth 20000 in
theorem lkX11_153 : Cond.methodLink RX11 153 yX11_checkTwoPaths ∈ GW := inG (mt4 (List.mem_of_getElem? (i := 22) rfl)) rfl
set_option maxRecDepth 20000 in
theorem lkX11_156 : Cond.methodLink RX11 156 yX9_head ∈ GW := inG (mt2 (List.mem_of_getElem? (i := 142) rfl)) rfl
set_option maxRecDepth 20000 in
theorem lkX11_159 : Cond.methodLink RX11 159 yX2_areNeighbours ∈ GW := inG (mt4 (List.mem_of_getElem? (i := 27) rfl)) rfl
set_option maxRecDepth 20000 in
theorem lkX2_32 : Cond.methodLink RX2 32 yX2_squaredDistance ∈ GW := inG (mt4 (List.mem_of_getElem? (i := 30) rfl)) rfl
set_option maxRecDepth 20000 in
theorem lkX11_167 : Cond.methodLink RX11 167 yX0_weld ∈ GW := inG (mt4 (List.mem_of_getElem? (i := 34) rfl)) rfl
set_option maxRecDepth 20000 in
theorem lkX0_110 : Cond.methodLink RX0 110 yX0_drop ∈ GW := inG (mt4 (List.mem_of_getElem? (i := 38) rfl)) rfl
set_option maxRecDepth 20000 in
theorem lkL_140 : Cond.methodLink RL 140 yX12_join ∈ GW := inG (mt6 (List.mem_of_getElem? (i := 165) rfl)) rfl
set_option maxRecDepth 20000 in
theorem lkX12_140 : Cond.methodLink RX12 140 yX12_direction ∈ GW := inG (mt6 (List.mem_of_getElem? (i := 169) rfl)) rfl
set_option maxRecDepth 20000 in
theorem lkX12_143 : Cond.methodLink RX12 143 yX12_dropPath ∈ GW := inG (mt6 (List.mem_of_getElem? (i := 172) rfl)) rfl
set_option maxRecDepth 20000 in
theorem lkL_141 : Cond.methodLink RL 141 yL_split ∈ GW := inG (mt4 (List.mem_of_getElem? (i := 42) rfl)) rfl
set_option maxRecDepth 20000 in
theorem lkL_39 : Cond.methodLink RL 39 yX11_split ∈ GW := inG (mt4 (List.mem_of_getElem? (i := 45) rfl)) rfl
set_option maxRecDepth 20000 in
theorem lkX11_177 : Cond.methodLink RX11 177 yX0_cut ∈ GW := inG (mt4 (List.mem_of_getElem? (i := 51) rfl)) rfl
set_option maxRecDepth 20000 in
theorem lkL_143 : Cond.methodLink RL 143 yX12_split ∈ GW := inG (mt6 (List.mem_of_getElem? (i := 176) rfl)) rfl
set_option maxRecDepth 20000 in
theorem lkL_144 : Cond.methodLink RL 144 yL_remove ∈ GW := inG (mt4 (List.mem_of_getElem? (i := 55) rfl)) rfl
set_option maxRecDepth 20000 in
theorem lkL_42 : Cond.methodLink RL 42 yX11_remove ∈ GW := inG (mt4 (List.mem_of_getElem? (i := 58) rfl)) rfl
set_option maxRecDepth 20000 in
theorem lkX11_180 : Cond.methodLink RX11 180 yX0_drop ∈ GW := inG (mt4 (List.mem_of_getElem? (i := 62) rfl)) rfl
set_option maxRecDepth 20000 in
theorem lkL_146 : Cond.methodLink RL 146 yX12_remove ∈ GW := inG (mt6 (List.mem_of_getElem? (i := 180) rfl)) rfl
set_option maxRecDepth 20000 in
theorem lkL_147 : Cond.methodLink RL 147 yL_append ∈ GW := inG (mt4 (List.mem_of_getElem? (i := 63) rfl)) rfl
set_option maxRecDepth 20000 in
theorem lkL_45 : Cond.methodLink RL 45 yX11_append ∈ GW := inG (mt4 (List.mem_of_getElem? (i := 66) rfl)) rfl
set_option maxRecDepth 20000 in
theorem lkX11_190 : Cond.methodLink RX11 190 yX3_isFull ∈ GW := inG (mt4 (List.mem_of_getElem? (i := 70) rfl)) rfl
set_option maxRecDepth 20000 in
theorem lkX11_193 : Cond.methodLink RX11 193 yX3_add ∈ GW := inG (mt4 (List.mem_of_getElem? (i := 75) rfl)) rfl
set_option maxRecDepth 20000 in
theorem lkX3_19 : Cond.methodLink RX3 19 yX3_isFull ∈ GW := inG (mt4 (List.mem_of_getElem? (i := 79) rfl)) rfl
set_option maxRecDepth 20000 in
theorem lkX11_196 : Cond.methodLink RX11 196 yX3_length ∈ GW := inG (mt2 (List.mem_of_getElem? (i := 23) rfl)) rfl
set_option maxRecDepth 20000 in
theorem lkL_149 : Cond.methodLink RL 149 yX12_append ∈ GW := inG (mt6 (List.mem_of_getElem? (i := 184) rfl)) rfl
set_option maxRecDepth 20000 in
theorem lkL_150 : Cond.methodLink RL 150 yX11_clearBuffer ∈ GW := inG (mt2 (List.mem_of_getElem? (i := 19) rfl)) rfl
set_option maxRecDepth 20000 in
theorem lkX11_197 : Cond.methodLink RX11 197 yX3_clear ∈ GW := inG (mt2 (List.mem_of_getElem? (i := 27) rfl)) rfl
set_option maxRecDepth 20000 in
theorem lkL_153 : Cond.methodLink RL 153 yX12_clearBuffer ∈ GW := inG (mt6 (List.mem_of_getElem? (i := 188) rfl)) rfl
set_option maxRecDepth 20000 in
theorem lkL_154 : Cond.methodLink RL 154 yX11_firstError ∈ GW := inG (mt2 (List.mem_of_getElem? (i := 31) rfl)) rfl
set_option maxRecDepth 20000 in
theorem lkX11_200 : Cond.methodLink RX11 200 yX3_errorIndex ∈ GW := inG (mt2 (List.mem_of_getElem? (i := 35) rfl)) rfl
set_option maxRecDepth 20000 in
theorem lkX3_23 : Cond.methodLink RX3 23 yX3_fits ∈ GW := inG (mt2 (List.mem_of_getElem? (i := 39) rfl)) rfl
set_option maxRecDepth 20000 in
theorem lkX3_33 : Cond.methodLink RX3 33 yJ0_indexOf_0f7a4 ∈ GW := inG (mt2 (List.mem_of_getElem? (i := 43) rfl)) rfl
set_option maxRecDepth 20000 in
theorem lkJ0_633 : Cond.methodLink RJ0 633 yJ0_indexOf_7cf53 ∈ GW := inG (mt2 (List.mem_of_getElem? (i := 47) rfl)) rfl
set_option maxRecDepth 20000 in
theorem lkJ0_492 : Cond.methodLink RJ0 492 yJ0_isLatin1_aae02 ∈ GW := inG (mt2 (List.mem_of_getElem? (i := 51) rfl)) rfl
set_option maxRecDepth 20000 in
theorem lkJ0_505 : Cond.methodLink RJ0 505 yJ0_length_8abf5 ∈ GW := inG (mt2 (List.mem_of_getElem? (i := 57) rfl)) rfl
set_option maxRecDepth 20000 in
theorem lkJ0_335 : Cond.methodLink RJ0 335 yJ0_coder_7d493 ∈ GW := inG (mt2 (List.mem_of_getElem? (i := 61) rfl)) rfl
set_option maxRecDepth 20000 in
theorem lkJ0_637 : Cond.methodLink RJ0 637 yJ1_indexOf_4cfef ∈ GW := inG (mt2 (List.mem_of_getElem? (i := 65) rfl)) rfl
set_option maxRecDepth 20000 in
theorem lkJ1_92 : Cond.methodLink RJ1 92 Lib.Math.max.name ∈ GW := inG (mt2 (List.mem_of_getElem? (i := 71) rfl)) rfl
set_option maxRecDepth 20000 in
theorem lkJ1_38 : Cond.methodLink RJ1 38 Lib.Math.min.name ∈ GW := inG (mt2 (List.mem_of_getElem? (i := 74) rfl)) rfl
set_option maxRecDepth 20000 in
theorem lkJ1_88 : Cond.methodLink RJ1 88 yJ1_canEncode_9a6ad ∈ GW := inG (mt2 (List.mem_of_getElem? (i := 68) rfl)) rfl
set_option maxRecDepth 20000 in
theorem lkJ1_95 : Cond.methodLink RJ1 95 yJ1_indexOfChar_4cfef ∈ GW := inG (mt2 (List.mem_of_getElem? (i := 77) rfl)) rfl
set_option maxRecDepth 20000 in
theorem lkJ0_640 : Cond.methodLink RJ0 640 yJ2_indexOf_4cfef ∈ GW := inG (mt2 (List.mem_of_getElem? (i := 80) rfl)) rfl
set_option maxRecDepth 20000 in
theorem lkJ2_224 : Cond.methodLink RJ2 224 Lib.Math.max.name ∈ GW := inG (mt2 (List.mem_of_getElem? (i := 83) rfl)) rfl
set_option maxRecDepth 20000 in
theorem lkJ2_183 : Cond.methodLink RJ2 183 Lib.Math.min.name ∈ GW := inG (mt2 (List.mem_of_getElem? (i := 84) rfl)) rfl
set_option maxRecDepth 20000 in
theorem lkJ2_228 : Cond.methodLink RJ2 228 yJ2_indexOfChar_4cfef ∈ GW := inG (mt2 (List.mem_of_getElem? (i := 86) rfl)) rfl
set_option maxRecDepth 20000 in
theorem lkJ2_96 : Cond.methodLink RJ2 96 yJ2_checkBoundsBeginEnd_d044e ∈ GW := inG (mt2 (List.mem_of_getElem? (i := 89) rfl)) rfl
set_option maxRecDepth 20000 in
theorem lkJ2_48 : Cond.methodLink RJ2 48 yJ2_length_9d52b ∈ GW := inG (mt2 (List.mem_of_getElem? (i := 92) rfl)) rfl
set_option maxRecDepth 20000 in
theorem lkJ2_241 : Cond.methodLink RJ2 241 yJ0_checkBoundsBeginEnd_23922 ∈ GW := inG (mt2 (List.mem_of_getElem? (i := 95) rfl)) rfl
set_option maxRecDepth 20000 in
theorem lkJ0_1062 : Cond.methodLink RJ0 1062 yJ3_checkFromToIndex_8c36e ∈ GW := inG (mt2 (List.mem_of_getElem? (i := 100) rfl)) rfl
set_option maxRecDepth 20000 in
theorem lkJ2_244 : Cond.methodLink RJ2 244 yJ2_indexOfCharUnsafe_4cfef ∈ GW := inG (mt2 (List.mem_of_getElem? (i := 103) rfl)) rfl
set_option maxRecDepth 20000 in
theorem lkJ2_71 : Cond.methodLink RJ2 71 yJ2_getChar_3b067 ∈ GW := inG (mt2 (List.mem_of_getElem? (i := 106) rfl)) rfl
set_option maxRecDepth 20000 in
theorem lkJ2_232 : Cond.methodLink RJ2 232 yJ2_indexOfSupplementary_4cfef ∈ GW := inG (mt2 (List.mem_of_getElem? (i := 115) rfl)) rfl
set_option maxRecDepth 20000 in
theorem lkJ2_164 : Cond.methodLink RJ2 164 yJ11_isValidCodePoint_9a6ad ∈ GW := inG (mt2 (List.mem_of_getElem? (i := 118) rfl)) rfl
set_option maxRecDepth 20000 in
theorem lkJ2_157 : Cond.methodLink RJ2 157 yJ11_highSurrogate_5068e ∈ GW := inG (mt2 (List.mem_of_getElem? (i := 121) rfl)) rfl
set_option maxRecDepth 20000 in
theorem lkJ2_161 : Cond.methodLink RJ2 161 yJ11_lowSurrogate_5068e ∈ GW := inG (mt2 (List.mem_of_getElem? (i := 125) rfl)) rfl
set_option maxRecDepth 20000 in
theorem lkL_157 : Cond.methodLink RL 157 yX12_firstError ∈ GW := inG (mt6 (List.mem_of_getElem? (i := 192) rfl)) rfl
set_option maxRecDepth 20000 in
theorem lkX12_158 : Cond.methodLink RX12 158 yX12_findError ∈ GW := inG (mt6 (List.mem_of_getElem? (i := 196) rfl)) rfl
set_option maxRecDepth 20000 in
theorem lkX12_155 : Cond.methodLink RX12 155 yX12_isGood ∈ GW := inG (mt6 (List.mem_of_getElem? (i := 200) rfl)) rfl
set_option maxRecDepth 20000 in
theorem lkX12_152 : Cond.methodLink RX12 152 yX12_directionOf ∈ GW := inG (mt6 (List.mem_of_getElem? (i := 204) rfl)) rfl
set_option maxRecDepth 20000 in
theorem lkX12_149 : Cond.methodLink RX12 149 yX12_letterOf ∈ GW := inG (mt6 (List.mem_of_getElem? (i := 207) rfl)) rfl
set_option maxRecDepth 20000 in
theorem lkL_158 : Cond.methodLink RL 158 yL_draw ∈ GW := inG (mt4 (List.mem_of_getElem? (i := 80) rfl)) rfl
set_option maxRecDepth 20000 in
theorem lkL_48 : Cond.methodLink RL 48 yX11_draw ∈ GW := inG (mt4 (List.mem_of_getElem? (i := 83) rfl)) rfl
set_option maxRecDepth 20000 in
theorem lkX11_203 : Cond.methodLink RX11 203 yX3_isComplete ∈ GW := inG (mt4 (List.mem_of_getElem? (i := 87) rfl)) rfl
set_option maxRecDepth 20000 in
theorem lkX3_27 : Cond.methodLink RX3 27 yX3_errorIndex ∈ GW := inG (mt4 (List.mem_of_getElem? (i := 91) rfl)) rfl
set_option maxRecDepth 20000 in
theorem lkX11_211 : Cond.methodLink RX11 211 yX3_layOut ∈ GW := inG (mt4 (List.mem_of_getElem? (i := 93) rfl)) rfl
set_option maxRecDepth 20000 in
theorem lkX3_39 : Cond.methodLink RX3 39 yX2_number ∈ GW := inG (mt4 (List.mem_of_getElem? (i := 97) rfl)) rfl
set_option maxRecDepth 20000 in
theorem lkX3_45 : Cond.methodLink RX3 45 yX0_isFree ∈ GW := inG (mt4 (List.mem_of_getElem? (i := 98) rfl)) rfl
set_option maxRecDepth 20000 in
theorem lkX3_51 : Cond.methodLink RX3 51 yX9_begin ∈ GW := inG (mt4 (List.mem_of_getElem? (i := 99) rfl)) rfl
set_option maxRecDepth 20000 in
theorem lkX3_57 : Cond.methodLink RX3 57 yX2_neighbour ∈ GW := inG (mt4 (List.mem_of_getElem? (i := 100) rfl)) rfl
set_option maxRecDepth 20000 in
theorem lkX3_60 : Cond.methodLink RX3 60 yX9_covers ∈ GW := inG (mt4 (List.mem_of_getElem? (i := 101) rfl)) rfl
set_option maxRecDepth 20000 in
theorem lkX3_63 : Cond.methodLink RX3 63 yX9_isFull ∈ GW := inG (mt4 (List.mem_of_getElem? (i := 105) rfl)) rfl
set_option maxRecDepth 20000 in
theorem lkX3_64 : Cond.methodLink RX3 64 yX9_push ∈ GW := inG (mt4 (List.mem_of_getElem? (i := 106) rfl)) rfl
set_option maxRecDepth 20000 in
theorem lkL_161 : Cond.methodLink RL 161 yX12_draw ∈ GW := inG (mt6 (List.mem_of_getElem? (i := 210) rfl)) rfl
set_option maxRecDepth 20000 in
theorem lkX12_161 : Cond.methodLink RX12 161 yX12_readsRow ∈ GW := inG (mt6 (List.mem_of_getElem? (i := 214) rfl)) rfl
set_option maxRecDepth 20000 in
theorem lkX12_87 : Cond.methodLink RX12 87 yX12_isFree ∈ GW := inG (mt6 (List.mem_of_getElem? (i := 218) rfl)) rfl
set_option maxRecDepth 20000 in
theorem lkL_162 : Cond.methodLink RL 162 yL_write ∈ GW := inG (mt4 (List.mem_of_getElem? (i := 108) rfl)) rfl
set_option maxRecDepth 20000 in
theorem lkL_52 : Cond.methodLink RL 52 yX11_write ∈ GW := inG (mt4 (List.mem_of_getElem? (i := 111) rfl)) rfl
set_option maxRecDepth 20000 in
theorem lkX11_217 : Cond.methodLink RX11 217 yX3_tell ∈ GW := inG (mt4 (List.mem_of_getElem? (i := 115) rfl)) rfl
set_option maxRecDepth 20000 in
theorem lkX3_67 : Cond.methodLink RX3 67 yX3_clear ∈ GW := inG (mt4 (List.mem_of_getElem? (i := 119) rfl)) rfl
set_option maxRecDepth 20000 in
theorem lkX3_70 : Cond.methodLink RX3 70 yX9_tail ∈ GW := inG (mt4 (List.mem_of_getElem? (i := 120) rfl)) rfl
set_option maxRecDepth 20000 in
theorem lkX3_73 : Cond.methodLink RX3 73 yX2_column ∈ GW := inG (mt4 (List.mem_of_getElem? (i := 121) rfl)) rfl
set_option maxRecDepth 20000 in
theorem lkX3_76 : Cond.methodLink RX3 76 yX3_add ∈ GW := inG (mt4 (List.mem_of_getElem? (i := 122) rfl)) rfl
set_option maxRecDepth 20000 in
theorem lkX3_80 : Cond.methodLink RX3 80 yX2_row ∈ GW := inG (mt4 (List.mem_of_getElem? (i := 123) rfl)) rfl
set_option maxRecDepth 20000 in
theorem lkX3_83 : Cond.methodLink RX3 83 yX9_steps ∈ GW := inG (mt4 (List.mem_of_getElem? (i := 124) rfl)) rfl
set_option maxRecDepth 20000 in
theorem lkX3_86 : Cond.methodLink RX3 86 yX9_stepAt ∈ GW := inG (mt4 (List.mem_of_getElem? (i := 128) rfl)) rfl
set_option maxRecDepth 20000 in
theorem lkX9_42 : Cond.methodLink RX9 42 yX2_direction ∈ GW := inG (mt4 (List.mem_of_getElem? (i := 132) rfl)) rfl
set_option maxRecDepth 20000 in
theorem lkX2_29 : Cond.methodLink RX2 29 yX2_neighbour ∈ GW := inG (mt4 (List.mem_of_getElem? (i := 135) rfl)) rfl
set_option maxRecDepth 20000 in
theorem lkX3_89 : Cond.methodLink RX3 89 yJ0_charAt_5068e ∈ GW := inG (mt4 (List.mem_of_getElem? (i := 136) rfl)) rfl
set_option maxRecDepth 20000 in
theorem lkJ0_495 : Cond.methodLink RJ0 495 yJ1_charAt_3b067 ∈ GW := inG (mt4 (List.mem_of_getElem? (i := 140) rfl)) rfl
set_option maxRecDepth 20000 in
theorem lkJ1_9 : Cond.methodLink RJ1 9 yJ0_checkIndex_df160 ∈ GW := inG (mt4 (List.mem_of_getElem? (i := 143) rfl)) rfl
set_option maxRecDepth 20000 in
theorem lkJ0_1059 : Cond.methodLink RJ0 1059 yJ3_checkIndex_8e157 ∈ GW := inG (mt4 (List.mem_of_getElem? (i := 146) rfl)) rfl
set_option maxRecDepth 20000 in
theorem lkJ0_498 : Cond.methodLink RJ0 498 yJ2_charAt_3b067 ∈ GW := inG (mt4 (List.mem_of_getElem? (i := 149) rfl)) rfl
set_option maxRecDepth 20000 in
theorem lkJ2_67 : Cond.methodLink RJ2 67 yJ2_checkIndex_2214a ∈ GW := inG (mt4 (List.mem_of_getElem? (i := 152) rfl)) rfl
set_option maxRecDepth 20000 in
theorem lkJ2_414 : Cond.methodLink RJ2 414 yJ0_checkIndex_df160 ∈ GW := inG (mt4 (List.mem_of_getElem? (i := 155) rfl)) rfl
set_option maxRecDepth 20000 in
theorem lkL_164 : Cond.methodLink RL 164 yX12_write ∈ GW := inG (mt6 (List.mem_of_getElem? (i := 222) rfl)) rfl
set_option maxRecDepth 20000 in
theorem lkL_165 : Cond.methodLink RL 165 yL_undo ∈ GW := inG (mt4 (List.mem_of_getElem? (i := 156) rfl)) rfl
set_option maxRecDepth 20000 in
theorem lkL_55 : Cond.methodLink RL 55 yX11_undo ∈ GW := inG (mt4 (List.mem_of_getElem? (i := 159) rfl)) rfl
set_option maxRecDepth 20000 in
theorem lkX11_221 : Cond.methodLink RX11 221 yX1_size ∈ GW := inG (mt4 (List.mem_of_getElem? (i := 163) rfl)) rfl
set_option maxRecDepth 20000 in
theorem lkX11_226 : Cond.methodLink RX11 226 yX1_restoreLast ∈ GW := inG (mt4 (List.mem_of_getElem? (i := 168) rfl)) rfl
set_option maxRecDepth 20000 in
theorem lkX1_29 : Cond.methodLink RX1 29 yX5_putInto ∈ GW := inG (mt4 (List.mem_of_getElem? (i := 172) rfl)) rfl
set_option maxRecDepth 20000 in
theorem lkX5_51 : Cond.methodLink RX5 51 yX9_clear ∈ GW := inG (mt4 (List.mem_of_getElem? (i := 176) rfl)) rfl
set_option maxRecDepth 20000 in
theorem lkX5_54 : Cond.methodLink RX5 54 yX9_push ∈ GW := inG (mt4 (List.mem_of_getElem? (i := 177) rfl)) rfl
set_option maxRecDepth 20000 in
theorem lkX5_58 : Cond.methodLink RX5 58 yX0_markSites ∈ GW := inG (mt4 (List.mem_of_getElem? (i := 178) rfl)) rfl
set_option maxRecDepth 20000 in
theorem lkL_167 : Cond.methodLink RL 167 yX12_undo ∈ GW := inG (mt6 (List.mem_of_getElem? (i := 60) rfl)) rfl
set_option maxRecDepth 20000 in
theorem lkL_168 : Cond.methodLink RL 168 yL_keep ∈ GW := inG (mt4 (List.mem_of_getElem? (i := 179) rfl)) rfl
set_option maxRecDepth 20000 in
theorem lkL_58 : Cond.methodLink RL 58 yX11_keep ∈ GW := inG (mt4 (List.mem_of_getElem? (i := 182) rfl)) rfl
set_option maxRecDepth 20000 in
theorem lkX11_229 : Cond.methodLink RX11 229 yX8_take ∈ GW := inG (mt4 (List.mem_of_getElem? (i := 186) rfl)) rfl
set_option maxRecDepth 20000 in
theorem lkX8_22 : Cond.methodLink RX8 22 yX5_take ∈ GW := inG (mt4 (List.mem_of_getElem? (i := 190) rfl)) rfl
set_option maxRecDepth 20000 in
theorem lkL_170 : Cond.methodLink RL 170 yX12_keep ∈ GW := inG (mt6 (List.mem_of_getElem? (i := 68) rfl)) rfl
set_option maxRecDepth 20000 in
theorem lkL_171 : Cond.methodLink RL 171 yL_goBack ∈ GW := inG (mt4 (List.mem_of_getElem? (i := 191) rfl)) rfl
set_option maxRecDepth 20000 in
theorem lkL_61 : Cond.methodLink RL 61 yX11_goBack ∈ GW := inG (mt4 (List.mem_of_getElem? (i := 194) rfl)) rfl
set_option maxRecDepth 20000 in
theorem lkX11_233 : Cond.methodLink RX11 233 yX8_isTaken ∈ GW := inG (mt4 (List.mem_of_getElem? (i := 198) rfl)) rfl
set_option maxRecDepth 20000 in
theorem lkX11_238 : Cond.methodLink RX11 238 yX8_putInto ∈ GW := inG (mt4 (List.mem_of_getElem? (i := 203) rfl)) rfl
set_option maxRecDepth 20000 in
theorem lkX8_26 : Cond.methodLink RX8 26 yX5_putInto ∈ GW := inG (mt4 (List.mem_of_getElem? (i := 207) rfl)) rfl
set_option maxRecDepth 20000 in
theorem lkL_173 : Cond.methodLink RL 173 yX12_goBack ∈ GW := inG (mt6 (List.mem_of_getElem? (i := 75) rfl)) rfl
set_option maxRecDepth 20000 in
theorem lkL_174 : Cond.methodLink RL 174 yL_site ∈ GW := inG (mt4 (List.mem_of_getElem? (i := 208) rfl)) rfl
set_option maxRecDepth 20000 in
theorem lkL_64 : Cond.methodLink RL 64 yX11_site ∈ GW := inG (mt4 (List.mem_of_getElem? (i := 211) rfl)) rfl
set_option maxRecDepth 20000 in
theorem lkX11_242 : Cond.methodLink RX11 242 yX0_pathAt ∈ GW := inG (mt4 (List.mem_of_getElem? (i := 215) rfl)) rfl
set_option maxRecDepth 20000 in
theorem lkX11_245 : Cond.methodLink RX11 245 yX0_placeAt ∈ GW := inG (mt4 (List.mem_of_getElem? (i := 216) rfl)) rfl
set_option maxRecDepth 20000 in
theorem lkX11_248 : Cond.methodLink RX11 248 yX0_freeDirections ∈ GW := inG (mt2 (List.mem_of_getElem? (i := 154) rfl)) rfl
set_option maxRecDepth 20000 in
theorem lkL_176 : Cond.methodLink RL 176 yX12_site ∈ GW := inG (mt6 (List.mem_of_getElem? (i := 226) rfl)) rfl
set_option maxRecDepth 20000 in
theorem lkX12_165 : Cond.methodLink RX12 165 yX12_freeAround ∈ GW := inG (mt6 (List.mem_of_getElem? (i := 230) rfl)) rfl
set_option maxRecDepth 20000 in
theorem lkL_177 : Cond.methodLink RL 177 yL_place ∈ GW := inG (mt4 (List.mem_of_getElem? (i := 217) rfl)) rfl
set_option maxRecDepth 20000 in
theorem lkL_67 : Cond.methodLink RL 67 yX11_place ∈ GW := inG (mt4 (List.mem_of_getElem? (i := 220) rfl)) rfl
set_option maxRecDepth 20000 in
theorem lkX11_251 : Cond.methodLink RX11 251 yX9_at ∈ GW := inG (mt4 (List.mem_of_getElem? (i := 224) rfl)) rfl
set_option maxRecDepth 20000 in
theorem lkL_179 : Cond.methodLink RL 179 yX12_place ∈ GW := inG (mt6 (List.mem_of_getElem? (i := 234) rfl)) rfl
set_option maxRecDepth 20000 in
theorem lkL_180 : Cond.methodLink RL 180 yL_path ∈ GW := inG (mt4 (List.mem_of_getElem? (i := 225) rfl)) rfl
set_option maxRecDepth 20000 in
theorem lkL_70 : Cond.methodLink RL 70 yX11_path ∈ GW := inG (mt4 (List.mem_of_getElem? (i := 228) rfl)) rfl
set_option maxRecDepth 20000 in
theorem lkX11_254 : Cond.methodLink RX11 254 yX9_corners ∈ GW := inG (mt4 (List.mem_of_getElem? (i := 232) rfl)) rfl
set_option maxRecDepth 20000 in
theorem lkX9_48 : Cond.methodLink RX9 48 yX9_steps ∈ GW := inG (mt4 (List.mem_of_getElem? (i := 236) rfl)) rfl
set_option maxRecDepth 20000 in
theorem lkX9_52 : Cond.methodLink RX9 52 yX9_stepAt ∈ GW := inG (mt4 (List.mem_of_getElem? (i := 237) rfl)) rfl
set_option maxRecDepth 20000 in
theorem lkX11_257 : Cond.methodLink RX11 257 yX0_contacts ∈ GW := inG (mt4 (List.mem_of_getElem? (i := 238) rfl)) rfl
set_option maxRecDepth 20000 in
theorem lkX0_115 : Cond.methodLink RX0 115 Lib.Math.abs.name ∈ GW := inG (mt5 (List.mem_of_getElem? (i := 3) rfl)) rfl
set_option maxRecDepth 20000 in
theorem lkX0_113 : Cond.methodLink RX0 113 yX0_placeAt ∈ GW := inG (mt5 (List.mem_of_getElem? (i := 2) rfl)) rfl
set_option maxRecDepth 20000 in
theorem lkX11_260 : Cond.methodLink RX11 260 yX9_width ∈ GW := inG (mt5 (List.mem_of_getElem? (i := 6) rfl)) rfl
set_option maxRecDepth 20000 in
theorem lkX9_58 : Cond.methodLink RX9 58 Lib.Math.min.name ∈ GW := inG (mt5 (List.mem_of_getElem? (i := 11) rfl)) rfl
set_option maxRecDepth 20000 in
theorem lkX9_63 : Cond.methodLink RX9 63 Lib.Math.max.name ∈ GW := inG (mt5 (List.mem_of_getElem? (i := 12) rfl)) rfl
set_option maxRecDepth 20000 in
theorem lkX9_55 : Cond.methodLink RX9 55 yX2_column ∈ GW := inG (mt5 (List.mem_of_getElem? (i := 10) rfl)) rfl
set_option maxRecDepth 20000 in
theorem lkX11_263 : Cond.methodLink RX11 263 yX9_height ∈ GW := inG (mt5 (List.mem_of_getElem? (i := 13) rfl)) rfl
set_option maxRecDepth 20000 in
theorem lkX9_66 : Cond.methodLink RX9 66 yX2_row ∈ GW := inG (mt5 (List.mem_of_getElem? (i := 17) rfl)) rfl
set_option maxRecDepth 20000 in
theorem lkX11_266 : Cond.methodLink RX11 266 yX9_tail ∈ GW := inG (mt5 (List.mem_of_getElem? (i := 18) rfl)) rfl
set_option maxRecDepth 20000 in
theorem lkX11_269 : Cond.methodLink RX11 269 yX2_squaredDistance ∈ GW := inG (mt5 (List.mem_of_getElem? (i := 19) rfl)) rfl
set_option maxRecDepth 20000 in
theorem lkX11_272 : Cond.methodLink RX11 272 yX9_moment ∈ GW := inG (mt5 (List.mem_of_getElem? (i := 20) rfl)) rfl
set_option maxRecDepth 20000 in
theorem lkX11_275 : Cond.methodLink RX11 275 yX0_freeBorder ∈ GW := inG (mt5 (List.mem_of_getElem? (i := 24) rfl)) rfl
set_option maxRecDepth 20000 in
theorem lkX0_120 : Cond.methodLink RX0 120 yX0_neighboursIn ∈ GW := inG (mt5 (List.mem_of_getElem? (i := 28) rfl)) rfl
set_option maxRecDepth 20000 in
theorem lkL_182 : Cond.methodLink RL 182 yX12_path ∈ GW := inG (mt6 (List.mem_of_getElem? (i := 238) rfl)) rfl
set_option maxRecDepth 20000 in
theorem lkX12_190 : Cond.methodLink RX12 190 yX12_tellsPath ∈ GW := inG (mt7 (List.mem_of_getElem? (i := 2) rfl)) rfl
set_option maxRecDepth 20000 in
theorem lkX12_174 : Cond.methodLink RX12 174 yX12_corners ∈ GW := inG (mt7 (List.mem_of_getElem? (i := 6) rfl)) rfl
set_option maxRecDepth 20000 in
theorem lkX12_168 : Cond.methodLink RX12 168 yX12_stepOf ∈ GW := inG (mt7 (List.mem_of_getElem? (i := 10) rfl)) rfl
set_option maxRecDepth 20000 in
theorem lkX12_177 : Cond.methodLink RX12 177 yX12_contacts ∈ GW := inG (mt7 (List.mem_of_getElem? (i := 14) rfl)) rfl
set_option maxRecDepth 20000 in
theorem lkX12_180 : Cond.methodLink RX12 180 yX12_span ∈ GW := inG (mt7 (List.mem_of_getElem? (i := 18) rfl)) rfl
set_option maxRecDepth 20000 in
theorem lkX12_171 : Cond.methodLink RX12 171 yX12_squared ∈ GW := inG (mt7 (List.mem_of_getElem? (i := 22) rfl)) rfl
set_option maxRecDepth 20000 in
theorem lkX12_184 : Cond.methodLink RX12 184 yX12_moment ∈ GW := inG (mt7 (List.mem_of_getElem? (i := 25) rfl)) rfl
set_option maxRecDepth 20000 in
theorem lkX12_187 : Cond.methodLink RX12 187 yX12_freeBeside ∈ GW := inG (mt7 (List.mem_of_getElem? (i := 29) rfl)) rfl
set_option maxRecDepth 20000 in
theorem lkL_183 : Cond.methodLink RL 183 yX11_trapped ∈ GW := inG (mt2 (List.mem_of_getElem? (i := 130) rfl)) rfl
set_option maxRecDepth 20000 in
theorem lkL_186 : Cond.methodLink RL 186 yX12_trapped ∈ GW := inG (mt7 (List.mem_of_getElem? (i := 33) rfl)) rfl
set_option maxRecDepth 20000 in
theorem lkL_187 : Cond.methodLink RL 187 yL_touching ∈ GW := inG (mt5 (List.mem_of_getElem? (i := 32) rfl)) rfl
set_option maxRecDepth 20000 in
theorem lkL_73 : Cond.methodLink RL 73 yX11_touching ∈ GW := inG (mt5 (List.mem_of_getElem? (i := 35) rfl)) rfl
set_option maxRecDepth 20000 in
theorem lkX11_278 : Cond.methodLink RX11 278 yX0_touchingPairs ∈ GW := inG (mt5 (List.mem_of_getElem? (i := 39) rfl)) rfl
set_option maxRecDepth 20000 in
theorem lkL_189 : Cond.methodLink RL 189 yX12_touching ∈ GW := inG (mt7 (List.mem_of_getElem? (i := 37) rfl)) rfl
set_option maxRecDepth 20000 in
theorem lkL_190 : Cond.methodLink RL 190 yL_shape ∈ GW := inG (mt5 (List.mem_of_getElem? (i := 43) rfl)) rfl
set_option maxRecDepth 20000 in
theorem lkL_76 : Cond.methodLink RL 76 yX11_shape ∈ GW := inG (mt5 (List.mem_of_getElem? (i := 46) rfl)) rfl
set_option maxRecDepth 20000 in
theorem lkX11_283 : Cond.methodLink RX11 283 yX7_find ∈ GW := inG (mt5 (List.mem_of_getElem? (i := 51) rfl)) rfl
set_option maxRecDepth 20000 in
theorem lkX7_24 : Cond.methodLink RX7 24 yX9_steps ∈ GW := inG (mt5 (List.mem_of_getElem? (i := 55) rfl)) rfl
set_option maxRecDepth 20000 in
theorem lkX7_33 : Cond.methodLink RX7 33 yX9_stepAt ∈ GW := inG (mt5 (List.mem_of_getElem? (i := 56) rfl)) rfl
set_option maxRecDepth 20000 in
theorem lkX7_37 : Cond.methodLink RX7 37 yX7_turned ∈ GW := inG (mt5 (List.mem_of_getElem? (i := 57) rfl)) rfl
set_option maxRecDepth 20000 in
theorem lkX7_41 : Cond.methodLink RX7 41 yJ7_fill_53178 ∈ GW := inG (mt5 (List.mem_of_getElem? (i := 60) rfl)) rfl
set_option maxRecDepth 20000 in
theorem lkX7_47 : Cond.methodLink RX7 47 yX7_consider ∈ GW := inG (mt5 (List.mem_of_getElem? (i := 61) rfl)) rfl
set_option maxRecDepth 20000 in
theorem lkX7_58 : Cond.methodLink RX7 58 arraycopyName ∈ GW := inG (mt5 (List.mem_of_getElem? (i := 72) rfl)) rfl
set_option maxRecDepth 20000 in
theorem lkX7_51 : Cond.methodLink RX7 51 yX7_mirrored ∈ GW := inG (mt5 (List.mem_of_getElem? (i := 65) rfl)) rfl
set_option maxRecDepth 20000 in
theorem lkX7_54 : Cond.methodLink RX7 54 yX7_isViewLess ∈ GW := inG (mt5 (List.mem_of_getElem? (i := 68) rfl)) rfl
set_option maxRecDepth 20000 in
theorem lkX11_286 : Cond.methodLink RX11 286 yX7_stepAt ∈ GW := inG (mt5 (List.mem_of_getElem? (i := 75) rfl)) rfl
set_option maxRecDepth 20000 in
theorem lkL_192 : Cond.methodLink RL 192 yX12_shape ∈ GW := inG (mt7 (List.mem_of_getElem? (i := 41) rfl)) rfl
set_option maxRecDepth 20000 in
theorem lkX12_197 : Cond.methodLink RX12 197 yX12_layShape ∈ GW := inG (mt7 (List.mem_of_getElem? (i := 45) rfl)) rfl
set_option maxRecDepth 20000 in
theorem lkX12_193 : Cond.methodLink RX12 193 yX12_laySteps ∈ GW := inG (mt7 (List.mem_of_getElem? (i := 49) rfl)) rfl
set_option maxRecDepth 20000 in
theorem lkL_193 : Cond.methodLink RL 193 yL_isAlike ∈ GW := inG (mt5 (List.mem_of_getElem? (i := 79) rfl)) rfl
set_option maxRecDepth 20000 in
theorem lkL_79 : Cond.methodLink RL 79 yX11_isAlike ∈ GW := inG (mt5 (List.mem_of_getElem? (i := 82) rfl)) rfl
set_option maxRecDepth 20000 in
theorem lkX11_289 : Cond.methodLink RX11 289 yX7_matches ∈ GW := inG (mt5 (List.mem_of_getElem? (i := 86) rfl)) rfl
set_option maxRecDepth 20000 in
theorem lkL_195 : Cond.methodLink RL 195 yX12_isAlike ∈ GW := inG (mt7 (List.mem_of_getElem? (i := 53) rfl)) rfl
set_option maxRecDepth 20000 in
theorem lkX12_200 : Cond.methodLink RX12 200 yX12_hasShapeOf ∈ GW := inG (mt7 (List.mem_of_getElem? (i := 57) rfl)) rfl
set_option maxRecDepth 20000 in
theorem lkL_196 : Cond.methodLink RL 196 yL_free ∈ GW := inG (mt5 (List.mem_of_getElem? (i := 90) rfl)) rfl
set_option maxRecDepth 20000 in
theorem lkL_83 : Cond.methodLink RL 83 yX11_free ∈ GW := inG (mt5 (List.mem_of_getElem? (i := 93) rfl)) rfl
set_option maxRecDepth 20000 in
theorem lkX11_293 : Cond.methodLink RX11 293 yX4_explore ∈ GW := inG (mt5 (List.mem_of_getElem? (i := 97) rfl)) rfl
set_option maxRecDepth 20000 in
theorem lkX4_25 : Cond.methodLink RX4 25 yJ7_fill_53178 ∈ GW := inG (mt5 (List.mem_of_getElem? (i := 101) rfl)) rfl
set_option maxRecDepth 20000 in
theorem lkX4_35 : Cond.methodLink RX4 35 yX4_isUnseen ∈ GW := inG (mt5 (List.mem_of_getElem? (i := 102) rfl)) rfl
set_option maxRecDepth 20000 in
theorem lkX4_49 : Cond.methodLink RX4 49 yX0_isFree ∈ GW := inG (mt5 (List.mem_of_getElem? (i := 106) rfl)) rfl
set_option maxRecDepth 20000 in
theorem lkX4_39 : Cond.methodLink RX4 39 yX4_flood ∈ GW := inG (mt5 (List.mem_of_getElem? (i := 107) rfl)) rfl
set_option maxRecDepth 20000 in
theorem lkX4_43 : Cond.methodLink RX4 43 yX2_neighbour ∈ GW := inG (mt5 (List.mem_of_getElem? (i := 111) rfl)) rfl
set_option maxRecDepth 20000 in
theorem lkX11_296 : Cond.methodLink RX11 296 yX0_takenSites ∈ GW := inG (mt2 (List.mem_of_getElem? (i := 185) rfl)) rfl
set_option maxRecDepth 20000 in
theorem lkX11_299 : Cond.methodLink RX11 299 yX4_size ∈ GW := inG (mt5 (List.mem_of_getElem? (i := 112) rfl)) rfl
set_option maxRecDepth 20000 in
theorem lkX11_300 : Cond.methodLink RX11 300 yX4_greatest ∈ GW := inG (mt5 (List.mem_of_getElem? (i := 116) rfl)) rfl
set_option maxRecDepth 20000 in
theorem lkX4_55 : Cond.methodLink RX4 55 Lib.Math.max.name ∈ GW := inG (mt5 (List.mem_of_getElem? (i := 120) rfl)) rfl
set_option maxRecDepth 20000 in
theorem lkX11_303 : Cond.methodLink RX11 303 yX11_regionsAtHeads ∈ GW := inG (mt5 (List.mem_of_getElem? (i := 121) rfl)) rfl
set_option maxRecDepth 20000 in
theorem lkX11_314 : Cond.methodLink RX11 314 yX4_chooseAround ∈ GW := inG (mt5 (List.mem_of_getElem? (i := 125) rfl)) rfl
set_option maxRecDepth 20000 in
theorem lkX4_60 : Cond.methodLink RX4 60 yX2_isSite ∈ GW := inG (mt5 (List.mem_of_getElem? (i := 129) rfl)) rfl
set_option maxRecDepth 20000 in
theorem lkX11_333 : Cond.methodLink RX11 333 yX4_chosenRegions ∈ GW := inG (mt5 (List.mem_of_getElem? (i := 130) rfl)) rfl
set_option maxRecDepth 20000 in
theorem lkL_198 : Cond.methodLink RL 198 yX12_free ∈ GW := inG (mt7 (List.mem_of_getElem? (i := 61) rfl)) rfl
set_option maxRecDepth 20000 in
theorem lkX12_203 : Cond.methodLink RX12 203 yX12_findRegions ∈ GW := inG (mt7 (List.mem_of_getElem? (i := 65) rfl)) rfl
set_option maxRecDepth 20000 in
theorem lkX12_93 : Cond.methodLink RX12 93 yX12_growRegion ∈ GW := inG (mt7 (List.mem_of_getElem? (i := 69) rfl)) rfl
set_option maxRecDepth 20000 in
theorem lkX12_97 : Cond.methodLink RX12 97 yX12_isBeside ∈ GW := inG (mt7 (List.mem_of_getElem? (i := 73) rfl)) rfl
set_option maxRecDepth 20000 in
theorem lkX12_206 : Cond.methodLink RX12 206 yX12_freeSites ∈ GW := inG (mt7 (List.mem_of_getElem? (i := 77) rfl)) rfl
set_option maxRecDepth 20000 in
theorem lkX12_209 : Cond.methodLink RX12 209 yX12_greatestRegion ∈ GW := inG (mt7 (List.mem_of_getElem? (i := 81) rfl)) rfl
set_option maxRecDepth 20000 in
theorem lkX12_212 : Cond.methodLink RX12 212 yX12_isBesideHead ∈ GW := inG (mt7 (List.mem_of_getElem? (i := 85) rfl)) rfl
set_option maxRecDepth 20000 in
theorem lkL_199 : Cond.methodLink RL 199 yL_ways ∈ GW := inG (mt5 (List.mem_of_getElem? (i := 134) rfl)) rfl
set_option maxRecDepth 20000 in
theorem lkL_86 : Cond.methodLink RL 86 yX11_ways ∈ GW := inG (mt5 (List.mem_of_getElem? (i := 137) rfl)) rfl
set_option maxRecDepth 20000 in
theorem lkX11_306 : Cond.methodLink RX11 306 yX6_rowsOfSteps ∈ GW := inG (mt5 (List.mem_of_getElem? (i := 141) rfl)) rfl
set_option maxRecDepth 20000 in
theorem lkX6_15 : Cond.methodLink RX6 15 yX6_survey ∈ GW := inG (mt5 (List.mem_of_getElem? (i := 145) rfl)) rfl
set_option maxRecDepth 20000 in
theorem lkX6_44 : Cond.methodLink RX6 44 yX0_isFree ∈ GW := inG (mt5 (List.mem_of_getElem? (i := 149) rfl)) rfl
set_option maxRecDepth 20000 in
theorem lkX6_19 : Cond.methodLink RX6 19 yX0_trail ∈ GW := inG (mt5 (List.mem_of_getElem? (i := 150) rfl)) rfl
set_option maxRecDepth 20000 in
theorem lkX6_25 : Cond.methodLink RX6 25 yX9_head ∈ GW := inG (mt5 (List.mem_of_getElem? (i := 151) rfl)) rfl
set_option maxRecDepth 20000 in
theorem lkX6_31 : Cond.methodLink RX6 31 yX6_rowsFrom ∈ GW := inG (mt5 (List.mem_of_getElem? (i := 152) rfl)) rfl
set_option maxRecDepth 20000 in
theorem lkX6_48 : Cond.methodLink RX6 48 Lib.Math.max.name ∈ GW := inG (mt5 (List.mem_of_getElem? (i := 160) rfl)) rfl
set_option maxRecDepth 20000 in
theorem lkX6_35 : Cond.methodLink RX6 35 yX2_neighbour ∈ GW := inG (mt5 (List.mem_of_getElem? (i := 155) rfl)) rfl
set_option maxRecDepth 20000 in
theorem lkX6_41 : Cond.methodLink RX6 41 yX6_rowsThrough ∈ GW := inG (mt5 (List.mem_of_getElem? (i := 156) rfl)) rfl
set_option maxRecDepth 20000 in
theorem lkX6_53 : Cond.methodLink RX6 53 yX2_isSite ∈ GW := inG (mt5 (List.mem_of_getElem? (i := 159) rfl)) rfl
set_option maxRecDepth 20000 in
theorem lkL_201 : Cond.methodLink RL 201 yX12_ways ∈ GW := inG (mt7 (List.mem_of_getElem? (i := 89) rfl)) rfl
set_option maxRecDepth 20000 in
theorem lkX12_215 : Cond.methodLink RX12 215 yX12_waysFrom ∈ GW := inG (mt7 (List.mem_of_getElem? (i := 93) rfl)) rfl
set_option maxRecDepth 20000 in
theorem lkL_202 : Cond.methodLink RL 202 yL_bestStep ∈ GW := inG (mt5 (List.mem_of_getElem? (i := 161) rfl)) rfl
set_option maxRecDepth 20000 in
theorem lkL_89 : Cond.methodLink RL 89 yX11_bestStep ∈ GW := inG (mt5 (List.mem_of_getElem? (i := 164) rfl)) rfl
set_option maxRecDepth 20000 in
theorem lkX11_310 : Cond.methodLink RX11 310 yX6_bestDirection ∈ GW := inG (mt5 (List.mem_of_getElem? (i := 168) rfl)) rfl
set_option maxRecDepth 20000 in
theorem lkL_204 : Cond.methodLink RL 204 yX12_bestStep ∈ GW := inG (mt7 (List.mem_of_getElem? (i := 97) rfl)) rfl
set_option maxRecDepth 20000 in
theorem lkL_205 : Cond.methodLink RL 205 yL_reach ∈ GW := inG (mt5 (List.mem_of_getElem? (i := 172) rfl)) rfl
set_option maxRecDepth 20000 in
theorem lkL_92 : Cond.methodLink RL 92 yX11_reach ∈ GW := inG (mt5 (List.mem_of_getElem? (i := 175) rfl)) rfl
set_option maxRecDepth 20000 in
theorem lkX11_317 : Cond.methodLink RX11 317 yX4_chosenSites ∈ GW := inG (mt5 (List.mem_of_getElem? (i := 179) rfl)) rfl
set_option maxRecDepth 20000 in
theorem lkL_207 : Cond.methodLink RL 207 yX12_reach ∈ GW := inG (mt7 (List.mem_of_getElem? (i := 101) rfl)) rfl
set_option maxRecDepth 20000 in
theorem lkL_208 : Cond.methodLink RL 208 yL_ifTurned ∈ GW := inG (mt5 (List.mem_of_getElem? (i := 183) rfl)) rfl
set_option maxRecDepth 20000 in
theorem lkL_95 : Cond.methodLink RL 95 yX11_ifTurned ∈ GW := inG (mt5 (List.mem_of_getElem? (i := 186) rfl)) rfl
set_option maxRecDepth 20000 in
theorem lkL_210 : Cond.methodLink RL 210 yX12_ifTurned ∈ GW := inG (mt7 (List.mem_of_getElem? (i := 105) rfl)) rfl
set_option maxRecDepth 20000 in
theorem lkL_211 : Cond.methodLink RL 211 yL_turnable ∈ GW := inG (mt5 (List.mem_of_getElem? (i := 190) rfl)) rfl
set_option maxRecDepth 20000 in
theorem lkL_98 : Cond.methodLink RL 98 yX11_turnable ∈ GW := inG (mt5 (List.mem_of_getElem? (i := 193) rfl)) rfl
set_option maxRecDepth 20000 in
theorem lkX11_320 : Cond.methodLink RX11 320 yX10_possibleTurns ∈ GW := inG (mt5 (List.mem_of_getElem? (i := 197) rfl)) rfl
set_option maxRecDepth 20000 in
theorem lkX10_64 : Cond.methodLink RX10 64 yX9_steps ∈ GW := inG (mt5 (List.mem_of_getElem? (i := 201) rfl)) rfl
set_option maxRecDepth 20000 in
theorem lkX10_67 : Cond.methodLink RX10 67 yX10_refusal ∈ GW := inG (mt5 (List.mem_of_getElem? (i := 202) rfl)) rfl
set_option maxRecDepth 20000 in
theorem lkL_213 : Cond.methodLink RL 213 yX12_turnable ∈ GW := inG (mt7 (List.mem_of_getElem? (i := 109) rfl)) rfl
set_option maxRecDepth 20000 in
theorem lkL_214 : Cond.methodLink RL 214 yL_count ∈ GW := inG (mt5 (List.mem_of_getElem? (i := 203) rfl)) rfl
set_option maxRecDepth 20000 in
theorem lkL_101 : Cond.methodLink RL 101 yX11_count ∈ GW := inG (mt5 (List.mem_of_getElem? (i := 206) rfl)) rfl
set_option maxRecDepth 20000 in
theorem lkX11_323 : Cond.methodLink RX11 323 yX0_stepsMade ∈ GW := inG (mt5 (List.mem_of_getElem? (i := 210) rfl)) rfl
set_option maxRecDepth 20000 in
theorem lkX11_326 : Cond.methodLink RX11 326 yX0_refusals ∈ GW := inG (mt5 (List.mem_of_getElem? (i := 214) rfl)) rfl
set_option maxRecDepth 20000 in
theorem lkX11_329 : Cond.methodLink RX11 329 yX0_turnsMade ∈ GW := inG (mt5 (List.mem_of_getElem? (i := 218) rfl)) rfl
set_option maxRecDepth 20000 in
theorem lkL_216 : Cond.methodLink RL 216 yX12_count ∈ GW := inG (mt7 (List.mem_of_getElem? (i := 113) rfl)) rfl
set_option maxRecDepth 20000 in
theorem lkX12_218 : Cond.methodLink RX12 218 yX12_sitesInPaths ∈ GW := inG (mt7 (List.mem_of_getElem? (i := 117) rfl)) rfl
set_option maxRecDepth 20000 in
theorem lkL_217 : Cond.methodLink RL 217 yL_spread ∈ GW := inG (mt5 (List.mem_of_getElem? (i := 222) rfl)) rfl
set_option maxRecDepth 20000 in
theorem lkL_104 : Cond.methodLink RL 104 yX11_spread ∈ GW := inG (mt5 (List.mem_of_getElem? (i := 225) rfl)) rfl
set_option maxRecDepth 20000 in
theorem lkL_220 : Cond.methodLink RL 220 yX12_spread ∈ GW := inG (mt7 (List.mem_of_getElem? (i := 121) rfl)) rfl
set_option maxRecDepth 20000 in
theorem lkL_221 : Cond.methodLink RL 221 yX11_share ∈ GW := inG (mt2 (List.mem_of_getElem? (i := 181) rfl)) rfl
set_option maxRecDepth 20000 in
theorem lkL_225 : Cond.methodLink RL 225 yX12_share ∈ GW := inG (mt7 (List.mem_of_getElem? (i := 125) rfl)) rfl
/-- what a kind's own tables say -/
def KT (ci : Nat) : Prop := ∃ (r : vw_C) (ty : Nat → FieldType), vwCl[ci]? = some r ∧ (∀ w ∈ u_ws r.1 r.2.1 r.2.2, w ∈ GW) ∧ (∀ k, k < r.2.2 → parseFieldDescriptor (r.2.1 k).2.2.1 = some (ty k)) ∧ (∀ a, a < r.2.2 → ∀ b, b < r.2.2 → a ≠ b → (r.2.1 a).2.1 ≠ (r.2.1 b).2.1)
def FL (own : String) (idx ci k : Nat) : Prop := KT ci ∧ ∃ r : vw_C, vwCl[ci]? = some r ∧ k < r.2.2 ∧ (r.2.1 k).1 = r.1 ∧ Cond.fieldLink own idx r.1 (r.2.1 k).2.1 (r.2.1 k).2.2.1 ∈ GW
set_option maxRecDepth 20000 in
theorem ly0_0 : u_lay RX0 TX0 0 ∈ GW := inG (mt1 (List.mem_of_getElem? (i := 73) rfl)) rfl
set_option maxRecDepth 20000 in
theorem ly0_1 : u_lay RX0 TX0 1 ∈ GW := inG (mt1 (List.mem_of_getElem? (i := 75) rfl)) rfl
set_option maxRecDepth 20000 in
theorem ly0_2 : u_lay RX0 TX0 2 ∈ GW := inG (mt1 (List.mem_of_getElem? (i := 77) rfl)) rfl
set_option maxRecDepth 20000 in
theorem ly0_3 : u_lay RX0 TX0 3 ∈ GW := inG (mt1 (List.mem_of_getElem? (i := 79) rfl)) rfl
set_option maxRecDepth 20000 in
theorem ly0_4 : u_lay RX0 TX0 4 ∈ GW := inG (mt1 (List.mem_of_getElem? (i := 81) rfl)) rfl
set_option maxRecDepth 20000 in
theorem ly0_5 : u_lay RX0 TX0 5 ∈ GW := inG (mt1 (List.mem_of_getElem? (i := 83) rfl)) rfl
set_option maxRecDepth 20000 in
theorem ly0_6 : u_lay RX0 TX0 6 ∈ GW := inG (mt1 (List.mem_of_getElem? (i := 85) rfl)) rfl
set_option maxRecDepth 20000 in
theorem ly0_7 : u_lay RX0 TX0 7 ∈ GW := inG (mt1 (List.mem_of_getElem? (i := 87) rfl)) rfl
theorem lys0 : ∀ w ∈ u_ws RX0 TX0 8, w ∈ GW := by
  intro w h
  obtain ⟨k, hk, rfl⟩ := List.mem_map.mp h
  have hk := List.mem_range.mp hk
  match k, hk with
  | 0, _ => exact ly0_0
  | 1, _ => exact ly0_1
  | 2, _ => exact ly0_2
  | 3, _ => exact ly0_3
  | 4, _ => exact ly0_4
  | 5, _ => exact ly0_5
  | 6, _ => exact ly0_6
  | 7, _ => exact ly0_7
theorem kt0 : KT 0 := ⟨(RX0, TX0, 8), tyX0, rfl, lys0, tyX0_ok, nmX0⟩
set_option maxRecDepth 20000 in
theorem ly1_0 : u_lay RX1 TX1 0 ∈ GW := inG (mt1 (List.mem_of_getElem? (i := 125) rfl)) rfl
set_option maxRecDepth 20000 in
theorem ly1_1 : u_lay RX1 TX1 1 ∈ GW := inG (mt1 (List.mem_of_getElem? (i := 127) rfl)) rfl
set_option maxRecDepth 20000 in
theorem ly1_2 : u_lay RX1 TX1 2 ∈ GW := inG (mt1 (List.mem_of_getElem? (i := 129) rfl)) rfl
theorem lys1 : ∀ w ∈ u_ws RX1 TX1 3, w ∈ GW := by
  intro w h
  obtain ⟨k, hk, rfl⟩ := List.mem_map.mp h
  have hk := List.mem_range.mp hk
  match k, hk with
  | 0, _ => exact ly1_0
  | 1, _ => exact ly1_1
  | 2, _ => exact ly1_2
theorem kt1 : KT 1 := ⟨(RX1, TX1, 3), tyX1, rfl, lys1, tyX1_ok, nmX1⟩
set_option maxRecDepth 20000 in
theorem ly2_0 : u_lay RX3 TX3 0 ∈ GW := inG (mt1 (List.mem_of_getElem? (i := 156) rfl)) rfl
set_option maxRecDepth 20000 in
theorem ly2_1 : u_lay RX3 TX3 1 ∈ GW := inG (mt1 (List.mem_of_getElem? (i := 158) rfl)) rfl
theorem lys2 : ∀ w ∈ u_ws RX3 TX3 2, w ∈ GW := by
  intro w h
  obtain ⟨k, hk, rfl⟩ := List.mem_map.mp h
  have hk := List.mem_range.mp hk
  match k, hk with
  | 0, _ => exact ly2_0
  | 1, _ => exact ly2_1
theorem kt2 : KT 2 := ⟨(RX3, TX3, 2), tyX3, rfl, lys2, tyX3_ok, nmX3⟩
set_option maxRecDepth 20000 in
theorem ly3_0 : u_lay RX4 TX4 0 ∈ GW := inG (mt1 (List.mem_of_getElem? (i := 195) rfl)) rfl
set_option maxRecDepth 20000 in
theorem ly3_1 : u_lay RX4 TX4 1 ∈ GW := inG (mt1 (List.mem_of_getElem? (i := 197) rfl)) rfl
set_option maxRecDepth 20000 in
theorem ly3_2 : u_lay RX4 TX4 2 ∈ GW := inG (mt1 (List.mem_of_getElem? (i := 199) rfl)) rfl
set_option maxRecDepth 20000 in
theorem ly3_3 : u_lay RX4 TX4 3 ∈ GW := inG (mt1 (List.mem_of_getElem? (i := 201) rfl)) rfl
set_option maxRecDepth 20000 in
theorem ly3_4 : u_lay RX4 TX4 4 ∈ GW := inG (mt1 (List.mem_of_getElem? (i := 203) rfl)) rfl
theorem lys3 : ∀ w ∈ u_ws RX4 TX4 5, w ∈ GW := by
  intro w h
  obtain ⟨k, hk, rfl⟩ := List.mem_map.mp h
  have hk := List.mem_range.mp hk
  match k, hk with
  | 0, _ => exact ly3_0
  | 1, _ => exact ly3_1
  | 2, _ => exact ly3_2
  | 3, _ => exact ly3_3
  | 4, _ => exact ly3_4
theorem kt3 : KT 3 := ⟨(RX4, TX4, 5), tyX4, rfl, lys3, tyX4_ok, nmX4⟩
set_option maxRecDepth 20000 in
theorem ly4_0 : u_lay RX5 TX5 0 ∈ GW := inG (mt1 (List.mem_of_getElem? (i := 109) rfl)) rfl
set_option maxRecDepth 20000 in
theorem ly4_1 : u_lay RX5 TX5 1 ∈ GW := inG (mt1 (List.mem_of_getElem? (i := 111) rfl)) rfl
set_option maxRecDepth 20000 in
theorem ly4_2 : u_lay RX5 TX5 2 ∈ GW := inG (mt1 (List.mem_of_getElem? (i := 113) rfl)) rfl
set_option maxRecDepth 20000 in
theorem ly4_3 : u_lay RX5 TX5 3 ∈ GW := inG (mt1 (List.mem_of_getElem? (i := 115) rfl)) rfl
set_option maxRecDepth 20000 in
theorem ly4_4 : u_lay RX5 TX5 4 ∈ GW := inG (mt1 (List.mem_of_getElem? (i := 117) rfl)) rfl
set_option maxRecDepth 20000 in
theorem ly4_5 : u_lay RX5 TX5 5 ∈ GW := inG (mt1 (List.mem_of_getElem? (i := 119) rfl)) rfl
theorem lys4 : ∀ w ∈ u_ws RX5 TX5 6, w ∈ GW := by
  intro w h
  obtain ⟨k, hk, rfl⟩ := List.mem_map.mp h
  have hk := List.mem_range.mp hk
  match k, hk with
  | 0, _ => exact ly4_0
  | 1, _ => exact ly4_1
  | 2, _ => exact ly4_2
  | 3, _ => exact ly4_3
  | 4, _ => exact ly4_4
  | 5, _ => exact ly4_5
theorem kt4 : KT 4 := ⟨(RX5, TX5, 6), tyX5, rfl, lys4, tyX5_ok, nmX5⟩
set_option maxRecDepth 20000 in
theorem ly5_0 : u_lay RX6 TX6 0 ∈ GW := inG (mt1 (List.mem_of_getElem? (i := 181) rfl)) rfl
theorem lys5 : ∀ w ∈ u_ws RX6 TX6 1, w ∈ GW := by
  intro w h
  obtain ⟨k, hk, rfl⟩ := List.mem_map.mp h
  have hk := List.mem_range.mp hk
  match k, hk with
  | 0, _ => exact ly5_0
theorem kt5 : KT 5 := ⟨(RX6, TX6, 1), tyX6, rfl, lys5, tyX6_ok, nmX6⟩
set_option maxRecDepth 20000 in
theorem ly6_0 : u_lay RX7 TX7 0 ∈ GW := inG (mt1 (List.mem_of_getElem? (i := 217) rfl)) rfl
set_option maxRecDepth 20000 in
theorem ly6_1 : u_lay RX7 TX7 1 ∈ GW := inG (mt1 (List.mem_of_getElem? (i := 219) rfl)) rfl
set_option maxRecDepth 20000 in
theorem ly6_2 : u_lay RX7 TX7 2 ∈ GW := inG (mt1 (List.mem_of_getElem? (i := 221) rfl)) rfl
set_option maxRecDepth 20000 in
theorem ly6_3 : u_lay RX7 TX7 3 ∈ GW := inG (mt1 (List.mem_of_getElem? (i := 223) rfl)) rfl
set_option maxRecDepth 20000 in
theorem ly6_4 : u_lay RX7 TX7 4 ∈ GW := inG (mt1 (List.mem_of_getElem? (i := 225) rfl)) rfl
theorem lys6 : ∀ w ∈ u_ws RX7 TX7 5, w ∈ GW := by
  intro w h
  obtain ⟨k, hk, rfl⟩ := List.mem_map.mp h
  have hk := List.mem_range.mp hk
  match k, hk with
  | 0, _ => exact ly6_0
  | 1, _ => exact ly6_1
  | 2, _ => exact ly6_2
  | 3, _ => exact ly6_3
  | 4, _ => exact ly6_4
theorem kt6 : KT 6 := ⟨(RX7, TX7, 5), tyX7, rfl, lys6, tyX7_ok, nmX7⟩
set_option maxRecDepth 20000 in
theorem ly7_0 : u_lay RX8 TX8 0 ∈ GW := inG (mt1 (List.mem_of_getElem? (i := 142) rfl)) rfl
set_option maxRecDepth 20000 in
theorem ly7_1 : u_lay RX8 TX8 1 ∈ GW := inG (mt1 (List.mem_of_getElem? (i := 144) rfl)) rfl
theorem lys7 : ∀ w ∈ u_ws RX8 TX8 2, w ∈ GW := by
  intro w h
  obtain ⟨k, hk, rfl⟩ := List.mem_map.mp h
  have hk := List.mem_range.mp hk
  match k, hk with
  | 0, _ => exact ly7_0
  | 1, _ => exact ly7_1
theorem kt7 : KT 7 := ⟨(RX8, TX8, 2), tyX8, rfl, lys7, tyX8_ok, nmX8⟩
set_option maxRecDepth 20000 in
theorem ly8_0 : u_lay RX9 TX9 0 ∈ GW := inG (mt1 (List.mem_of_getElem? (i := 51) rfl)) rfl
set_option maxRecDepth 20000 in
theorem ly8_1 : u_lay RX9 TX9 1 ∈ GW := inG (mt1 (List.mem_of_getElem? (i := 53) rfl)) rfl
theorem lys8 : ∀ w ∈ u_ws RX9 TX9 2, w ∈ GW := by
  intro w h
  obtain ⟨k, hk, rfl⟩ := List.mem_map.mp h
  have hk := List.mem_range.mp hk
  match k, hk with
  | 0, _ => exact ly8_0
  | 1, _ => exact ly8_1
theorem kt8 : KT 8 := ⟨(RX9, TX9, 2), tyX9, rfl, lys8, tyX9_ok, nmX9⟩
set_option maxRecDepth 20000 in
theorem ly9_0 : u_lay RX10 TX10 0 ∈ GW := inG (mt1 (List.mem_of_getElem? (i := 171) rfl)) rfl
theorem lys9 : ∀ w ∈ u_ws RX10 TX10 1, w ∈ GW := by
  intro w h
  obtain ⟨k, hk, rfl⟩ := List.mem_map.mp h
  have hk := List.mem_range.mp hk
  match k, hk with
  | 0, _ => exact ly9_0
theorem kt9 : KT 9 := ⟨(RX10, TX10, 1), tyX10, rfl, lys9, tyX10_ok, nmX10⟩
set_option maxRecDepth 20000 in
theorem ly10_0 : u_lay RX11 TX11 0 ∈ GW := inG (mt1 (List.mem_of_getElem? (i := 238) rfl)) rfl
set_option maxRecDepth 20000 in
theorem ly10_1 : u_lay RX11 TX11 1 ∈ GW := inG (mt2 (List.mem_of_getElem? (i := 0) rfl)) rfl
set_option maxRecDepth 20000 in
theorem ly10_2 : u_lay RX11 TX11 2 ∈ GW := inG (mt2 (List.mem_of_getElem? (i := 2) rfl)) rfl
set_option maxRecDepth 20000 in
theorem ly10_3 : u_lay RX11 TX11 3 ∈ GW := inG (mt2 (List.mem_of_getElem? (i := 4) rfl)) rfl
set_option maxRecDepth 20000 in
theorem ly10_4 : u_lay RX11 TX11 4 ∈ GW := inG (mt2 (List.mem_of_getElem? (i := 6) rfl)) rfl
set_option maxRecDepth 20000 in
theorem ly10_5 : u_lay RX11 TX11 5 ∈ GW := inG (mt2 (List.mem_of_getElem? (i := 8) rfl)) rfl
set_option maxRecDepth 20000 in
theorem ly10_6 : u_lay RX11 TX11 6 ∈ GW := inG (mt2 (List.mem_of_getElem? (i := 10) rfl)) rfl
set_option maxRecDepth 20000 in
theorem ly10_7 : u_lay RX11 TX11 7 ∈ GW := inG (mt2 (List.mem_of_getElem? (i := 12) rfl)) rfl
set_option maxRecDepth 20000 in
theorem ly10_8 : u_lay RX11 TX11 8 ∈ GW := inG (mt2 (List.mem_of_getElem? (i := 14) rfl)) rfl
set_option maxRecDepth 20000 in
theorem ly10_9 : u_lay RX11 TX11 9 ∈ GW := inG (mt2 (List.mem_of_getElem? (i := 16) rfl)) rfl
theorem lys10 : ∀ w ∈ u_ws RX11 TX11 10, w ∈ GW := by
  intro w h
  obtain ⟨k, hk, rfl⟩ := List.mem_map.mp h
  have hk := List.mem_range.mp hk
  match k, hk with
  | 0, _ => exact ly10_0
  | 1, _ => exact ly10_1
  | 2, _ => exact ly10_2
  | 3, _ => exact ly10_3
  | 4, _ => exact ly10_4
  | 5, _ => exact ly10_5
  | 6, _ => exact ly10_6
  | 7, _ => exact ly10_7
  | 8, _ => exact ly10_8
  | 9, _ => exact ly10_9
theorem kt10 : KT 10 := ⟨(RX11, TX11, 10), tyX11, rfl, lys10, tyX11_ok, nmX11⟩
set_option maxRecDepth 20000 in
theorem ly11_0 : u_lay RX12 TX12 0 ∈ GW := inG (mt6 (List.mem_of_getElem? (i := 15) rfl)) rfl
set_option maxRecDepth 20000 in
theorem ly11_1 : u_lay RX12 TX12 1 ∈ GW := inG (mt6 (List.mem_of_getElem? (i := 17) rfl)) rfl
set_option maxRecDepth 20000 in
theorem ly11_2 : u_lay RX12 TX12 2 ∈ GW := inG (mt6 (List.mem_of_getElem? (i := 19) rfl)) rfl
set_option maxRecDepth 20000 in
theorem ly11_3 : u_lay RX12 TX12 3 ∈ GW := inG (mt6 (List.mem_of_getElem? (i := 21) rfl)) rfl
set_option maxRecDepth 20000 in
theorem ly11_4 : u_lay RX12 TX12 4 ∈ GW := inG (mt6 (List.mem_of_getElem? (i := 23) rfl)) rfl
set_option maxRecDepth 20000 in
theorem ly11_5 : u_lay RX12 TX12 5 ∈ GW := inG (mt6 (List.mem_of_getElem? (i := 25) rfl)) rfl
set_option maxRecDepth 20000 in
theorem ly11_6 : u_lay RX12 TX12 6 ∈ GW := inG (mt6 (List.mem_of_getElem? (i := 27) rfl)) rfl
set_option maxRecDepth 20000 in
theorem ly11_7 : u_lay RX12 TX12 7 ∈ GW := inG (mt6 (List.mem_of_getElem? (i := 29) rfl)) rfl
set_option maxRecDepth 20000 in
theorem ly11_8 : u_lay RX12 TX12 8 ∈ GW := inG (mt6 (List.mem_of_getElem? (i := 31) rfl)) rfl
set_option maxRecDepth 20000 in
theorem ly11_9 : u_lay RX12 TX12 9 ∈ GW := inG (mt6 (List.mem_of_getElem? (i := 33) rfl)) rfl
set_option maxRecDepth 20000 in
theorem ly11_10 : u_lay RX12 TX12 10 ∈ GW := inG (mt6 (List.mem_of_getElem? (i := 35) rfl)) rfl
set_option maxRecDepth 20000 in
theorem ly11_11 : u_lay RX12 TX12 11 ∈ GW := inG (mt6 (List.mem_of_getElem? (i := 37) rfl)) rfl
set_option maxRecDepth 20000 in
theorem ly11_12 : u_lay RX12 TX12 12 ∈ GW := inG (mt6 (List.mem_of_getElem? (i := 39) rfl)) rfl
set_option maxRecDepth 20000 in
theorem ly11_13 : u_lay RX12 TX12 13 ∈ GW := inG (mt6 (List.mem_of_getElem? (i := 41) rfl)) rfl
set_option maxRecDepth 20000 in
theorem ly11_14 : u_lay RX12 TX12 14 ∈ GW := inG (mt6 (List.mem_of_getElem? (i := 43) rfl)) rfl
set_option maxRecDepth 20000 in
theorem ly11_15 : u_lay RX12 TX12 15 ∈ GW := inG (mt6 (List.mem_of_getElem? (i := 45) rfl)) rfl
set_option maxRecDepth 20000 in
theorem ly11_16 : u_lay RX12 TX12 16 ∈ GW := inG (mt6 (List.mem_of_getElem? (i := 47) rfl)) rfl
set_option maxRecDepth 20000 in
theorem ly11_17 : u_lay RX12 TX12 17 ∈ GW := inG (mt6 (List.mem_of_getElem? (i := 49) rfl)) rfl
set_option maxRecDepth 20000 in
theorem ly11_18 : u_lay RX12 TX12 18 ∈ GW := inG (mt6 (List.mem_of_getElem? (i := 51) rfl)) rfl
set_option maxRecDepth 20000 in
theorem ly11_19 : u_lay RX12 TX12 19 ∈ GW := inG (mt6 (List.mem_of_getElem? (i := 53) rfl)) rfl
theorem lys11 : ∀ w ∈ u_ws RX12 TX12 20, w ∈ GW := by
  intro w h
  obtain ⟨k, hk, rfl⟩ := List.mem_map.mp h
  have hk := List.mem_range.mp hk
  match k, hk with
  | 0, _ => exact ly11_0
  | 1, _ => exact ly11_1
  | 2, _ => exact ly11_2
  | 3, _ => exact ly11_3
  | 4, _ => exact ly11_4
  | 5, _ => exact ly11_5
  | 6, _ => exact ly11_6
  | 7, _ => exact ly11_7
  | 8, _ => exact ly11_8
  | 9, _ => exact ly11_9
  | 10, _ => exact ly11_10
  | 11, _ => exact ly11_11
  | 12, _ => exact ly11_12
  | 13, _ => exact ly11_13
  | 14, _ => exact ly11_14
  | 15, _ => exact ly11_15
  | 16, _ => exact ly11_16
  | 17, _ => exact ly11_17
  | 18, _ => exact ly11_18
  | 19, _ => exact ly11_19
  | k + 20, hk => exact absurd hk (by omega)
theorem kt11 : KT 11 := ⟨(RX12, TX12, 20), tyX12, rfl, lys11, tyX12_ok, nmX12⟩
set_option maxRecDepth 20000 in
theorem flX11_12 : FL RX11 12 10 0 := ⟨kt10, (RX11, TX11, 10), rfl, by decide, rfl, inG (mt1 (List.mem_of_getElem? (i := 228) rfl)) rfl⟩
set_option maxRecDepth 20000 in
theorem flX11_19 : FL RX11 19 10 1 := ⟨kt10, (RX11, TX11, 10), rfl, by decide, rfl, inG (mt1 (List.mem_of_getElem? (i := 229) rfl)) rfl⟩
set_option maxRecDepth 20000 in
theorem flX11_26 : FL RX11 26 10 2 := ⟨kt10, (RX11, TX11, 10), rfl, by decide, rfl, inG (mt1 (List.mem_of_getElem? (i := 230) rfl)) rfl⟩
set_option maxRecDepth 20000 in
theorem flX11_33 : FL RX11 33 10 3 := ⟨kt10, (RX11, TX11, 10), rfl, by decide, rfl, inG (mt1 (List.mem_of_getElem? (i := 231) rfl)) rfl⟩
set_option maxRecDepth 20000 in
theorem flX11_40 : FL RX11 40 10 4 := ⟨kt10, (RX11, TX11, 10), rfl, by decide, rfl, inG (mt1 (List.mem_of_getElem? (i := 232) rfl)) rfl⟩
set_option maxRecDepth 20000 in
theorem flX11_47 : FL RX11 47 10 5 := ⟨kt10, (RX11, TX11, 10), rfl, by decide, rfl, inG (mt1 (List.mem_of_getElem? (i := 233) rfl)) rfl⟩
set_option maxRecDepth 20000 in
theorem flX11_54 : FL RX11 54 10 6 := ⟨kt10, (RX11, TX11, 10), rfl, by decide, rfl, inG (mt1 (List.mem_of_getElem? (i := 234) rfl)) rfl⟩
set_option maxRecDepth 20000 in
theorem flX11_61 : FL RX11 61 10 7 := ⟨kt10, (RX11, TX11, 10), rfl, by decide, rfl, inG (mt1 (List.mem_of_getElem? (i := 235) rfl)) rfl⟩
set_option maxRecDepth 20000 in
theorem flX11_68 : FL RX11 68 10 8 := ⟨kt10, (RX11, TX11, 10), rfl, by decide, rfl, inG (mt1 (List.mem_of_getElem? (i := 236) rfl)) rfl⟩
set_option maxRecDepth 20000 in
theorem flX11_72 : FL RX11 72 10 9 := ⟨kt10, (RX11, TX11, 10), rfl, by decide, rfl, inG (mt1 (List.mem_of_getElem? (i := 237) rfl)) rfl⟩
set_option maxRecDepth 20000 in
theorem flX0_11 : FL RX0 11 0 0 := ⟨kt0, (RX0, TX0, 8), rfl, by decide, rfl, inG (mt1 (List.mem_of_getElem? (i := 60) rfl)) rfl⟩
set_option maxRecDepth 20000 in
theorem flX0_17 : FL RX0 17 0 5 := ⟨kt0, (RX0, TX0, 8), rfl, by decide, rfl, inG (mt1 (List.mem_of_getElem? (i := 70) rfl)) rfl⟩
set_option maxRecDepth 20000 in
theorem flX0_21 : FL RX0 21 0 6 := ⟨kt0, (RX0, TX0, 8), rfl, by decide, rfl, inG (mt1 (List.mem_of_getElem? (i := 71) rfl)) rfl⟩
set_option maxRecDepth 20000 in
theorem flX9_9 : FL RX9 9 8 0 := ⟨kt8, (RX9, TX9, 2), rfl, by decide, rfl, inG (mt1 (List.mem_of_getElem? (i := 49) rfl)) rfl⟩
set_option maxRecDepth 20000 in
theorem flX1_11 : FL RX1 11 1 0 := ⟨kt1, (RX1, TX1, 3), rfl, by decide, rfl, inG (mt1 (List.mem_of_getElem? (i := 122) rfl)) rfl⟩
set_option maxRecDepth 20000 in
theorem flX5_9 : FL RX5 9 4 0 := ⟨kt4, (RX5, TX5, 6), rfl, by decide, rfl, inG (mt1 (List.mem_of_getElem? (i := 103) rfl)) rfl⟩
set_option maxRecDepth 20000 in
theorem flX5_15 : FL RX5 15 4 1 := ⟨kt4, (RX5, TX5, 6), rfl, by decide, rfl, inG (mt1 (List.mem_of_getElem? (i := 104) rfl)) rfl⟩
set_option maxRecDepth 20000 in
theorem flX8_11 : FL RX8 11 7 0 := ⟨kt7, (RX8, TX8, 2), rfl, by decide, rfl, inG (mt1 (List.mem_of_getElem? (i := 140) rfl)) rfl⟩
set_option maxRecDepth 20000 in
theorem flX8_17 : FL RX8 17 7 1 := ⟨kt7, (RX8, TX8, 2), rfl, by decide, rfl, inG (mt1 (List.mem_of_getElem? (i := 141) rfl)) rfl⟩
set_option maxRecDepth 20000 in
theorem flX3_9 : FL RX3 9 2 0 := ⟨kt2, (RX3, TX3, 2), rfl, by decide, rfl, inG (mt1 (List.mem_of_getElem? (i := 154) rfl)) rfl⟩
set_option maxRecDepth 20000 in
theorem flX10_9 : FL RX10 9 9 0 := ⟨kt9, (RX10, TX10, 1), rfl, by decide, rfl, inG (mt1 (List.mem_of_getElem? (i := 170) rfl)) rfl⟩
set_option maxRecDepth 20000 in
theorem flX6_9 : FL RX6 9 5 0 := ⟨kt5, (RX6, TX6, 1), rfl, by decide, rfl, inG (mt1 (List.mem_of_getElem? (i := 180) rfl)) rfl⟩
set_option maxRecDepth 20000 in
theorem flX4_9 : FL RX4 9 3 0 := ⟨kt3, (RX4, TX4, 5), rfl, by decide, rfl, inG (mt1 (List.mem_of_getElem? (i := 190) rfl)) rfl⟩
set_option maxRecDepth 20000 in
theorem flX4_15 : FL RX4 15 3 1 := ⟨kt3, (RX4, TX4, 5), rfl, by decide, rfl, inG (mt1 (List.mem_of_getElem? (i := 191) rfl)) rfl⟩
set_option maxRecDepth 20000 in
theorem flX4_18 : FL RX4 18 3 2 := ⟨kt3, (RX4, TX4, 5), rfl, by decide, rfl, inG (mt1 (List.mem_of_getElem? (i := 192) rfl)) rfl⟩
set_option maxRecDepth 20000 in
theorem flX4_22 : FL RX4 22 3 3 := ⟨kt3, (RX4, TX4, 5), rfl, by decide, rfl, inG (mt1 (List.mem_of_getElem? (i := 193) rfl)) rfl⟩
set_option maxRecDepth 20000 in
theorem flX7_9 : FL RX7 9 6 0 := ⟨kt6, (RX7, TX7, 5), rfl, by decide, rfl, inG (mt1 (List.mem_of_getElem? (i := 212) rfl)) rfl⟩
set_option maxRecDepth 20000 in
theorem flX7_15 : FL RX7 15 6 1 := ⟨kt6, (RX7, TX7, 5), rfl, by decide, rfl, inG (mt1 (List.mem_of_getElem? (i := 213) rfl)) rfl⟩
set_option maxRecDepth 20000 in
theorem flX7_18 : FL RX7 18 6 2 := ⟨kt6, (RX7, TX7, 5), rfl, by decide, rfl, inG (mt1 (List.mem_of_getElem? (i := 214) rfl)) rfl⟩
set_option maxRecDepth 20000 in
theorem flX7_21 : FL RX7 21 6 3 := ⟨kt6, (RX7, TX7, 5), rfl, by decide, rfl, inG (mt1 (List.mem_of_getElem? (i := 215) rfl)) rfl⟩
set_option maxRecDepth 20000 in
theorem flX12_7 : FL RX12 7 11 1 := ⟨kt11, (RX12, TX12, 20), rfl, by decide, rfl, inG (mt5 (List.mem_of_getElem? (i := 236) rfl)) rfl⟩
set_option maxRecDepth 20000 in
theorem flX12_13 : FL RX12 13 11 2 := ⟨kt11, (RX12, TX12, 20), rfl, by decide, rfl, inG (mt5 (List.mem_of_getElem? (i := 237) rfl)) rfl⟩
set_option maxRecDepth 20000 in
theorem flX12_16 : FL RX12 16 11 4 := ⟨kt11, (RX12, TX12, 20), rfl, by decide, rfl, inG (mt5 (List.mem_of_getElem? (i := 239) rfl)) rfl⟩
set_option maxRecDepth 20000 in
theorem flX12_19 : FL RX12 19 11 5 := ⟨kt11, (RX12, TX12, 20), rfl, by decide, rfl, inG (mt6 (List.mem_of_getElem? (i := 0) rfl)) rfl⟩
set_option maxRecDepth 20000 in
theorem flX12_22 : FL RX12 22 11 6 := ⟨kt11, (RX12, TX12, 20), rfl, by decide, rfl, inG (mt6 (List.mem_of_getElem? (i := 1) rfl)) rfl⟩
set_option maxRecDepth 20000 in
theorem flX12_25 : FL RX12 25 11 8 := ⟨kt11, (RX12, TX12, 20), rfl, by decide, rfl, inG (mt6 (List.mem_of_getElem? (i := 3) rfl)) rfl⟩
set_option maxRecDepth 20000 in
theorem flX12_28 : FL RX12 28 11 9 := ⟨kt11, (RX12, TX12, 20), rfl, by decide, rfl, inG (mt6 (List.mem_of_getElem? (i := 4) rfl)) rfl⟩
set_option maxRecDepth 20000 in
theorem flX12_31 : FL RX12 31 11 10 := ⟨kt11, (RX12, TX12, 20), rfl, by decide, rfl, inG (mt6 (List.mem_of_getElem? (i := 5) rfl)) rfl⟩
set_option maxRecDepth 20000 in
theorem flX12_34 : FL RX12 34 11 11 := ⟨kt11, (RX12, TX12, 20), rfl, by decide, rfl, inG (mt6 (List.mem_of_getElem? (i := 6) rfl)) rfl⟩
set_option maxRecDepth 20000 in
theorem flX12_37 : FL RX12 37 11 13 := ⟨kt11, (RX12, TX12, 20), rfl, by decide, rfl, inG (mt6 (List.mem_of_getElem? (i := 8) rfl)) rfl⟩
set_option maxRecDepth 20000 in
theorem flX12_40 : FL RX12 40 11 15 := ⟨kt11, (RX12, TX12, 20), rfl, by decide, rfl, inG (mt6 (List.mem_of_getElem? (i := 10) rfl)) rfl⟩
set_option maxRecDepth 20000 in
theorem flX12_43 : FL RX12 43 11 16 := ⟨kt11, (RX12, TX12, 20), rfl, by decide, rfl, inG (mt6 (List.mem_of_getElem? (i := 11) rfl)) rfl⟩
set_option maxRecDepth 20000 in
theorem flX12_46 : FL RX12 46 11 17 := ⟨kt11, (RX12, TX12, 20), rfl, by decide, rfl, inG (mt6 (List.mem_of_getElem? (i := 12) rfl)) rfl⟩
set_option maxRecDepth 20000 in
theorem flX12_49 : FL RX12 49 11 18 := ⟨kt11, (RX12, TX12, 20), rfl, by decide, rfl, inG (mt6 (List.mem_of_getElem? (i := 13) rfl)) rfl⟩
set_option maxRecDepth 20000 in
theorem flX12_52 : FL RX12 52 11 19 := ⟨kt11, (RX12, TX12, 20), rfl, by decide, rfl, inG (mt6 (List.mem_of_getElem? (i := 14) rfl)) rfl⟩
set_option maxRecDepth 20000 in
theorem flX12_55 : FL RX12 55 11 3 := ⟨kt11, (RX12, TX12, 20), rfl, by decide, rfl, inG (mt5 (List.mem_of_getElem? (i := 238) rfl)) rfl⟩
set_option maxRecDepth 20000 in
theorem flX0_35 : FL RX0 35 0 1 := ⟨kt0, (RX0, TX0, 8), rfl, by decide, rfl, inG (mt1 (List.mem_of_getElem? (i := 63) rfl)) rfl⟩
set_option maxRecDepth 20000 in
theorem flX1_18 : FL RX1 18 1 2 := ⟨kt1, (RX1, TX1, 3), rfl, by decide, rfl, inG (mt1 (List.mem_of_getElem? (i := 124) rfl)) rfl⟩
set_option maxRecDepth 20000 in
theorem flX1_22 : FL RX1 22 1 1 := ⟨kt1, (RX1, TX1, 3), rfl, by decide, rfl, inG (mt1 (List.mem_of_getElem? (i := 123) rfl)) rfl⟩
set_option maxRecDepth 20000 in
theorem flX5_24 : FL RX5 24 4 2 := ⟨kt4, (RX5, TX5, 6), rfl, by decide, rfl, inG (mt1 (List.mem_of_getElem? (i := 105) rfl)) rfl⟩
set_option maxRecDepth 20000 in
theorem flX5_42 : FL RX5 42 4 3 := ⟨kt4, (RX5, TX5, 6), rfl, by decide, rfl, inG (mt1 (List.mem_of_getElem? (i := 106) rfl)) rfl⟩
set_option maxRecDepth 20000 in
theorem flX5_46 : FL RX5 46 4 4 := ⟨kt4, (RX5, TX5, 6), rfl, by decide, rfl, inG (mt1 (List.mem_of_getElem? (i := 107) rfl)) rfl⟩
set_option maxRecDepth 20000 in
theorem flX5_50 : FL RX5 50 4 5 := ⟨kt4, (RX5, TX5, 6), rfl, by decide, rfl, inG (mt1 (List.mem_of_getElem? (i := 108) rfl)) rfl⟩
set_option maxRecDepth 20000 in
theorem flX9_15 : FL RX9 15 8 1 := ⟨kt8, (RX9, TX9, 2), rfl, by decide, rfl, inG (mt1 (List.mem_of_getElem? (i := 50) rfl)) rfl⟩
set_option maxRecDepth 20000 in
theorem flX0_31 : FL RX0 31 0 7 := ⟨kt0, (RX0, TX0, 8), rfl, by decide, rfl, inG (mt1 (List.mem_of_getElem? (i := 72) rfl)) rfl⟩
set_option maxRecDepth 20000 in
theorem flX12_59 : FL RX12 59 11 0 := ⟨kt11, (RX12, TX12, 20), rfl, by decide, rfl, inG (mt5 (List.mem_of_getElem? (i := 235) rfl)) rfl⟩
set_option maxRecDepth 20000 in
theorem flX12_101 : FL RX12 101 11 14 := ⟨kt11, (RX12, TX12, 20), rfl, by decide, rfl, inG (mt6 (List.mem_of_getElem? (i := 9) rfl)) rfl⟩
set_option maxRecDepth 20000 in
theorem fsX2_15 : Cond.fieldLink RX2 15 "LatticePaths$Lattice" "ACROSS" "[I" ∈ GW := inG (mt2 (List.mem_of_getElem? (i := 164) rfl)) rfl
set_option maxRecDepth 20000 in
theorem fsX2_22 : Cond.fieldLink RX2 22 "LatticePaths$Lattice" "ALONG" "[I" ∈ GW := inG (mt2 (List.mem_of_getElem? (i := 169) rfl)) rfl
set_option maxRecDepth 20000 in
theorem flX0_56 : FL RX0 56 0 2 := ⟨kt0, (RX0, TX0, 8), rfl, by decide, rfl, inG (mt1 (List.mem_of_getElem? (i := 65) rfl)) rfl⟩
set_option maxRecDepth 20000 in
theorem flX0_59 : FL RX0 59 0 3 := ⟨kt0, (RX0, TX0, 8), rfl, by decide, rfl, inG (mt1 (List.mem_of_getElem? (i := 67) rfl)) rfl⟩
set_option maxRecDepth 20000 in
theorem flX0_62 : FL RX0 62 0 4 := ⟨kt0, (RX0, TX0, 8), rfl, by decide, rfl, inG (mt1 (List.mem_of_getElem? (i := 69) rfl)) rfl⟩
set_option maxRecDepth 20000 in
theorem flX3_15 : FL RX3 15 2 1 := ⟨kt2, (RX3, TX3, 2), rfl, by decide, rfl, inG (mt1 (List.mem_of_getElem? (i := 155) rfl)) rfl⟩
set_option maxRecDepth 20000 in
theorem flX12_146 : FL RX12 146 11 7 := ⟨kt11, (RX12, TX12, 20), rfl, by decide, rfl, inG (mt6 (List.mem_of_getElem? (i := 2) rfl)) rfl⟩
set_option maxRecDepth 20000 in
theorem fsJ0_9 : Cond.fieldLink RJ0 9 "java/lang/String" "value" "[B" ∈ GW := inG (mt7 (List.mem_of_getElem? (i := 134) rfl)) rfl
set_option maxRecDepth 20000 in
theorem fsJ0_38 : Cond.fieldLink RJ0 38 "java/lang/String" "COMPACT_STRINGS" "Z" ∈ GW := inG (mt2 (List.mem_of_getElem? (i := 55) rfl)) rfl
set_option maxRecDepth 20000 in
theorem fsJ0_15 : Cond.fieldLink RJ0 15 "java/lang/String" "coder" "B" ∈ GW := inG (mt7 (List.mem_of_getElem? (i := 133) rfl)) rfl
set_option maxRecDepth 20000 in
theorem fsJ0_1053 : Cond.fieldLink RJ0 1053 "jdk/internal/util/Preconditions" "SIOOBE_FORMATTER" "Ljava/util/function/BiFunction;" ∈ GW := inG (mt2 (List.mem_of_getElem? (i := 98) rfl)) rfl
set_option maxRecDepth 20000 in
theorem fsJ2_44 : Cond.fieldLink RJ2 44 "java/lang/StringUTF16" "$assertionsDisabled" "Z" ∈ GW := inG (mt2 (List.mem_of_getElem? (i := 109) rfl)) rfl
set_option maxRecDepth 20000 in
theorem fsJ2_59 : Cond.fieldLink RJ2 59 "java/lang/StringUTF16" "HI_BYTE_SHIFT" "I" ∈ GW := inG (mt2 (List.mem_of_getElem? (i := 111) rfl)) rfl
set_option maxRecDepth 20000 in
theorem fsJ2_63 : Cond.fieldLink RJ2 63 "java/lang/StringUTF16" "LO_BYTE_SHIFT" "I" ∈ GW := inG (mt2 (List.mem_of_getElem? (i := 113) rfl)) rfl
set_option maxRecDepth 20000 in
theorem flX7_30 : FL RX7 30 6 4 := ⟨kt6, (RX7, TX7, 5), rfl, by decide, rfl, inG (mt1 (List.mem_of_getElem? (i := 216) rfl)) rfl⟩
set_option maxRecDepth 20000 in
theorem flX4_31 : FL RX4 31 3 4 := ⟨kt3, (RX4, TX4, 5), rfl, by decide, rfl, inG (mt1 (List.mem_of_getElem? (i := 194) rfl)) rfl⟩
set_option maxRecDepth 20000 in
theorem flX12_90 : FL RX12 90 11 12 := ⟨kt11, (RX12, TX12, 20), rfl, by decide, rfl, inG (mt6 (List.mem_of_getElem? (i := 7) rfl)) rfl⟩
set_option maxRecDepth 20000 in
theorem clL_8 : Cond.classLink RL 8 RX11 ∈ GW := inG (mt1 (List.mem_of_getElem? (i := 28) rfl)) rfl
set_option maxRecDepth 20000 in
theorem itX11 : Cond.instantiable RX11 10 ∈ GW := inG (mt1 (List.mem_of_getElem? (i := 29) rfl)) rfl
set_option maxRecDepth 20000 in
theorem clL_109 : Cond.classLink RL 109 RX12 ∈ GW := inG (mt5 (List.mem_of_getElem? (i := 229) rfl)) rfl
set_option maxRecDepth 20000 in
theorem itX12 : Cond.instantiable RX12 20 ∈ GW := inG (mt5 (List.mem_of_getElem? (i := 230) rfl)) rfl
set_option maxRecDepth 20000 in
theorem ac_long : Cond.arrayClass .long ∈ GW := inG (mt7 (List.mem_of_getElem? (i := 130) rfl)) rfl
set_option maxRecDepth 20000 in
theorem ac_double : Cond.arrayClass .double ∈ GW := inG (mt7 (List.mem_of_getElem? (i := 131) rfl)) rfl
set_option maxRecDepth 20000 in
theorem clX11_9 : Cond.classLink RX11 9 RX0 ∈ GW := inG (mt1 (List.mem_of_getElem? (i := 36) rfl)) rfl
set_option maxRecDepth 20000 in
theorem itX0 : Cond.instantiable RX0 8 ∈ GW := inG (mt1 (List.mem_of_getElem? (i := 37) rfl)) rfl
set_option maxRecDepth 20000 in
theorem clX11_16 : Cond.classLink RX11 16 RX1 ∈ GW := inG (mt1 (List.mem_of_getElem? (i := 90) rfl)) rfl
set_option maxRecDepth 20000 in
theorem itX1 : Cond.instantiable RX1 3 ∈ GW := inG (mt1 (List.mem_of_getElem? (i := 91) rfl)) rfl
set_option maxRecDepth 20000 in
theorem clX11_23 : Cond.classLink RX11 23 RX8 ∈ GW := inG (mt1 (List.mem_of_getElem? (i := 132) rfl)) rfl
set_option maxRecDepth 20000 in
theorem itX8 : Cond.instantiable RX8 2 ∈ GW := inG (mt1 (List.mem_of_getElem? (i := 133) rfl)) rfl
set_option maxRecDepth 20000 in
theorem clX11_30 : Cond.classLink RX11 30 RX3 ∈ GW := inG (mt1 (List.mem_of_getElem? (i := 148) rfl)) rfl
set_option maxRecDepth 20000 in
theorem itX3 : Cond.instantiable RX3 2 ∈ GW := inG (mt1 (List.mem_of_getElem? (i := 149) rfl)) rfl
set_option maxRecDepth 20000 in
theorem clX11_37 : Cond.classLink RX11 37 RX9 ∈ GW := inG (mt1 (List.mem_of_getElem? (i := 162) rfl)) rfl
set_option maxRecDepth 20000 in
theorem itX9 : Cond.instantiable RX9 2 ∈ GW := inG (mt1 (List.mem_of_getElem? (i := 44) rfl)) rfl
set_option maxRecDepth 20000 in
theorem clX11_44 : Cond.classLink RX11 44 RX10 ∈ GW := inG (mt1 (List.mem_of_getElem? (i := 164) rfl)) rfl
set_option maxRecDepth 20000 in
theorem itX10 : Cond.instantiable RX10 1 ∈ GW := inG (mt1 (List.mem_of_getElem? (i := 165) rfl)) rfl
set_option maxRecDepth 20000 in
theorem clX11_51 : Cond.classLink RX11 51 RX6 ∈ GW := inG (mt1 (List.mem_of_getElem? (i := 174) rfl)) rfl
set_option maxRecDepth 20000 in
theorem itX6 : Cond.instantiable RX6 1 ∈ GW := inG (mt1 (List.mem_of_getElem? (i := 175) rfl)) rfl
set_option maxRecDepth 20000 in
theorem clX11_58 : Cond.classLink RX11 58 RX4 ∈ GW := inG (mt1 (List.mem_of_getElem? (i := 184) rfl)) rfl
set_option maxRecDepth 20000 in
theorem itX4 : Cond.instantiable RX4 5 ∈ GW := inG (mt1 (List.mem_of_getElem? (i := 185) rfl)) rfl
set_option maxRecDepth 20000 in
theorem clX11_65 : Cond.classLink RX11 65 RX7 ∈ GW := inG (mt1 (List.mem_of_getElem? (i := 206) rfl)) rfl
set_option maxRecDepth 20000 in
theorem itX7 : Cond.instantiable RX7 5 ∈ GW := inG (mt1 (List.mem_of_getElem? (i := 207) rfl)) rfl
set_option maxRecDepth 20000 in
theorem clX0_9 : Cond.classLink RX0 9 RX9 ∈ GW := inG (mt1 (List.mem_of_getElem? (i := 42) rfl)) rfl
set_option maxRecDepth 20000 in
theorem ac_int : Cond.arrayClass .int ∈ GW := inG (mt1 (List.mem_of_getElem? (i := 56) rfl)) rfl
set_option maxRecDepth 20000 in
theorem clX1_9 : Cond.classLink RX1 9 RX5 ∈ GW := inG (mt1 (List.mem_of_getElem? (i := 96) rfl)) rfl
set_option maxRecDepth 20000 in
theorem itX5 : Cond.instantiable RX5 6 ∈ GW := inG (mt1 (List.mem_of_getElem? (i := 98) rfl)) rfl
set_option maxRecDepth 20000 in
theorem clX8_9 : Cond.classLink RX8 9 RX5 ∈ GW := inG (mt1 (List.mem_of_getElem? (i := 138) rfl)) rfl
set_option maxRecDepth 20000 in
theorem ac_boolean : Cond.arrayClass .boolean ∈ GW := inG (mt1 (List.mem_of_getElem? (i := 147) rfl)) rfl
set_option maxRecDepth 20000 in
theorem ac_char : Cond.arrayClass .char ∈ GW := inG (mt1 (List.mem_of_getElem? (i := 161) rfl)) rfl
set_option maxRecDepth 20000 in
theorem clL_13 : Cond.classLink RL 13 "java/lang/IndexOutOfBoundsException" ∈ GW := inG (mt2 (List.mem_of_getElem? (i := 193) rfl)) rfl
set_option maxRecDepth 20000 in
theorem clL_15 : Cond.classLink RL 15 "java/lang/IllegalStateException" ∈ GW := inG (mt2 (List.mem_of_getElem? (i := 194) rfl)) rfl
set_option maxRecDepth 20000 in
theorem clX11_87 : Cond.classLink RX11 87 "java/lang/IllegalStateException" ∈ GW := inG (mt3 (List.mem_of_getElem? (i := 35) rfl)) rfl
set_option maxRecDepth 20000 in
theorem gi_IllegalStateException : Cond.initialized "java/lang/IllegalStateException" ∈ GW := inG (mt1 (List.mem_of_getElem? (i := 19) rfl)) rfl
set_option maxRecDepth 20000 in
theorem clX11_170 : Cond.classLink RX11 170 "java/lang/IndexOutOfBoundsException" ∈ GW := inG (mt2 (List.mem_of_getElem? (i := 203) rfl)) rfl
set_option maxRecDepth 20000 in
theorem gi_IndexOutOfBoundsException : Cond.initialized "java/lang/IndexOutOfBoundsException" ∈ GW := inG (mt1 (List.mem_of_getElem? (i := 18) rfl)) rfl
set_option maxRecDepth 20000 in
theorem clL_20 : Cond.classLink RL 20 "java/lang/IllegalArgumentException" ∈ GW := inG (mt3 (List.mem_of_getElem? (i := 101) rfl)) rfl
set_option maxRecDepth 20000 in
theorem clX11_206 : Cond.classLink RX11 206 "java/lang/IllegalArgumentException" ∈ GW := inG (mt3 (List.mem_of_getElem? (i := 117) rfl)) rfl
set_option maxRecDepth 20000 in
theorem gi_IllegalArgumentException : Cond.initialized "java/lang/IllegalArgumentException" ∈ GW := inG (mt1 (List.mem_of_getElem? (i := 20) rfl)) rfl
set_option maxRecDepth 20000 in
theorem gi_Math : Cond.initialized "java/lang/Math" ∈ GW := inG (mt1 (List.mem_of_getElem? (i := 23) rfl)) rfl
set_option maxRecDepth 20000 in
theorem gi_System : Cond.initialized "java/lang/System" ∈ GW := inG (mt1 (List.mem_of_getElem? (i := 27) rfl)) rfl
set_option maxRecDepth 20000 in
theorem cfX11_332 : Cond.constantFloat RX11 332 (1120403456) ∈ GW := inG (mt2 (List.mem_of_getElem? (i := 189) rfl)) rfl
set_option maxRecDepth 20000 in
theorem cfX12_221 : Cond.constantFloat RX12 221 (1120403456) ∈ GW := inG (mt7 (List.mem_of_getElem? (i := 129) rfl)) rfl
end
section
/-! A SMALL MACHINE OVER THE KIT'S ROWS. Values are integers (what the int is the residue of), or addresses of the claim's own cells, numbered in the order in which they are made; a world is what each cell holds at each place. 'Go' is the kit's W with all that does not change put away; 'Ev' is a method's contract, told by what its caller does next. -/
abbrev Vl : Type := Int ⊕ Nat ⊕ Int ⊕ UInt64 ⊕ UInt32
abbrev vi (z : Int) : Vl := .inl z
abbrev vr (a : Nat) : Vl := .inr (.inl a)
abbrev vl (z : Int) : Vl := .inr (.inr (.inl z))
abbrev vd (x : UInt64) : Vl := .inr (.inr (.inr (.inl x)))
abbrev vf (x : UInt32) : Vl := .inr (.inr (.inr (.inr x)))
abbrev Wd : Type := Nat → Nat → Int
/-- the launch; the first own cell; the cells that were there before; the kinds of objects; of arrays; the script -/
abbrev Gm : Type := Launch × Nat × (Nat → Nat) × va_G × (Nat → ClassId) × Nat × (Nat → Int32)
def Gb (G : Gm) : Nat := G.2.1
def Gs (G : Gm) : Nat → Nat := G.2.2.1
def GD (G : Gm) : va_G := G.2.2.2.1
def Gc (G : Gm) : Nat → ClassId := G.2.2.2.2.1
def GL (G : Gm) : Nat := G.2.2.2.2.2.1
def Gx (G : Gm) : Nat → Int32 := G.2.2.2.2.2.2
def rho (G : Gm) (a : Nat) : Nat := if a < 1000 then Gb G + (a - 1) else Gs G a
def cv (G : Gm) : Vl → Value
  | .inl z => .int (Int32.ofInt z)
  | .inr (.inl a) => .ref (rho G a)
  | .inr (.inr (.inl z)) => .long (Int64.ofInt z)
  | .inr (.inr (.inr (.inl x))) => .double x
  | .inr (.inr (.inr (.inr x))) => .float x
def ownA (G : Gm) : Nat → Prop := fun q => Gb G ≤ q
/-- what each own cell is: 1 an object of a kind, 2 ints, 3 chars, 4 booleans, 5 trails, 6 saved states, 7 longs, 8 doubles -/
def SHl : List (Nat × Nat) := [(0,0),(1,10),(1,0),(5,5),(2,100),(2,100),(1,8),(2,60),(1,8),(2,60),(1,8),(2,60),(1,8),(2,60),(1,8),(2,60),(1,1),(6,6),(1,4),(2,100),(2,5),(1,4),(2,100),(2,5),(1,4),(2,100),(2,5),(1,4),(2,100),(2,5),(1,4),(2,100),(2,5),(1,4),(2,100),(2,5),(1,7),(6,2),(4,2),(1,4),(2,100),(2,5),(1,4),(2,100),(2,5),(1,2),(3,70),(1,8),(2,60),(1,9),(2,60),(1,5),(4,100),(1,3),(2,100),(2,100),(4,100),(2,100),(1,6),(2,60),(2,60),(2,60),(2,60),(1,6),(2,60),(2,60),(2,60),(2,60),(1,11),(2,309),(2,1854),(2,618),(2,2),(2,70),(2,100),(2,100),(2,100),(2,100),(2,130),(2,7),(2,7),(2,60),(2,60),(2,60),(7,1),(8,1)]
def SH (a : Nat) : Nat × Nat := SHl.getD a (0, 0)
def NA : Nat := 85
/-- the fields of a kind: which are references -/
def ftl (ci : Nat) : List Bool := match ci with
  | 0 => [true, false, false, false, false, true, true, false]
  | 1 => [true, false, false]
  | 2 => [true, false]
  | 3 => [true, true, true, true, false]
  | 4 => [true, true, false, false, false, false]
  | 5 => [true]
  | 6 => [true, true, true, true, false]
  | 7 => [true, true]
  | 8 => [true, false]
  | 9 => [true]
  | 10 => [true, true, true, true, true, true, true, true, true, true]
  | 11 => [false, true, true, false, true, true, true, false, true, true, true, true, false, true, false, true, true, true, true, true]
  | _ => []
/-- where the references of an own cell lead, once all are made -/
def RF (a k : Nat) : Nat := match SH a with
  | (1, 0) => if k = 0 then 3 else k - 1
  | (1, 3) => a + 1 + k
  | (1, 4) => a + 1 + k
  | (1, 6) => a + 1 + k
  | (1, 7) => a + 1 + k
  | (1, 10) => [2, 16, 36, 45, 47, 49, 51, 53, 58, 63].getD k 0
  | (1, 11) => [0, 69, 70, 0, 71, 72, 73, 0, 74, 75, 76, 77, 0, 78, 0, 79, 80, 81, 82, 83].getD k 0
  | (1, _) => a + 1
  | (6, 6) => a + 1 + 3 * k
  | _ => a + 2 + 3 * k
/-- a reference that stays, once all are made -/
def rv (nx : Option Nat) (w : Wd) (a k : Nat) : Int := match nx with
  | none => (RF a k : Int)
  | some _ => w a k
def rfo (G : Gm) (z : Int) : Option Nat := if z = 0 then none else some (rho G z.toNat)
def fldv (G : Gm) (b : Bool) (z : Int) : Value := if b then va_rf (rfo G z) else .int (Int32.ofInt z)
def flds (G : Gm) (nx : Option Nat) (w : Wd) (a ci : Nat) : List Value := (ftl ci).mapIdx fun k b => fldv G b (if b then rv nx w a k else w a k)
def cont (G : Gm) (nx : Option Nat) (w : Wd) (a : Nat) : va_E := match (SH a).1 with
  | 1 => .inr ((SH a).2, flds G nx w a (SH a).2)
  | 2 => .inl (Gc G 2, (SH a).2, .inl (fun j => Int32.ofInt (w a j)))
  | 3 => .inl (Gc G 3, (SH a).2, .inl (fun j => Int32.ofInt (w a j)))
  | 4 => .inl (Gc G 4, (SH a).2, .inl (fun j => Int32.ofInt (w a j)))
  | 5 => .inl (Gc G 5, (SH a).2, .inr (.inr (.inr (.inr (fun j => rfo G (w a j))))))
  | 6 => .inl (Gc G 6, (SH a).2, .inr (.inr (.inr (.inr (fun j => rfo G (rv nx w a j))))))
  | 7 => .inl (Gc G 7, (SH a).2, .inr (.inl (fun j => Int64.ofInt (w a j))))
  | 8 => .inl (Gc G 8, (SH a).2, .inr (.inr (.inr (.inl (fun j => UInt64.ofNat (w a j).toNat)))))
  | _ => .inl (0, 0, .inl (fun _ => 0))
/-- how many own cells there are: all, or those below the next one -/
def cnt (nx : Option Nat) : Nat := match nx with
  | none => NA
  | some n => n - 1
def okx (nx : Option Nat) (a : Nat) : Prop := match nx with
  | none => True
  | some n => a < n
def wl (G : Gm) (nx : Option Nat) (w : Wd) : va_W := (List.range (cnt nx)).map fun i => (rho G (i + 1), cont G nx w (i + 1))
def wholds (G : Gm) (nx : Option Nat) (w : Wd) (H : Heap) : Prop := va_P (GD G) vwCl (wl G nx w) H ∧ ∀ n, nx = some n → 1 ≤ n ∧ n ≤ NA + 1 ∧ H.size = Gb G + (n - 1)
def up (w : Wd) (a k : Nat) (z : Int) : Wd := fun b j => if b = a ∧ j = k then z else w b j
theorem up_s {w : Wd} {a k : Nat} {z : Int} : up w a k z a k = z := by simp [up]
theorem up_a {w : Wd} {a k b j : Nat} {z : Int} (h : b ≠ a) : up w a k z b j = w b j := by simp [up, h]
theorem up_k {w : Wd} {a k b j : Nat} {z : Int} (h : j ≠ k) : up w a k z b j = w b j := by simp [up, h]
theorem SHl_len : SHl.length = 86 := rfl
theorem SH_lt {a k n : Nat} (h : SH a = (k, n)) (hk : k ≠ 0) : 1 ≤ a ∧ a ≤ NA := by
  have h1 : a < SHl.length := by
    rcases Nat.lt_or_ge a SHl.length with q | q
    · exact q
    · rw [SH, List.getD_eq_getElem?_getD, List.getElem?_eq_none q] at h
      cases h
      exact absurd rfl hk
  rw [SHl_len] at h1
  refine ⟨?_, by unfold NA; omega⟩
  rcases Nat.eq_zero_or_pos a with q | q
  · subst q
    have : (0, 0) = (k, n) := h
    cases this
    exact absurd rfl hk
  · exact q
theorem okx_cnt {nx : Option Nat} {a k n : Nat} (h : SH a = (k, n)) (hk : k ≠ 0) (hx : okx nx a) : 1 ≤ a ∧ a - 1 < cnt nx := by
  have := SH_lt h hk
  refine ⟨this.1, ?_⟩
  cases nx with
  | none => show a - 1 < NA; omega
  | some n => have hx : a < n := hx; show a - 1 < n - 1; omega
theorem wl_at (G : Gm) {nx : Option Nat} (w : Wd) {a : Nat} (h1 : 1 ≤ a) (h2 : a - 1 < cnt nx) : (wl G nx w)[a - 1]? = some (rho G a, cont G nx w a) := by
  have e : a - 1 + 1 = a := by omega
  unfold wl
  rw [List.getElem?_map, List.getElem?_range h2]
  simp [e]
theorem wl_len (G : Gm) (nx : Option Nat) (w : Wd) : (wl G nx w).length = cnt nx := by simp [wl]
/-- one cell is written -/
theorem wl_set (G : Gm) {nx : Option Nat} {w w' : Wd} {a : Nat} {E : va_E} (h1 : 1 ≤ a) (h2 : a - 1 < cnt nx) (he : cont G nx w' a = E) (ho : ∀ b, b ≠ a → cont G nx w' b = cont G nx w b) : (wl G nx w).set (a - 1) (rho G a, E) = wl G nx w' := by
  apply List.ext_getElem?
  intro i
  by_cases hi : i = a - 1
  · subst hi
    rw [List.getElem?_set_self (by rw [wl_len]; exact h2), wl_at G w' h1 h2, he]
  · rw [List.getElem?_set_ne (Ne.symm hi)]
    unfold wl
    rw [List.getElem?_map, List.getElem?_map]
    cases hr : (List.range (cnt nx))[i]? with
    | none => rfl
    | some j =>
      have : j = i := by
        have := List.getElem?_eq_some_iff.mp hr
        obtain ⟨h, e⟩ := this
        rw [List.getElem_range] at e
        exact e.symm
      subst this
      simp only [Option.map_some]
      rw [ho (j + 1) (by omega)]
theorem cnt_le {nx : Option Nat} {n : Nat} (h : nx = some n → n ≤ NA + 1) : True := trivial
theorem rho_own (G : Gm) {a : Nat} (h : a ≤ NA) : rho G a = Gb G + (a - 1) := by
  unfold rho
  rw [if_pos (by unfold NA at h; omega)]
theorem wl_D (G : Gm) {nx : Option Nat} (w : Wd) (hc : cnt nx ≤ NA) : va_D (ownA G) (wl G nx w) := by
  have key : ∀ (k : Nat) (q : Nat × va_E), (wl G nx w)[k]? = some q → k < cnt nx ∧ q.1 = Gb G + k := by
    intro k q hk
    have hl : k < cnt nx := by rw [← wl_len G nx w]; exact (List.getElem?_eq_some_iff.mp hk).1
    have := wl_at G (nx := nx) w (a := k + 1) (by omega) (by omega)
    rw [show k + 1 - 1 = k by omega] at this
    rw [this] at hk
    cases hk
    refine ⟨hl, ?_⟩
    show rho G (k + 1) = _
    rw [rho_own G (by omega)]
    omega
  refine ⟨fun i j p q hi hj h => ?_, fun k q hk => ?_⟩
  · have a1 := key i p hi
    have a2 := key j q hj
    omega
  · have := (key k q hk).2
    show Gb G ≤ q.1
    omega
theorem wholds_cnt {G : Gm} {nx : Option Nat} {w : Wd} {H : Heap} (h : wholds G nx w H) : cnt nx ≤ NA := by
  cases nx with
  | none => exact Nat.le_refl _
  | some n => have := h.2 n rfl; show n - 1 ≤ NA; omega
/-- the cell of an address -/
theorem wholds_at {G : Gm} {nx : Option Nat} {w : Wd} {H : Heap} (h : wholds G nx w H) {a k n : Nat} (hs : SH a = (k, n)) (hk : k ≠ 0) (hx : okx nx a) : va_at (GD G) vwCl (rho G a, cont G nx w a) H :=
  h.1 (a - 1) _ (wl_at G w (okx_cnt hs hk hx).1 (okx_cnt hs hk hx).2)
def inR (z : Int) : Prop := -2147483648 ≤ z ∧ z < 2147483648
theorem inR_toInt {z : Int} (h : inR z) : (Int32.ofInt z).toInt = z := Int32.toInt_ofInt_of_le h.1 h.2
theorem iI_le {a b : Int} (ha : inR a) (hb : inR b) : Int32.ofInt a ≤ Int32.ofInt b ↔ a ≤ b := by
  rw [Int32.le_iff_toInt_le, inR_toInt ha, inR_toInt hb]
theorem iI_lt {a b : Int} (ha : inR a) (hb : inR b) : Int32.ofInt a < Int32.ofInt b ↔ a < b := by
  rw [Int32.lt_iff_toInt_lt, inR_toInt ha, inR_toInt hb]
theorem iI_eq {a b : Int} (ha : inR a) (hb : inR b) : Int32.ofInt a = Int32.ofInt b ↔ a = b := by
  rw [← Int32.toInt_inj, inR_toInt ha, inR_toInt hb]
theorem iI_nat (n : Nat) : Int32.ofInt (n : Int) = nI n := rfl
theorem iI_0 : Int32.ofInt 0 = 0 := rfl
theorem iI_in {z : Int} {n : Nat} (h0 : 0 ≤ z) (h : z < n) (hn : n < 2 ^ 31) : vp_in (Int32.ofInt z) n ∧ (Int32.ofInt z).toNatClampNeg = z.toNat := by
  obtain ⟨k, rfl⟩ := Int.eq_ofNat_of_zero_le h0
  have hk : k < n := by omega
  exact ⟨vp_in_nI hk hn, by rw [iI_nat, nI_clamp (by omega)]; rfl⟩
end
section
/-- the static arrays of the lattice's steps -/
def tabA (j : Nat) : Int := [0, 1, 0, -1].getD j 0
def tabB (j : Nat) : Int := [-1, 0, 1, 0].getD j 0
/-- the texts of the exceptions, and where they stand -/
def txs : List (String × Nat × String) := [(RX11, 89, "the site is not free, or there are 5 paths"), (RX11, 123, "the path has only one site"), (RX11, 165, "the heads are not neighbours, or there are more than 60 sites"), (RX11, 172, "the site is the head already"), (RX11, 175, "there are 5 paths"), (RX11, 191, "the buffer holds 70 characters"), (RX11, 208, "the buffer is not a complete path text"), (RX11, 215, "there is no room for the path"), (RX11, 224, "no state is saved"), (RX11, 236, "the slot is empty"), (RX11, 281, "the index is negative"), (RX11, 339, "there is no such site"), (RX11, 341, "there is no such path"), (RX11, 346, "the path has no such site"), (RX11, 348, "both paths are the same"), (RX11, 350, "the argument is out of range")]
def tyl (G : Gm) : List (ClassId × FieldType) := [(Gc G 2, .int), (Gc G 3, .char), (Gc G 4, .boolean), (Gc G 5, .object RX9), (Gc G 6, .object RX5), (Gc G 7, .long), (Gc G 8, .double)]
def urdl : List Int32 := [85, 82, 68, 76]
/-- what a state's tables say, and the cells that were there before -/
def KS (G : Gm) (U : State) (H : Heap) : Prop :=
  va_K (GD G) vwCl (tyl G) U ∧
  vx_Zq Bundle.tN "UNASSIGNED_STACK" Bundle.steD (ownA G) U H ∧ vx_Zq Bundle.tN "SUPPRESSED_SENTINEL" Bundle.listD (ownA G) U H ∧
  (va_Z RX2 "ACROSS" "[I" (.ref (Gs G 1001)) (ownA G) U H ∧ va_T .int (Gs G 1001) 4 (fun j => .int (Int32.ofInt (tabA j))) (ownA G) U H) ∧
  (va_Z RX2 "ALONG" "[I" (.ref (Gs G 1002)) (ownA G) U H ∧ va_T .int (Gs G 1002) 4 (fun j => .int (Int32.ofInt (tabB j))) (ownA G) U H) ∧
  (∀ q ∈ txs, ∃ a, vk_R q.1 q.2.1 q.2.2 a U) ∧
  (vk_R RX3 31 "URDL" (Gs G 1003) U ∧ va_O "java/lang/String" (Gs G 1003) (ownA G) U H ∧ va_OF "java/lang/String" "coder" "B" (.int 0) (Gs G 1003) (ownA G) U H ∧ va_OF "java/lang/String" "value" "[B" (.ref (Gs G 1004)) (Gs G 1003) (ownA G) U H ∧ va_T .byte (Gs G 1004) 4 (fun j => .int (urdl.getD j 0)) (ownA G) U H ∧ va_Z "java/lang/String" "COMPACT_STRINGS" "Z" (.int 1) (ownA G) U H) ∧
  (va_X (Gs G 1000) (GL G) (Gx G) U H ∧ ¬ ownA G (Gs G 1000))
theorem KS.go {G : Gm} {s U : State} {H1 : Heap} (h : KS G s s.heap) (hW : s.WarmedH U.vm) (hq : ∀ a : Nat, a < s.heap.size → ¬ ownA G a → H1[a]? = s.heap[a]?) : KS G U H1 := by
  obtain ⟨h1, h2, h3, ⟨h4, h5⟩, ⟨h6, h7⟩, h8, ⟨h9, h10, h11, h12, h13, h14⟩, h15, h16⟩ := h
  have hv := hW.alike
  refine ⟨h1.moved hv, (h2.moved hv).kept hq, (h3.moved hv).kept hq, ⟨(h4.moved hv).kept hq, (h5.moved hv).kept hq⟩, ⟨(h6.moved hv).kept hq, (h7.moved hv).kept hq⟩, fun q hm => ?_, ⟨h9.warm hW, (h10.moved hv).kept hq, (h11.moved hv).kept hq, (h12.moved hv).kept hq, (h13.moved hv).kept hq, (h14.moved hv).kept hq⟩, ?_, h16⟩
  · obtain ⟨a, ha⟩ := h8 q hm
    exact ⟨a, ha.warm hW⟩
  · refine va_X.moved hv (h15.kept (hq _ ?_ h16))
    obtain ⟨scr, e1, -⟩ := h15
    exact (Array.getElem?_eq_some_iff.mp e1).1
theorem KS.calling {G : Gm} {U : State} {H1 : Heap} (g : JFrame) (mk : MethodId) (a : Array Value) (h : KS G U H1) : KS G (U.calling g mk a) H1 := by
  obtain ⟨h1, h2, h3, ⟨h4, h5⟩, ⟨h6, h7⟩, h8, ⟨h9, h10, h11, h12, h13, h14⟩, h15, h16⟩ := h
  have hv : U.vm.Alike (U.calling g mk a).vm := Vm.Alike.refl U.vm
  refine ⟨h1.moved hv, h2.moved hv, h3.moved hv, ⟨h4.moved hv, h5.moved hv⟩, ⟨h6.moved hv, h7.moved hv⟩, fun q hm => ?_, ⟨h9.same rfl, h10.moved hv, h11.moved hv, h12.moved hv, h13.moved hv, h14.moved hv⟩, h15.moved hv, h16⟩
  obtain ⟨a, ha⟩ := h8 q hm
  exact ⟨a, ha.same rfl⟩
/-- the locals -/
def lsOK (G : Gm) (la : Array Slot) (ls : List (Option Vl)) : Prop := la.size = ls.length ∧ lv_wf la ∧ ∀ (i : Nat) (v : Vl), ls[i]? = some (some v) → la[i]? = some (.val (cv G v))
/-- what holds all through a method's body -/
def Cx (G : Gm) (cc : ByteArray) (mt : Mt) (d : Nat) (p : Program) (R : Room) (s : State) (m : MethodId) (args : Array Value) (meth : Method) (c : Code) (nl : Nat) : Prop :=
  p.tables.exec = Jvm.exec ∧ c.code = cc ∧ meth.sig.returnType = mt.1 ∧ s.vm.findClass mt.2.1 = some m.cls ∧ (∀ w ∈ GW, w.before args s = true) ∧ meth.locks = false ∧ (mt.2.2.1 = true → meth.name = "<init>") ∧ c.maxLocals = nl ∧ d ≤ R.frames ∧ 40 * d ≤ R.locals ∧ KS G s s.heap ∧ G.1.stackTraces = false ∧ Gb G ≤ s.heap.size ∧ c.exceptionTable.toList = tableOf mt.2.2.2
/-- an instruction that returns v, the stack at it -/
def RetI (G : Gm) (mt : Mt) (cc : ByteArray) (pc : Nat) (v : Vl) (st : List Value) : Prop :=
  (mt.1 = none ∧ decode cc pc = .ok (.return_, 1) ∧ v = vi 0 ∧ st = []) ∨
  (∃ (z : Int) (ty : FieldType), v = vi z ∧ mt.1 = some ty ∧ narrow ty (.int (Int32.ofInt z)) = .int (Int32.ofInt z) ∧ decode cc pc = .ok (.ireturn, 1) ∧ st = [.int (Int32.ofInt z)]) ∨
  (∃ (a : Nat), v = vr a ∧ (∃ n, mt.1 = some (.object n)) ∧ decode cc pc = .ok (.areturn, 1) ∧ st = [.ref (rho G a)]) ∨
  (∃ (x : UInt64), v = vd x ∧ mt.1 = some .double ∧ decode cc pc = .ok (.dreturn, 1) ∧ st = [.double x]) ∨
  (∃ (x : UInt32), v = vf x ∧ mt.1 = some .float ∧ decode cc pc = .ok (.freturn, 1) ∧ st = [.float x])
def exn (k : Nat) : String := match k with
  | 1 => "java/lang/IndexOutOfBoundsException"
  | 2 => "java/lang/IllegalStateException"
  | _ => "java/lang/IllegalArgumentException"
abbrev Kt : Type := Vl → Option Nat → Wd → Prop
abbrev Xt : Type := Nat → Option Nat → Wd → Prop
def EndK (G : Gm) (cc : ByteArray) (mt : Mt) (p : Program) (e : Env) (R : Room) (s : State) (m : MethodId) (args : Array Value) (below : List Frame) (meth : Method) (c : Code) (Q : State → Prop) (K : Kt) : Prop :=
  ∀ (v : Vl) (nx : Option Nat) (w : Wd) (H : Heap) (locs : List Loc) (cells slots : Nat) (la : Array Slot) (pc : Nat) (st : List Value), K v nx w → wholds G nx w H → va_S (ownA G) s.heap H locs → cells ≤ R.cells → slots ≤ R.slots → RetI G mt cc pc v st →
    W p G.1 e R s m args below meth c H locs cells slots Q (F0 m pc la st)
def EndX (G : Gm) (R : Room) (s : State) (args : Array Value) (below : List Frame) (c : Code) (Q : State → Prop) (X : Xt) : Prop :=
  (∀ k nx w, ¬ X k nx w) ∨ ∃ (Qc : Array Value → State → Outcome → State → Prop) (XC : String → State → State → Prop) (mc ms : Nat), Q = vx_MQ below Qc XC args s mc ms (ownA G) ∧ R.cells ≤ mc ∧ R.slots ≤ ms ∧ (∀ x ∈ c.exceptionTable.toList, False) ∧
    ∀ (k : Nat) (nx : Option Nat) (w : Wd) (t : State), X k nx w → wholds G nx w t.heap → va_F (ownA G) s t → XC (exn k) s t
def Go (G : Gm) (cc : ByteArray) (mt : Mt) (nx : Option Nat) (d bc bs pc : Nat) (ls : List (Option Vl)) (st : List Vl) (w : Wd) (K : Kt) (X : Xt) : Prop :=
  ∀ (p : Program) (e : Env) (R : Room) (s : State) (m : MethodId) (args : Array Value) (below : List Frame) (meth : Method) (c : Code) (Q : State → Prop) (H : Heap) (locs : List Loc) (cells slots : Nat) (la : Array Slot),
    Cx G cc mt d p R s m args meth c ls.length → EndK G cc mt p e R s m args below meth c Q K → EndX G R s args below c Q X →
    lsOK G la ls → wholds G nx w H → va_S (ownA G) s.heap H locs → cells + bc ≤ R.cells → slots + bs ≤ R.slots →
    W p G.1 e R s m args below meth c H locs cells slots Q (F0 m pc la (st.map (cv G)))
theorem inR_0 : inR 0 := ⟨by decide, by decide⟩
section GoRules
variable {G : Gm} {cc : ByteArray} {mt : Mt} {nx : Option Nat} {d bc bs pc : Nat} {ls : List (Option Vl)} {st : List Vl} {w : Wd} {K : Kt} {X : Xt}
theorem Go_iconst {n : Int} (dec : decode cc pc = .ok (.iconst n, 1)) (k : Go G cc mt nx d bc bs (pc + 1) ls (vi n :: st) w K X) : Go G cc mt nx d bc bs pc ls st w K X := by
  intro p e R s m args below meth c Q H locs cells slots la C EK EX hl hw hS h1 h2
  exact lv_iconst C.1 C.2.1 dec rfl (k p e R s m args below meth c Q H locs cells slots la C EK EX hl hw hS h1 h2)
theorem Go_bipush {n : Int} (dec : decode cc pc = .ok (.bipush n, 2)) (hn : (Int8.ofInt n).toInt32 = Int32.ofInt n := by decide +kernel) (k : Go G cc mt nx d bc bs (pc + 2) ls (vi n :: st) w K X) : Go G cc mt nx d bc bs pc ls st w K X := by
  intro p e R s m args below meth c Q H locs cells slots la C EK EX hl hw hS h1 h2
  exact lv_bipush C.1 C.2.1 dec hn (k p e R s m args below meth c Q H locs cells slots la C EK EX hl hw hS h1 h2)
theorem Go_sipush {n : Int} (dec : decode cc pc = .ok (.sipush n, 3)) (hn : (Int16.ofInt n).toInt32 = Int32.ofInt n := by decide +kernel) (k : Go G cc mt nx d bc bs (pc + 3) ls (vi n :: st) w K X) : Go G cc mt nx d bc bs pc ls st w K X := by
  intro p e R s m args below meth c Q H locs cells slots la C EK EX hl hw hS h1 h2
  exact lv_sipush C.1 C.2.1 dec hn (k p e R s m args below meth c Q H locs cells slots la C EK EX hl hw hS h1 h2)
theorem Go_iload_n {j : Fin 4} {i : Nat} {z : Int} (dec : decode cc pc = .ok (.iload_n j, 1)) (hi : (j : Nat) = i) (h : ls[i]? = some (some (vi z))) (k : Go G cc mt nx d bc bs (pc + 1) ls (vi z :: st) w K X) : Go G cc mt nx d bc bs pc ls st w K X := by
  intro p e R s m args below meth c Q H locs cells slots la C EK EX hl hw hS h1 h2
  exact lv_iload_n C.1 C.2.1 dec hi (hl.2.2 i _ h) (k p e R s m args below meth c Q H locs cells slots la C EK EX hl hw hS h1 h2)
theorem Go_iload {i : Nat} {z : Int} (dec : decode cc pc = .ok (.iload i, 2)) (h : ls[i]? = some (some (vi z))) (k : Go G cc mt nx d bc bs (pc + 2) ls (vi z :: st) w K X) : Go G cc mt nx d bc bs pc ls st w K X := by
  intro p e R s m args below meth c Q H locs cells slots la C EK EX hl hw hS h1 h2
  exact lv_iload C.1 C.2.1 dec (hl.2.2 i _ h) (k p e R s m args below meth c Q H locs cells slots la C EK EX hl hw hS h1 h2)
theorem Go_aload_n {j : Fin 4} {i a : Nat} (dec : decode cc pc = .ok (.aload_n j, 1)) (hi : (j : Nat) = i) (h : ls[i]? = some (some (vr a))) (k : Go G cc mt nx d bc bs (pc + 1) ls (vr a :: st) w K X) : Go G cc mt nx d bc bs pc ls st w K X := by
  intro p e R s m args below meth c Q H locs cells slots la C EK EX hl hw hS h1 h2
  exact lv_aload_n C.1 C.2.1 dec hi (hl.2.2 i _ h) (k p e R s m args below meth c Q H locs cells slots la C EK EX hl hw hS h1 h2)
theorem Go_aload {i a : Nat} (dec : decode cc pc = .ok (.aload i, 2)) (h : ls[i]? = some (some (vr a))) (k : Go G cc mt nx d bc bs (pc + 2) ls (vr a :: st) w K X) : Go G cc mt nx d bc bs pc ls st w K X := by
  intro p e R s m args below meth c Q H locs cells slots la C EK EX hl hw hS h1 h2
  exact lv_aload C.1 C.2.1 dec (hl.2.2 i _ h) (k p e R s m args below meth c Q H locs cells slots la C EK EX hl hw hS h1 h2)
theorem Go_iadd {a b : Int} (dec : decode cc pc = .ok (.iadd, 1)) (k : Go G cc mt nx d bc bs (pc + 1) ls (vi (a + b) :: st) w K X) : Go G cc mt nx d bc bs pc ls (vi b :: vi a :: st) w K X := by
  intro p e R s m args below meth c Q H locs cells slots la C EK EX hl hw hS h1 h2
  have kk := k p e R s m args below meth c Q H locs cells slots la C EK EX hl hw hS h1 h2
  refine lv_iadd C.1 C.2.1 dec ?_
  rw [← Int32.ofInt_add]
  exact kk
theorem Go_isub {a b : Int} (dec : decode cc pc = .ok (.isub, 1)) (k : Go G cc mt nx d bc bs (pc + 1) ls (vi (a - b) :: st) w K X) : Go G cc mt nx d bc bs pc ls (vi b :: vi a :: st) w K X := by
  intro p e R s m args below meth c Q H locs cells slots la C EK EX hl hw hS h1 h2
  have kk := k p e R s m args below meth c Q H locs cells slots la C EK EX hl hw hS h1 h2
  refine lv_isub C.1 C.2.1 dec ?_
  rw [← Int32.ofInt_sub]
  exact kk
theorem Go_imul {a b : Int} (dec : decode cc pc = .ok (.imul, 1)) (k : Go G cc mt nx d bc bs (pc + 1) ls (vi (a * b) :: st) w K X) : Go G cc mt nx d bc bs pc ls (vi b :: vi a :: st) w K X := by
  intro p e R s m args below meth c Q H locs cells slots la C EK EX hl hw hS h1 h2
  have kk := k p e R s m args below meth c Q H locs cells slots la C EK EX hl hw hS h1 h2
  refine lv_imul C.1 C.2.1 dec ?_
  rw [← Int32.ofInt_mul]
  exact kk
theorem Go_ineg {a : Int} (dec : decode cc pc = .ok (.ineg, 1)) (k : Go G cc mt nx d bc bs (pc + 1) ls (vi (-a) :: st) w K X) : Go G cc mt nx d bc bs pc ls (vi a :: st) w K X := by
  intro p e R s m args below meth c Q H locs cells slots la C EK EX hl hw hS h1 h2
  have kk := k p e R s m args below meth c Q H locs cells slots la C EK EX hl hw hS h1 h2
  refine lv_ineg C.1 C.2.1 dec ?_
  rw [← Int32.ofInt_neg]
  exact kk
theorem Go_goto {off : Int} {tgt : Nat} (dec : decode cc pc = .ok (.goto off, 3)) (ht : (pc : Int) + off = (tgt : Int)) (k : Go G cc mt nx d bc bs tgt ls st w K X) : Go G cc mt nx d bc bs pc ls st w K X := by
  intro p e R s m args below meth c Q H locs cells slots la C EK EX hl hw hS h1 h2
  exact lv_goto C.1 C.2.1 dec ht (k p e R s m args below meth c Q H locs cells slots la C EK EX hl hw hS h1 h2)
theorem Go_dup {a : Nat} (dec : decode cc pc = .ok (.dup, 1)) (k : Go G cc mt nx d bc bs (pc + 1) ls (vr a :: vr a :: st) w K X) : Go G cc mt nx d bc bs pc ls (vr a :: st) w K X := by
  intro p e R s m args below meth c Q H locs cells slots la C EK EX hl hw hS h1 h2
  exact lv_dup C.1 C.2.1 dec rfl (k p e R s m args below meth c Q H locs cells slots la C EK EX hl hw hS h1 h2)
theorem Go_dup2 {a : Nat} {z : Int} (dec : decode cc pc = .ok (.dup2, 1)) (k : Go G cc mt nx d bc bs (pc + 1) ls (vi z :: vr a :: vi z :: vr a :: st) w K X) : Go G cc mt nx d bc bs pc ls (vi z :: vr a :: st) w K X := by
  intro p e R s m args below meth c Q H locs cells slots la C EK EX hl hw hS h1 h2
  exact lv_dup2_11 C.1 C.2.1 dec rfl rfl (k p e R s m args below meth c Q H locs cells slots la C EK EX hl hw hS h1 h2)
theorem Go_icmp_eq {a b : Int} {off : Int} {tgt : Nat} (dec : decode cc pc = .ok (.if_icmp .eq off, 3)) (ht : (pc : Int) + off = (tgt : Int)) (ha : inR a) (hb : inR b) (kt : a = b → Go G cc mt nx d bc bs tgt ls st w K X) (kf : ¬ (a = b) → Go G cc mt nx d bc bs (pc + 3) ls st w K X) : Go G cc mt nx d bc bs pc ls (vi b :: vi a :: st) w K X := by
  intro p e R s m args below meth c Q H locs cells slots la C EK EX hl hw hS h1 h2
  exact lv_icmp_eq C.1 C.2.1 dec ht (fun h => kt ((iI_eq ha hb).mp h) p e R s m args below meth c Q H locs cells slots la C EK EX hl hw hS h1 h2) (fun h => kf (fun q => h ((iI_eq ha hb).mpr q)) p e R s m args below meth c Q H locs cells slots la C EK EX hl hw hS h1 h2)
theorem Go_icmp_ne {a b : Int} {off : Int} {tgt : Nat} (dec : decode cc pc = .ok (.if_icmp .ne off, 3)) (ht : (pc : Int) + off = (tgt : Int)) (ha : inR a) (hb : inR b) (kt : ¬ a = b → Go G cc mt nx d bc bs tgt ls st w K X) (kf : a = b → Go G cc mt nx d bc bs (pc + 3) ls st w K X) : Go G cc mt nx d bc bs pc ls (vi b :: vi a :: st) w K X := by
  intro p e R s m args below meth c Q H locs cells slots la C EK EX hl hw hS h1 h2
  exact lv_icmp_ne C.1 C.2.1 dec ht (fun h => kt (fun q => h ((iI_eq ha hb).mpr q)) p e R s m args below meth c Q H locs cells slots la C EK EX hl hw hS h1 h2) (fun h => kf ((iI_eq ha hb).mp h) p e R s m args below meth c Q H locs cells slots la C EK EX hl hw hS h1 h2)
theorem Go_icmp_lt {a b : Int} {off : Int} {tgt : Nat} (dec : decode cc pc = .ok (.if_icmp .lt off, 3)) (ht : (pc : Int) + off = (tgt : Int)) (ha : inR a) (hb : inR b) (kt : a < b → Go G cc mt nx d bc bs tgt ls st w K X) (kf : ¬ (a < b) → Go G cc mt nx d bc bs (pc + 3) ls st w K X) : Go G cc mt nx d bc bs pc ls (vi b :: vi a :: st) w K X := by
  intro p e R s m args below meth c Q H locs cells slots la C EK EX hl hw hS h1 h2
  exact lv_icmp_lt C.1 C.2.1 dec ht (fun h => kt ((iI_lt ha hb).mp h) p e R s m args below meth c Q H locs cells slots la C EK EX hl hw hS h1 h2) (fun h => kf (fun q => h ((iI_lt ha hb).mpr q)) p e R s m args below meth c Q H locs cells slots la C EK EX hl hw hS h1 h2)
theorem Go_icmp_ge {a b : Int} {off : Int} {tgt : Nat} (dec : decode cc pc = .ok (.if_icmp .ge off, 3)) (ht : (pc : Int) + off = (tgt : Int)) (ha : inR a) (hb : inR b) (kt : b ≤ a → Go G cc mt nx d bc bs tgt ls st w K X) (kf : ¬ (b ≤ a) → Go G cc mt nx d bc bs (pc + 3) ls st w K X) : Go G cc mt nx d bc bs pc ls (vi b :: vi a :: st) w K X := by
  intro p e R s m args below meth c Q H locs cells slots la C EK EX hl hw hS h1 h2
  exact lv_icmp_ge C.1 C.2.1 dec ht (fun h => kt ((iI_le hb ha).mp h) p e R s m args below meth c Q H locs cells slots la C EK EX hl hw hS h1 h2) (fun h => kf (fun q => h ((iI_le hb ha).mpr q)) p e R s m args below meth c Q H locs cells slots la C EK EX hl hw hS h1 h2)
theorem Go_icmp_gt {a b : Int} {off : Int} {tgt : Nat} (dec : decode cc pc = .ok (.if_icmp .gt off, 3)) (ht : (pc : Int) + off = (tgt : Int)) (ha : inR a) (hb : inR b) (kt : b < a → Go G cc mt nx d bc bs tgt ls st w K X) (kf : ¬ (b < a) → Go G cc mt nx d bc bs (pc + 3) ls st w K X) : Go G cc mt nx d bc bs pc ls (vi b :: vi a :: st) w K X := by
  intro p e R s m args below meth c Q H locs cells slots la C EK EX hl hw hS h1 h2
  exact lv_icmp_gt C.1 C.2.1 dec ht (fun h => kt ((iI_lt hb ha).mp h) p e R s m args below meth c Q H locs cells slots la C EK EX hl hw hS h1 h2) (fun h => kf (fun q => h ((iI_lt hb ha).mpr q)) p e R s m args below meth c Q H locs cells slots la C EK EX hl hw hS h1 h2)
theorem Go_icmp_le {a b : Int} {off : Int} {tgt : Nat} (dec : decode cc pc = .ok (.if_icmp .le off, 3)) (ht : (pc : Int) + off = (tgt : Int)) (ha : inR a) (hb : inR b) (kt : a ≤ b → Go G cc mt nx d bc bs tgt ls st w K X) (kf : ¬ (a ≤ b) → Go G cc mt nx d bc bs (pc + 3) ls st w K X) : Go G cc mt nx d bc bs pc ls (vi b :: vi a :: st) w K X := by
  intro p e R s m args below meth c Q H locs cells slots la C EK EX hl hw hS h1 h2
  exact lv_icmp_le C.1 C.2.1 dec ht (fun h => kt ((iI_le ha hb).mp h) p e R s m args below meth c Q H locs cells slots la C EK EX hl hw hS h1 h2) (fun h => kf (fun q => h ((iI_le ha hb).mpr q)) p e R s m args below meth c Q H locs cells slots la C EK EX hl hw hS h1 h2)
theorem Go_if_eq {a : Int} {off : Int} {tgt : Nat} (dec : decode cc pc = .ok (.ifCond .eq off, 3)) (ht : (pc : Int) + off = (tgt : Int)) (ha : inR a) (kt : a = 0 → Go G cc mt nx d bc bs tgt ls st w K X) (kf : ¬ (a = 0) → Go G cc mt nx d bc bs (pc + 3) ls st w K X) : Go G cc mt nx d bc bs pc ls (vi a :: st) w K X := by
  intro p e R s m args below meth c Q H locs cells slots la C EK EX hl hw hS h1 h2
  exact lv_if_eq C.1 C.2.1 dec ht (fun h => kt ((iI_eq ha inR_0).mp h) p e R s m args below meth c Q H locs cells slots la C EK EX hl hw hS h1 h2) (fun h => kf (fun q => h ((iI_eq ha inR_0).mpr q)) p e R s m args below meth c Q H locs cells slots la C EK EX hl hw hS h1 h2)
theorem Go_if_ne {a : Int} {off : Int} {tgt : Nat} (dec : decode cc pc = .ok (.ifCond .ne off, 3)) (ht : (pc : Int) + off = (tgt : Int)) (ha : inR a) (kt : ¬ a = 0 → Go G cc mt nx d bc bs tgt ls st w K X) (kf : a = 0 → Go G cc mt nx d bc bs (pc + 3) ls st w K X) : Go G cc mt nx d bc bs pc ls (vi a :: st) w K X := by
  intro p e R s m args below meth c Q H locs cells slots la C EK EX hl hw hS h1 h2
  exact lv_if_ne C.1 C.2.1 dec ht (fun h => kt (fun q => h ((iI_eq ha inR_0).mpr q)) p e R s m args below meth c Q H locs cells slots la C EK EX hl hw hS h1 h2) (fun h => kf ((iI_eq ha inR_0).mp h) p e R s m args below meth c Q H locs cells slots la C EK EX hl hw hS h1 h2)
theorem Go_if_lt {a : Int} {off : Int} {tgt : Nat} (dec : decode cc pc = .ok (.ifCond .lt off, 3)) (ht : (pc : Int) + off = (tgt : Int)) (ha : inR a) (kt : a < 0 → Go G cc mt nx d bc bs tgt ls st w K X) (kf : ¬ (a < 0) → Go G cc mt nx d bc bs (pc + 3) ls st w K X) : Go G cc mt nx d bc bs pc ls (vi a :: st) w K X := by
  intro p e R s m args below meth c Q H locs cells slots la C EK EX hl hw hS h1 h2
  exact lv_if_lt C.1 C.2.1 dec ht (fun h => kt ((iI_lt ha inR_0).mp h) p e R s m args below meth c Q H locs cells slots la C EK EX hl hw hS h1 h2) (fun h => kf (fun q => h ((iI_lt ha inR_0).mpr q)) p e R s m args below meth c Q H locs cells slots la C EK EX hl hw hS h1 h2)
theorem Go_if_ge {a : Int} {off : Int} {tgt : Nat} (dec : decode cc pc = .ok (.ifCond .ge off, 3)) (ht : (pc : Int) + off = (tgt : Int)) (ha : inR a) (kt : 0 ≤ a → Go G cc mt nx d bc bs tgt ls st w K X) (kf : ¬ (0 ≤ a) → Go G cc mt nx d bc bs (pc + 3) ls st w K X) : Go G cc mt nx d bc bs pc ls (vi a :: st) w K X := by
  intro p e R s m args below meth c Q H locs cells slots la C EK EX hl hw hS h1 h2
  exact lv_if_ge C.1 C.2.1 dec ht (fun h => kt ((iI_le inR_0 ha).mp h) p e R s m args below meth c Q H locs cells slots la C EK EX hl hw hS h1 h2) (fun h => kf (fun q => h ((iI_le inR_0 ha).mpr q)) p e R s m args below meth c Q H locs cells slots la C EK EX hl hw hS h1 h2)
theorem Go_if_gt {a : Int} {off : Int} {tgt : Nat} (dec : decode cc pc = .ok (.ifCond .gt off, 3)) (ht : (pc : Int) + off = (tgt : Int)) (ha : inR a) (kt : 0 < a → Go G cc mt nx d bc bs tgt ls st w K X) (kf : ¬ (0 < a) → Go G cc mt nx d bc bs (pc + 3) ls st w K X) : Go G cc mt nx d bc bs pc ls (vi a :: st) w K X := by
  intro p e R s m args below meth c Q H locs cells slots la C EK EX hl hw hS h1 h2
  exact lv_if_gt C.1 C.2.1 dec ht (fun h => kt ((iI_lt inR_0 ha).mp h) p e R s m args below meth c Q H locs cells slots la C EK EX hl hw hS h1 h2) (fun h => kf (fun q => h ((iI_lt inR_0 ha).mpr q)) p e R s m args below meth c Q H locs cells slots la C EK EX hl hw hS h1 h2)
theorem Go_if_le {a : Int} {off : Int} {tgt : Nat} (dec : decode cc pc = .ok (.ifCond .le off, 3)) (ht : (pc : Int) + off = (tgt : Int)) (ha : inR a) (kt : a ≤ 0 → Go G cc mt nx d bc bs tgt ls st w K X) (kf : ¬ (a ≤ 0) → Go G cc mt nx d bc bs (pc + 3) ls st w K X) : Go G cc mt nx d bc bs pc ls (vi a :: st) w K X := by
  intro p e R s m args below meth c Q H locs cells slots la C EK EX hl hw hS h1 h2
  exact lv_if_le C.1 C.2.1 dec ht (fun h => kt ((iI_le ha inR_0).mp h) p e R s m args below meth c Q H locs cells slots la C EK EX hl hw hS h1 h2) (fun h => kf (fun q => h ((iI_le ha inR_0).mpr q)) p e R s m args below meth c Q H locs cells slots la C EK EX hl hw hS h1 h2)
end GoRules
end
section
section GoMem
variable {G : Gm} {cc : ByteArray} {mt : Mt} {nx : Option Nat} {d bc bs pc : Nat} {ls : List (Option Vl)} {st : List Vl} {w : Wd} {K : Kt} {X : Xt}
/-- a value of one slot, or none known -/
def c1 : Option Vl → Bool
  | some (.inr (.inr (.inl _))) => false
  | some (.inr (.inr (.inr (.inl _)))) => false
  | _ => true
theorem lsOK_list {G : Gm} {la : Array Slot} {ls : List (Option Vl)} (h : lsOK G la ls) : lv_has la ls.length ((List.range ls.length).filterMap fun i => (ls.getD i none).map fun v => (i, cv G v)) := by
  refine ⟨h.1, h.2.1, fun q hq => ?_⟩
  obtain ⟨i, hi, hv⟩ := List.mem_filterMap.mp hq
  cases hg : ls.getD i none with
  | none => rw [hg] at hv; cases hv
  | some v =>
    rw [hg] at hv
    cases hv
    refine h.2.2 i v ?_
    rw [List.getD_eq_getElem?_getD] at hg
    cases hx : ls[i]? with
    | none => rw [hx] at hg; cases hg
    | some y => rw [hx] at hg; exact congrArg some hg
theorem cv_cat1 {G : Gm} {v : Vl} (h : c1 (some v) = true) : (cv G v).category = 1 := by
  match v with
  | .inl z => rfl
  | .inr (.inl a) => rfl
  | .inr (.inr (.inr (.inr x))) => rfl
  | .inr (.inr (.inl z)) => cases h
  | .inr (.inr (.inr (.inl z))) => cases h
/-- one local of one slot is stored -/
theorem lsOK_store {G : Gm} {la : Array Slot} {ls : List (Option Vl)} {i : Nat} {v : Vl} (h : lsOK G la ls) (hi : i < ls.length) (hv : c1 (some v) = true) (hp : ∀ j : Nat, j + 1 = i → c1 (ls.getD j none) = true) :
    ∀ la' : Array Slot, lv_has la' ls.length ((i, cv G v) :: ((List.range ls.length).filterMap fun i => (ls.getD i none).map fun v => (i, cv G v)).filter (fun q => !(q.1 == i) && !(q.1 + 1 == i && q.2.category == 2))) → lsOK G la' (ls.set i (some v)) := by
  intro la' hl
  refine ⟨by rw [List.length_set]; exact hl.1, hl.2.1, fun j x hj => ?_⟩
  by_cases hji : j = i
  · subst hji
    rw [List.getElem?_set_self hi] at hj
    cases hj
    exact hl.2.2 _ List.mem_cons_self
  · rw [List.getElem?_set_ne (Ne.symm hji)] at hj
    have hjl : j < ls.length := (List.getElem?_eq_some_iff.mp hj).1
    refine hl.2.2 (j, cv G x) (List.mem_cons_of_mem _ (List.mem_filter.mpr ⟨List.mem_filterMap.mpr ⟨j, List.mem_range.mpr hjl, ?_⟩, ?_⟩))
    · rw [List.getD_eq_getElem?_getD, hj]
      rfl
    · simp only [Bool.and_eq_true, Bool.not_eq_true', beq_eq_false_iff_ne, ne_eq, Bool.and_eq_false_iff]
      refine ⟨hji, ?_⟩
      by_cases h1 : j + 1 = i
      · right
        have := hp j h1
        rw [List.getD_eq_getElem?_getD, hj] at this
        rw [cv_cat1 this]
        decide
      · exact Or.inl h1
theorem Go_istore_n {j : Fin 4} {i : Nat} {z : Int} {ls' : List (Option Vl)} (dec : decode cc pc = .ok (.istore_n j, 1)) (hi : (j : Nat) = i) (hl' : ls.set i (some (vi z)) = ls') (hn : i < ls.length) (hp : ∀ j : Nat, j + 1 = i → c1 (ls.getD j none) = true) (k : Go G cc mt nx d bc bs (pc + 1) ls' st w K X) : Go G cc mt nx d bc bs pc ls (vi z :: st) w K X := by
  intro p e R s m args below meth c Q H locs cells slots la C EK EX hl hw hS h1 h2
  subst hl'
  refine lv_istore_n C.1 C.2.1 dec hi (lsOK_list hl) hn rfl (fun la' hla => ?_)
  have hk := lsOK_store (v := vi z) hl hn rfl hp la' hla
  exact k p e R s m args below meth c Q H locs cells slots la' (by rw [List.length_set]; exact C) EK EX hk hw hS h1 h2
theorem Go_istore {i : Nat} {z : Int} {ls' : List (Option Vl)} (dec : decode cc pc = .ok (.istore i, 2)) (hl' : ls.set i (some (vi z)) = ls') (hn : i < ls.length) (hp : ∀ j : Nat, j + 1 = i → c1 (ls.getD j none) = true) (k : Go G cc mt nx d bc bs (pc + 2) ls' st w K X) : Go G cc mt nx d bc bs pc ls (vi z :: st) w K X := by
  intro p e R s m args below meth c Q H locs cells slots la C EK EX hl hw hS h1 h2
  subst hl'
  refine lv_istore C.1 C.2.1 dec (lsOK_list hl) hn rfl (fun la' hla => ?_)
  have hk := lsOK_store (v := vi z) hl hn rfl hp la' hla
  exact k p e R s m args below meth c Q H locs cells slots la' (by rw [List.length_set]; exact C) EK EX hk hw hS h1 h2
theorem Go_astore_n {j : Fin 4} {i a : Nat} {ls' : List (Option Vl)} (dec : decode cc pc = .ok (.astore_n j, 1)) (hi : (j : Nat) = i) (hl' : ls.set i (some (vr a)) = ls') (hn : i < ls.length) (hp : ∀ j : Nat, j + 1 = i → c1 (ls.getD j none) = true) (k : Go G cc mt nx d bc bs (pc + 1) ls' st w K X) : Go G cc mt nx d bc bs pc ls (vr a :: st) w K X := by
  intro p e R s m args below meth c Q H locs cells slots la C EK EX hl hw hS h1 h2
  subst hl'
  refine lv_astore_n C.1 C.2.1 dec hi (lsOK_list hl) hn rfl (fun la' hla => ?_)
  have hk := lsOK_store (v := vr a) hl hn rfl hp la' hla
  exact k p e R s m args below meth c Q H locs cells slots la' (by rw [List.length_set]; exact C) EK EX hk hw hS h1 h2
theorem Go_astore {i a : Nat} {ls' : List (Option Vl)} (dec : decode cc pc = .ok (.astore i, 2)) (hl' : ls.set i (some (vr a)) = ls') (hn : i < ls.length) (hp : ∀ j : Nat, j + 1 = i → c1 (ls.getD j none) = true) (k : Go G cc mt nx d bc bs (pc + 2) ls' st w K X) : Go G cc mt nx d bc bs pc ls (vr a :: st) w K X := by
  intro p e R s m args below meth c Q H locs cells slots la C EK EX hl hw hS h1 h2
  subst hl'
  refine lv_astore C.1 C.2.1 dec (lsOK_list hl) hn rfl (fun la' hla => ?_)
  have hk := lsOK_store (v := vr a) hl hn rfl hp la' hla
  exact k p e R s m args below meth c Q H locs cells slots la' (by rw [List.length_set]; exact C) EK EX hk hw hS h1 h2
/-- the place of a local among the listed ones -/
theorem lsOK_place {G : Gm} {la : Array Slot} {ls : List (Option Vl)} {i : Nat} {v : Vl} (h : ls[i]? = some (some v)) : ∃ k : Nat, ((List.range ls.length).filterMap fun i => (ls.getD i none).map fun v => (i, cv G v))[k]? = some (i, cv G v) := by
  have hi : i < ls.length := (List.getElem?_eq_some_iff.mp h).1
  refine List.getElem?_of_mem (List.mem_filterMap.mpr ⟨i, List.mem_range.mpr hi, ?_⟩)
  rw [List.getD_eq_getElem?_getD, h]
  rfl
theorem Go_iinc {i : Nat} {n z : Int} {ls' : List (Option Vl)} (dec : decode cc pc = .ok (.iinc i n, 3)) (h : ls[i]? = some (some (vi z))) (hl' : ls.set i (some (vi (z + n))) = ls') (hp : ∀ j : Nat, j + 1 = i → c1 (ls.getD j none) = true) (k : Go G cc mt nx d bc bs (pc + 3) ls' st w K X) : Go G cc mt nx d bc bs pc ls st w K X := by
  intro p e R s m args below meth c Q H locs cells slots la C EK EX hl hw hS h1 h2
  subst hl'
  have hn : i < ls.length := (List.getElem?_eq_some_iff.mp h).1
  obtain ⟨k0, hk0⟩ := lsOK_place (G := G) (la := la) h
  refine lv_iinc (v := Int32.ofInt (z + n)) C.1 C.2.1 dec (lsOK_list hl) hk0 (by rw [← Int32.ofInt_add]) hn rfl (fun la' hla => ?_)
  have hk := lsOK_store (v := vi (z + n)) hl hn rfl hp la' hla
  exact k p e R s m args below meth c Q H locs cells slots la' (by rw [List.length_set]; exact C) EK EX hk hw hS h1 h2
theorem cont_1 {G : Gm} {nx : Option Nat} {w : Wd} {a ci : Nat} (h : SH a = (1, ci)) : cont G nx w a = .inr (ci, flds G nx w a ci) := by unfold cont; rw [h]; rfl
theorem cont_2 {G : Gm} {nx : Option Nat} {w : Wd} {a n : Nat} (h : SH a = (2, n)) : cont G nx w a = .inl (Gc G 2, n, .inl (fun j => Int32.ofInt (w a j))) := by unfold cont; rw [h]; rfl
theorem cont_3 {G : Gm} {nx : Option Nat} {w : Wd} {a n : Nat} (h : SH a = (3, n)) : cont G nx w a = .inl (Gc G 3, n, .inl (fun j => Int32.ofInt (w a j))) := by unfold cont; rw [h]; rfl
theorem cont_4 {G : Gm} {nx : Option Nat} {w : Wd} {a n : Nat} (h : SH a = (4, n)) : cont G nx w a = .inl (Gc G 4, n, .inl (fun j => Int32.ofInt (w a j))) := by unfold cont; rw [h]; rfl
theorem cont_5 {G : Gm} {nx : Option Nat} {w : Wd} {a n : Nat} (h : SH a = (5, n)) : cont G nx w a = .inl (Gc G 5, n, .inr (.inr (.inr (.inr (fun j => rfo G (w a j)))))) := by unfold cont; rw [h]; rfl
theorem cont_6 {G : Gm} {nx : Option Nat} {w : Wd} {a n : Nat} (h : SH a = (6, n)) : cont G nx w a = .inl (Gc G 6, n, .inr (.inr (.inr (.inr (fun j => rfo G (rv nx w a j)))))) := by unfold cont; rw [h]; rfl
theorem cont_7 {G : Gm} {nx : Option Nat} {w : Wd} {a n : Nat} (h : SH a = (7, n)) : cont G nx w a = .inl (Gc G 7, n, .inr (.inl (fun j => Int64.ofInt (w a j)))) := by unfold cont; rw [h]; rfl
theorem cont_8 {G : Gm} {nx : Option Nat} {w : Wd} {a n : Nat} (h : SH a = (8, n)) : cont G nx w a = .inl (Gc G 8, n, .inr (.inr (.inr (.inl (fun j => UInt64.ofNat (w a j).toNat))))) := by unfold cont; rw [h]; rfl
theorem rv_up {nx : Option Nat} {w : Wd} {a k : Nat} {z : Int} {b j : Nat} (h : b ≠ a) : rv nx (up w a k z) b j = rv nx w b j := by
  cases nx with
  | none => rfl
  | some n => exact up_a h
theorem cont_up {G : Gm} {nx : Option Nat} {w : Wd} {a k : Nat} {z : Int} {b : Nat} (h : b ≠ a) : cont G nx (up w a k z) b = cont G nx w b := by
  unfold cont flds
  simp only [up_a h, rv_up h]
/-- the world at a cell -/
theorem wl_e (G : Gm) {nx : Option Nat} (w : Wd) {a k n : Nat} {E : va_E} (hs : SH a = (k, n)) (hk : k ≠ 0) (hx : okx nx a) (he : cont G nx w a = E) : (wl G nx w)[a - 1]? = some (rho G a, E) := by
  rw [← he]
  exact wl_at G w (okx_cnt hs hk hx).1 (okx_cnt hs hk hx).2
theorem wl_inv (G : Gm) {nx : Option Nat} (w : Wd) {k : Nat} {q : Nat × va_E} (h : (wl G nx w)[k]? = some q) : k < cnt nx ∧ q = (rho G (k + 1), cont G nx w (k + 1)) := by
  have hl : k < cnt nx := by rw [← wl_len G nx w]; exact (List.getElem?_eq_some_iff.mp h).1
  refine ⟨hl, ?_⟩
  have h2 := wl_at G (nx := nx) w (a := k + 1) (by omega) (by omega)
  rw [show k + 1 - 1 = k by omega, h] at h2
  exact Option.some.inj h2
theorem rho_ne (G : Gm) {a b : Nat} (ha : a ≤ NA) (hb : b ≤ NA) (ha1 : 1 ≤ a) (hb1 : 1 ≤ b) (h : a ≠ b) : rho G a ≠ rho G b := by
  rw [rho_own G ha, rho_own G hb]
  omega
theorem wholds_put {G : Gm} {nx : Option Nat} {w : Wd} {H H1 : Heap} {a i k n : Nat} {z : Int} (hs : SH a = (k, n)) (hk : k ≠ 0) (hw : wholds G nx w H) (hz : H1.size = H.size) (oq : ∀ q, q ≠ rho G a → H1[q]? = H[q]?) (hat : va_at (GD G) vwCl (rho G a, cont G nx (up w a i z) a) H1) : wholds G nx (up w a i z) H1 := by
  refine ⟨fun j q hj => ?_, fun n hn => by rw [hz]; exact hw.2 n hn⟩
  obtain ⟨hl, rfl⟩ := wl_inv G _ hj
  have hc := wholds_cnt hw
  have hsl := SH_lt hs hk
  by_cases hja : j + 1 = a
  · rw [hja]; exact hat
  · rw [cont_up hja]
    have h0 := hw.1 j _ (by have := wl_at G (nx := nx) w (a := j + 1) (by omega) (by omega); rw [show j + 1 - 1 = j by omega] at this; exact this)
    exact h0.kept (oq _ (rho_ne G (by omega) hsl.2 (by omega) hsl.1 hja))
theorem own_in {G : Gm} {a k n : Nat} (hs : SH a = (k, n)) (hk : k ≠ 0) : ownA G (rho G a) := by
  rw [rho_own G (SH_lt hs hk).2]
  show Gb G ≤ _
  omega
theorem Go_gfi {a ci k idx : Nat} (dec : decode cc pc = .ok (.getfield idx, 3)) (f : FL mt.2.1 idx ci k) (hs : SH a = (1, ci)) (hx : okx nx a) (hk : (ftl ci)[k]? = some false) (kk : Go G cc mt nx d bc bs (pc + 3) ls (vi (w a k) :: st) w K X) : Go G cc mt nx d bc bs pc ls (vr a :: st) w K X := by
  intro p e R s m args below meth c Q H locs cells slots la C EK EX hl hw hS h1 h2
  obtain ⟨⟨r0, ty, hr0, hin, -, -⟩, r, hr, hlt, hsame, hfl⟩ := f
  obtain ⟨cx, cb, -, co, ct, -, -, -, -, -, cK, -⟩ := id C
  cases hr0.symm.trans hr
  have hat := wl_e G w hs (by decide) hx (cont_1 hs)
  refine va_get (ref := r0.1) (v := .int (Int32.ofInt (w a k))) cx cb ct hin co cK.1 hw.1 (a - 1) hat hr k hlt (ct _ hfl) (fun x h => by rw [← hsame]; exact h) ?_ dec (kk p e R s m args below meth c Q H locs cells slots la C EK EX hl hw hS h1 h2)
  unfold flds
  rw [List.getElem?_mapIdx, hk]
  rfl
theorem Go_gfr {a b ci k idx : Nat} (dec : decode cc pc = .ok (.getfield idx, 3)) (f : FL mt.2.1 idx ci k) (hs : SH a = (1, ci)) (hx : okx nx a) (hk : (ftl ci)[k]? = some true) (hb : rv nx w a k = (b : Int)) (hb0 : b ≠ 0) (kk : Go G cc mt nx d bc bs (pc + 3) ls (vr b :: st) w K X) : Go G cc mt nx d bc bs pc ls (vr a :: st) w K X := by
  intro p e R s m args below meth c Q H locs cells slots la C EK EX hl hw hS h1 h2
  obtain ⟨⟨r0, ty, hr0, hin, -, -⟩, r, hr, hlt, hsame, hfl⟩ := f
  obtain ⟨cx, cb, -, co, ct, -, -, -, -, -, cK, -⟩ := id C
  cases hr0.symm.trans hr
  have hat := wl_e G w hs (by decide) hx (cont_1 hs)
  refine va_get (ref := r0.1) (v := .ref (rho G b)) cx cb ct hin co cK.1 hw.1 (a - 1) hat hr k hlt (ct _ hfl) (fun x h => by rw [← hsame]; exact h) ?_ dec (kk p e R s m args below meth c Q H locs cells slots la C EK EX hl hw hS h1 h2)
  unfold flds
  rw [List.getElem?_mapIdx, hk]
  have hne : ¬ ((b : Int) = 0) := by omega
  simp [fldv, rfo, hb, hb0, va_rf]
theorem flds_at {G : Gm} {nx : Option Nat} {w : Wd} {a ci k : Nat} {z : Int} {b : Bool} (hk : (ftl ci)[k]? = some b) (j : Nat) : vp_V (flds G nx (up w a k z) a ci) j = updV (vp_V (flds G nx w a ci)) k (fldv G b (if b then rv nx (up w a k z) a k else z)) j := by
  have hlt : k < (ftl ci).length := (List.getElem?_eq_some_iff.mp hk).1
  unfold vp_V updV
  by_cases hj : j = k
  · subst hj
    rw [if_pos rfl]
    unfold flds
    rw [List.getD_eq_getElem?_getD, List.getElem?_mapIdx, hk]
    simp [up_s]
  · rw [if_neg hj]
    have e1 : up w a k z a j = w a j := up_k hj
    have e2 : rv nx (up w a k z) a j = rv nx w a j := by
      cases nx with
      | none => rfl
      | some n => exact e1
    show (flds G nx (up w a k z) a ci).getD j .null = (flds G nx w a ci).getD j .null
    unfold flds
    simp only [List.getD_eq_getElem?_getD, List.getElem?_mapIdx, e1, e2]
theorem Go_pfi {a ci k idx : Nat} {z : Int} (dec : decode cc pc = .ok (.putfield idx, 3)) (f : FL mt.2.1 idx ci k) (hs : SH a = (1, ci)) (hx : okx nx a) (hk : (ftl ci)[k]? = some false) (hty : ∀ r : vw_C, vwCl[ci]? = some r → (r.2.1 k).2.2.1 = "I" ∧ (r.2.1 k).2.2.2 = false) (kk : Go G cc mt nx d bc bs (pc + 3) ls st (up w a k z) K X) : Go G cc mt nx d bc bs pc ls (vi z :: vr a :: st) w K X := by
  intro p e R s m args below meth c Q H locs cells slots la C EK EX hl hw hS h1 h2
  obtain ⟨⟨r0, ty, hr0, hin, htyok, hnm⟩, r, hr, hlt, hsame, hfl⟩ := f
  obtain ⟨cx, cb, -, co, ct, -, -, -, -, -, cK, -⟩ := id C
  cases hr0.symm.trans hr
  have hat := hw.1 _ _ (wl_e G w hs (by decide) hx (cont_1 hs))
  obtain ⟨hI, hF⟩ := hty _ hr
  have hap := va_apart (own := mt.2.1) ct hin ty htyok hnm cK.1 hr
  obtain ⟨r1, e1, cell, q1, q2, q3, q4⟩ := hat
  cases e1.symm.trans hr
  obtain ⟨hSl, hfc, kC, hkC, hkind⟩ := cK.1.1 ci _ hr
  obtain ⟨cf, kf, fi, f, hi, hsl⟩ := hSl k hlt
  have hlay := ct _ (hin _ (u_in_lay hlt))
  unfold u_lay at hlay
  rw [if_neg (by rw [hF]; decide)] at hlay
  have hst := (u_facts hfc hkC (u_lays ct hin hlt) hi).1
  have h6 := u_store (v := .int (Int32.ofInt z)) (ty := .int) hfc hkC hkind hlay hi (by rw [hI]; decide) rfl rfl
  refine W.putK (ref := r0.1) cx cb (f := f) ⟨co, ct _ hfl, ⟨_, _, _, (by rw [← hsame]; exact hi)⟩, hst⟩ (by rw [q2]; exact h6) q1 q3 (by rw [hsl]; exact k2_hasslot (q4 k hlt)) rfl rfl dec fun H' g1 g2 g3 => ?_
  rw [hsl] at g1 ⊢
  refine kk p e R s m args below meth c Q H' _ cells slots la C EK EX hl (wholds_put hs (by decide) hw g2 g3 ?_) (hS.put g2 g3 (own_in hs (by decide))) h1 h2
  rw [cont_1 hs]
  exact ⟨_, hr, t_OB.to (V := updV (vp_V (flds G nx w a ci)) k (.int (Int32.ofInt z))) ⟨_, g1, q2, q3, t_set q4 hap hlt _⟩ (fun j _ => (flds_at (b := false) hk j).symm)⟩
theorem KS_ty {G : Gm} {U : State} {H : Heap} (h : KS G U H) (k : Nat) {cA : ClassId} {ty : FieldType} (e : (tyl G)[k]? = some (cA, ty)) (n : Nat) (z : Nat → Value) : U.isArrayOf (arrV cA n z) ty := (h.1.2 k _ e).1 n z
theorem Go_iald {a n : Nat} {z : Int} (dec : decode cc pc = .ok (.iaload, 1)) (hs : SH a = (2, n)) (hx : okx nx a) (hz0 : 0 ≤ z) (hz : z < n) (hn : n < 2147483648) (kk : Go G cc mt nx d bc bs (pc + 1) ls (vi (w a z.toNat) :: st) w K X) : Go G cc mt nx d bc bs pc ls (vi z :: vr a :: st) w K X := by
  intro p e R s m args below meth c Q H locs cells slots la C EK EX hl hw hS h1 h2
  obtain ⟨cx, cb, -, co, ct, -, -, -, -, -, cK, -⟩ := id C
  obtain ⟨i1, i2⟩ := iI_in hz0 hz hn
  refine va_iald cx cb cK.1 hw.1 (a - 1) 0 (wl_e G w hs (by decide) hx (cont_2 hs)) rfl i1 dec ?_
  rw [i2]
  exact kk p e R s m args below meth c Q H locs cells slots la C EK EX hl hw hS h1 h2
theorem Go_cald {a n : Nat} {z : Int} (dec : decode cc pc = .ok (.caload, 1)) (hs : SH a = (3, n)) (hx : okx nx a) (hz0 : 0 ≤ z) (hz : z < n) (hn : n < 2147483648) (kk : Go G cc mt nx d bc bs (pc + 1) ls (vi (w a z.toNat) :: st) w K X) : Go G cc mt nx d bc bs pc ls (vi z :: vr a :: st) w K X := by
  intro p e R s m args below meth c Q H locs cells slots la C EK EX hl hw hS h1 h2
  obtain ⟨cx, cb, -, co, ct, -, -, -, -, -, cK, -⟩ := id C
  obtain ⟨i1, i2⟩ := iI_in hz0 hz hn
  refine va_cald cx cb cK.1 hw.1 (a - 1) 1 (wl_e G w hs (by decide) hx (cont_3 hs)) rfl i1 dec ?_
  rw [i2]
  exact kk p e R s m args below meth c Q H locs cells slots la C EK EX hl hw hS h1 h2
theorem Go_zald {a n : Nat} {z : Int} (dec : decode cc pc = .ok (.baload, 1)) (hs : SH a = (4, n)) (hx : okx nx a) (hz0 : 0 ≤ z) (hz : z < n) (hn : n < 2147483648) (kk : Go G cc mt nx d bc bs (pc + 1) ls (vi (w a z.toNat) :: st) w K X) : Go G cc mt nx d bc bs pc ls (vi z :: vr a :: st) w K X := by
  intro p e R s m args below meth c Q H locs cells slots la C EK EX hl hw hS h1 h2
  obtain ⟨cx, cb, -, co, ct, -, -, -, -, -, cK, -⟩ := id C
  obtain ⟨i1, i2⟩ := iI_in hz0 hz hn
  refine va_zald cx cb cK.1 hw.1 (a - 1) 2 (wl_e G w hs (by decide) hx (cont_4 hs)) rfl i1 dec ?_
  rw [i2]
  exact kk p e R s m args below meth c Q H locs cells slots la C EK EX hl hw hS h1 h2
/-- an array of trails: its elements move -/
theorem Go_aald5 {a b n : Nat} {z : Int} (dec : decode cc pc = .ok (.aaload, 1)) (hs : SH a = (5, n)) (hx : okx nx a) (hz0 : 0 ≤ z) (hz : z < n) (hn : n < 2147483648) (hb : w a z.toNat = (b : Int)) (hb0 : b ≠ 0) (kk : Go G cc mt nx d bc bs (pc + 1) ls (vr b :: st) w K X) : Go G cc mt nx d bc bs pc ls (vi z :: vr a :: st) w K X := by
  intro p e R s m args below meth c Q H locs cells slots la C EK EX hl hw hS h1 h2
  obtain ⟨cx, cb, -, co, ct, -, -, -, -, -, cK, -⟩ := id C
  obtain ⟨i1, i2⟩ := iI_in hz0 hz hn
  refine va_aldq cx cb cK.1 hw.1 (a - 1) 3 (wl_e G w hs (by decide) hx (cont_5 hs)) rfl i1 dec ?_
  have e9 : va_rf (rfo G (w a z.toNat)) = .ref (rho G b) := by
    have hne : ¬ ((b : Int) = 0) := by omega
    simp [rfo, hb, hb0, va_rf]
  rw [i2, e9]
  exact kk p e R s m args below meth c Q H locs cells slots la C EK EX hl hw hS h1 h2
theorem Go_aald6 {a b n : Nat} {z : Int} (dec : decode cc pc = .ok (.aaload, 1)) (hs : SH a = (6, n)) (hx : okx nx a) (hz0 : 0 ≤ z) (hz : z < n) (hn : n < 2147483648) (hb : rv nx w a z.toNat = (b : Int)) (hb0 : b ≠ 0) (kk : Go G cc mt nx d bc bs (pc + 1) ls (vr b :: st) w K X) : Go G cc mt nx d bc bs pc ls (vi z :: vr a :: st) w K X := by
  intro p e R s m args below meth c Q H locs cells slots la C EK EX hl hw hS h1 h2
  obtain ⟨cx, cb, -, co, ct, -, -, -, -, -, cK, -⟩ := id C
  obtain ⟨i1, i2⟩ := iI_in hz0 hz hn
  refine va_aldq cx cb cK.1 hw.1 (a - 1) 4 (wl_e G w hs (by decide) hx (cont_6 hs)) rfl i1 dec ?_
  have e9 : va_rf (rfo G (rv nx w a z.toNat)) = .ref (rho G b) := by
    have hne : ¬ ((b : Int) = 0) := by omega
    simp [rfo, hb, hb0, va_rf]
  rw [i2, e9]
  exact kk p e R s m args below meth c Q H locs cells slots la C EK EX hl hw hS h1 h2
theorem Go_iast {a n : Nat} {x z : Int} (dec : decode cc pc = .ok (.iastore, 1)) (hs : SH a = (2, n)) (hx : okx nx a) (hz0 : 0 ≤ z) (hz : z < n) (hn : n < 2147483648) (kk : Go G cc mt nx d bc bs (pc + 1) ls st (up w a z.toNat x) K X) : Go G cc mt nx d bc bs pc ls (vi x :: vi z :: vr a :: st) w K X := by
  intro p e R s m args below meth c Q H locs cells slots la C EK EX hl hw hS h1 h2
  obtain ⟨cx, cb, -, co, ct, -, -, -, -, -, cK, -⟩ := id C
  obtain ⟨i1, i2⟩ := iI_in hz0 hz hn
  refine W.iast cx cb (hw.1 _ _ (wl_e G w hs (by decide) hx (cont_2 hs))) (KS_ty cK 0 rfl n _) (fun q => by cases q) (by show ¬ (_ < 0 ∨ (arrV _ _ _).slots.size ≤ _); rw [arrV_size]; exact i1) rfl rfl dec fun H1 g1 g2 g3 => ?_
  refine kk p e R s m args below meth c Q H1 _ cells slots la C EK EX hl (wholds_put hs (by decide) hw g2 g3 ?_) (hS.put g2 g3 (own_in hs (by decide))) h1 h2
  rw [cont_2 hs]
  show H1[_]? = some (vp_cell _ _)
  rw [g1, i2, vp_cell_i, vp_cell_i, arrV_store]
  congr 2
  funext q
  by_cases hq : q = z.toNat
  · subst hq; simp [updV, up]
  · simp [updV, up, hq]
theorem Go_zast {a n : Nat} {x z : Int} (dec : decode cc pc = .ok (.bastore, 1)) (hs : SH a = (4, n)) (hx : okx nx a) (hz0 : 0 ≤ z) (hz : z < n) (hn : n < 2147483648) (hv : x = 0 ∨ x = 1) (kk : Go G cc mt nx d bc bs (pc + 1) ls st (up w a z.toNat x) K X) : Go G cc mt nx d bc bs pc ls (vi x :: vi z :: vr a :: st) w K X := by
  intro p e R s m args below meth c Q H locs cells slots la C EK EX hl hw hS h1 h2
  obtain ⟨cx, cb, -, co, ct, -, -, -, -, -, cK, -⟩ := id C
  obtain ⟨i1, i2⟩ := iI_in hz0 hz hn
  have hnar : narrow .boolean (.int (Int32.ofInt x)) = .int (Int32.ofInt x) := by
    rcases hv with rfl | rfl <;> decide
  refine W.zast cx cb (hw.1 _ _ (wl_e G w hs (by decide) hx (cont_4 hs))) (KS_ty cK 2 rfl n _) (fun q => by cases q) (by show ¬ (_ < 0 ∨ (arrV _ _ _).slots.size ≤ _); rw [arrV_size]; exact i1) rfl rfl dec fun H1 g1 g2 g3 => ?_
  refine kk p e R s m args below meth c Q H1 _ cells slots la C EK EX hl (wholds_put hs (by decide) hw g2 g3 ?_) (hS.put g2 g3 (own_in hs (by decide))) h1 h2
  rw [cont_4 hs]
  show H1[_]? = some (vp_cell _ _)
  rw [g1, i2, hnar, vp_cell_i, vp_cell_i, arrV_store]
  congr 2
  funext q
  by_cases hq : q = z.toNat
  · subst hq; simp [updV, up]
  · simp [updV, up, hq]
theorem Go_cast {a n : Nat} {x z : Int} (dec : decode cc pc = .ok (.castore, 1)) (hs : SH a = (3, n)) (hx : okx nx a) (hz0 : 0 ≤ z) (hz : z < n) (hn : n < 2147483648) (hv0 : 0 ≤ x) (hv : x < 65536) (kk : Go G cc mt nx d bc bs (pc + 1) ls st (up w a z.toNat x) K X) : Go G cc mt nx d bc bs pc ls (vi x :: vi z :: vr a :: st) w K X := by
  intro p e R s m args below meth c Q H locs cells slots la C EK EX hl hw hS h1 h2
  obtain ⟨cx, cb, -, co, ct, -, -, -, -, -, cK, -⟩ := id C
  obtain ⟨i1, i2⟩ := iI_in hz0 hz hn
  have hnar : narrow .char (.int (Int32.ofInt x)) = .int (Int32.ofInt x) := by
    obtain ⟨q, rfl⟩ := Int.eq_ofNat_of_zero_le hv0
    exact (pk_charN (by omega)).1
  refine W.cast cx cb (hw.1 _ _ (wl_e G w hs (by decide) hx (cont_3 hs))) (KS_ty cK 1 rfl n _) (fun q => by cases q) (by show ¬ (_ < 0 ∨ (arrV _ _ _).slots.size ≤ _); rw [arrV_size]; exact i1) rfl rfl dec fun H1 g1 g2 g3 => ?_
  refine kk p e R s m args below meth c Q H1 _ cells slots la C EK EX hl (wholds_put hs (by decide) hw g2 g3 ?_) (hS.put g2 g3 (own_in hs (by decide))) h1 h2
  rw [cont_3 hs]
  show H1[_]? = some (vp_cell _ _)
  rw [g1, i2, hnar, vp_cell_i, vp_cell_i, arrV_store]
  congr 2
  funext q
  by_cases hq : q = z.toNat
  · subst hq; simp [updV, up]
  · simp [updV, up, hq]
end GoMem
end
section
section GoCall
variable {G : Gm} {cc : ByteArray} {mt : Mt} {nx : Option Nat} {d bc bs pc : Nat} {ls : List (Option Vl)} {st : List Vl} {w : Wd} {K : Kt} {X : Xt}
/-- the words of a method: its own code, and all -/
def wsM (y : MethodName) (cc : ByteArray) (nl : Nat) (mt : Mt) : List Cond := codeW y cc nl mt :: GW
def PcG (G : Gm) (nx : Option Nat) (w : Wd) (as : List Vl) : Array Value → State → Prop := fun v U => v = (as.map (cv G)).toArray ∧ KS G U U.heap ∧ wholds G nx w U.heap ∧ Gb G ≤ U.heap.size
def rvl (G : Gm) (mt : Mt) (v : Vl) : Option Value := match mt.1 with
  | none => none
  | some _ => some (cv G v)
def QcG (G : Gm) (mt : Mt) (K : Kt) : Array Value → State → Outcome → State → Prop := fun _ st o t => ∃ (v : Vl) (nx : Option Nat) (w : Wd), o = .returned (rvl G mt v) ∧ K v nx w ∧ wholds G nx w t.heap ∧ va_F (ownA G) st t
def XcG (G : Gm) (X : Xt) : String → State → State → Prop := fun E st t => ∃ (k : Nat) (nx : Option Nat) (w : Wd), E = exn k ∧ X k nx w ∧ wholds G nx w t.heap ∧ va_F (ownA G) st t
def rmG (d bc bs : Nat) : Room := { frames := d, cells := bc, slots := bs, locals := 40 * d }
/-- a method's contract: from these arguments and this world it returns so that K holds, or throws so that X holds -/
def Ev (G : Gm) (y : MethodName) (cc : ByteArray) (nl : Nat) (mt : Mt) (nx : Option Nat) (d bc bs : Nat) (as : List Vl) (w : Wd) (K : Kt) (X : Xt) : Prop :=
  G.1.stackTraces = false → vx_Met G.1 y (wsM y cc nl mt) (rmG d bc bs) (PcG G nx w as) (QcG G mt K) (XcG G X) bc bs (ownA G)
theorem lsOK_entry {G : Gm} {as : List Vl} {nl : Nat} (ha : ∀ v ∈ as, c1 (some v) = true) (hn : as.length ≤ nl) : lsOK G (((lg_sl (as.map (cv G))) ++ List.replicate (nl - (lg_sl (as.map (cv G))).length) Slot.unset).toArray) (as.map some ++ List.replicate (nl - as.length) none) := by
  have e : ∀ as : List Vl, (∀ v ∈ as, c1 (some v) = true) → lg_sl (as.map (cv G)) = as.map fun v => Slot.val (cv G v) := by
    intro as
    induction as with
    | nil => intro _; rfl
    | cons v l ih =>
      intro h
      have h1 := cv_cat1 (G := G) (h v List.mem_cons_self)
      have h2 := ih (fun x hx => h x (List.mem_cons_of_mem _ hx))
      unfold lg_sl at h2 ⊢
      rw [List.map_cons, List.flatMap_cons, List.map_cons, h2, if_neg (by omega)]
      rfl
  have e1 := e as ha
  have hlen : (lg_sl (as.map (cv G))).length = as.length := by rw [e1, List.length_map]
  have hb := lv_entry (as.map (cv G)) (n := nl) (by rw [hlen]; exact hn)
  refine ⟨?_, hb.2.1, fun i v hv => ?_⟩
  · rw [hb.1]
    simp
    omega
  · rw [e1]
    have hi : i < as.length := by
      rcases Nat.lt_or_ge i as.length with q | q
      · exact q
      · rw [List.getElem?_append_right (by simp; exact q)] at hv
        rw [List.getElem?_replicate] at hv
        split at hv <;> cases hv
    rw [List.getElem?_append_left (by simp; exact hi), List.getElem?_map] at hv
    rw [List.getElem?_toArray, List.getElem?_append_left (by simp; exact hi), List.getElem?_map]
    cases hx : as[i]? with
    | none => rw [hx] at hv; cases hv
    | some y => rw [hx] at hv; cases hv; rfl
theorem GW_bef {args a' : Array Value} {s U : State} (hW : s.WarmedH U.vm) {w : Cond} (hw : w ∈ GW) (h : w.before args s = true) : w.before a' U = true := word_at hW (good_of_word (GW_good hw)) h
/-- the end of a body -/
theorem endK_of {G : Gm} {cc : ByteArray} {mt : Mt} {p : Program} {e : Env} {R : Room} {s : State} {m : MethodId} {args : Array Value} {below : List Frame} {meth : Method} {c : Code} {K : Kt} {X : Xt} {nl d : Nat} (C : Cx G cc mt d p R s m args meth c nl) :
    EndK G cc mt p e R s m args below meth c (vx_MQ below (QcG G mt K) (XcG G X) args s R.cells R.slots (ownA G)) K := by
  intro v nx w H locs cells slots la pc st hK hw hS h1 h2 hr
  obtain ⟨cx, cb, cr, -, -, cl, -⟩ := C
  refine vx_ret (W.widen h1 h2 ?_)
  have hf : ∀ q ∈ locs, ownA G q.base := hS.2.2
  have hq : ∀ (o : Option Value), o = rvl G mt v → ∀ t : State, t.heap = H → s.WarmedH t.vm → QcG G mt K args s (.returned o) t := fun o ho t ht _ => ⟨v, nx, w, by rw [ho], hK, by rw [ht]; exact hw, hS.F ht⟩
  rcases hr with ⟨h0, hd, rfl, rfl⟩ | ⟨z, ty, rfl, h0, hn, hd, rfl⟩ | ⟨a, rfl, ⟨n, h0⟩, hd, rfl⟩ | ⟨x, rfl, h0, hd, rfl⟩ | ⟨x, rfl, h0, hd, rfl⟩
  · exact W.vret cx cb (by rw [cr, h0]) (hq _ (by rw [rvl, h0])) hf hd cl
  · exact W.zret cx cb (by rw [cr, h0]) hn (hq _ (by rw [rvl, h0]; rfl)) hf hd cl
  · exact W.aret cx cb (by rw [cr, h0]) (Or.inl ⟨n, rfl⟩) (Or.inr ⟨_, rfl⟩) (hq _ (by rw [rvl, h0]; rfl)) hf hd cl
  · exact W.dret cx cb (by rw [cr, h0]) (hq _ (by rw [rvl, h0]; rfl)) hf hd cl
  · exact W.fret cx cb (by rw [cr, h0]) (hq _ (by rw [rvl, h0]; rfl)) hf hd cl
/-- a body's walk gives the contract -/
theorem Ev_intro {y : MethodName} {nl n : Nat} {as : List Vl} (mb : MB y cc nl mt n) (ho : y.cls = mt.2.1) (hi : mt.2.2.1 = true → y.name = "<init>") (ha : ∀ v ∈ as, c1 (some v) = true) (hn : as.length ≤ nl) (htb : mt.2.2.2 = [] ∨ ∀ k nx w, ¬ X k nx w) (k : Go G cc mt nx d bc bs 0 (as.map some ++ List.replicate (nl - as.length) none) [] w K X) : Ev G y cc nl mt nx d bc bs as w K X := by
  intro hst
  obtain ⟨hcode, hini, hmh, har, hpl, hnl, -⟩ := mb
  have main : ∀ (p : Program) (e : Env) (s : State) (m : MethodId) (args : Array Value) (below : List Frame) (meth : Method) (c : Code) (s₁ : State), BodyLoose p G.1 y (headSpec (wsM y cc nl mt) (rmG d bc bs)) cc nl mt.1 e s m args below meth c s₁ → c.maxLocals = nl → c.exceptionTable.toList = tableOf mt.2.2.2 → PcG G nx w as args s →
      W p G.1 e (headSpec (wsM y cc nl mt) (rmG d bc bs)).room s m args below meth c s.heap [] 0 0 (vx_MQ below (QcG G mt K) (XcG G X) args s bc bs (ownA G)) (entryFrame m args nl) := by
    intro p e s m args below meth c s₁ B hml htab hv
    obtain ⟨rfl, hKS, hwh, hsz⟩ := hv
    have hts := atoms_spec (ws := wsM y cc nl mt) B.pre
    have hown : s.vm.findClass mt.2.1 = some m.cls := by rw [← ho]; exact findClass_of_methodNamed B.named
    have hC : Cx G cc mt d p (rmG d bc bs) s m ((as.map (cv G)).toArray) meth c (as.map some ++ List.replicate (nl - as.length) none).length := by
      refine ⟨B.exec, B.bytes, B.returns, hown, fun w hw => hts w (List.mem_cons_of_mem _ hw), B.notSynchronized, fun h => ?_, ?_, Nat.le_refl _, Nat.le_refl _, hKS, hst, hsz, htab⟩
      · rw [(name_of_methodNamed B.named B.method).1]; exact hi h
      · rw [hml]; simp; omega
    have hl := lsOK_entry (G := G) ha hn
    rw [lg_entry_eq]
    refine k p e (rmG d bc bs) s m _ below meth c _ s.heap [] 0 0 _ hC (endK_of hC) ?_ hl hwh va_S.rf (by show 0 + bc ≤ bc; omega) (by show 0 + bs ≤ bs; omega)
    rcases htb with htb | htb
    · refine Or.inr ⟨_, _, bc, bs, rfl, Nat.le_refl _, Nat.le_refl _, ?_, fun k nx w t hX hw hF => ⟨k, nx, w, rfl, hX, hw, hF⟩⟩
      rw [htab, htb]
      intro x hx
      cases hx
    · exact Or.inl htb
  cases htb2 : mt.2.2.2 with
  | nil =>
    refine vx_ofW (cc := cc) (maxL := nl) (ret := mt.1) (ws' := GW) hpl (by unfold wsM codeW; rw [htb2]) ?_
    intro p e s m args below meth c s₁ B hml htab hv
    refine main p e s m args below meth c s₁ B hml ?_ hv
    rw [htb2]
    cases hx : c.exceptionTable.toList with
    | nil => rfl
    | cons x l => exact (htab x (by rw [hx]; exact List.mem_cons_self)).elim
  | cons t ts =>
    have ew : codeW y cc nl mt = Cond.codeWith y cc nl mt.1 (t :: ts) := by unfold codeW; rw [htb2]
    refine vx_ofWH (cc := cc) (maxL := nl) (ret := mt.1) (hh := t :: ts) (ws' := GW) hpl (by unfold wsM; rw [ew]) ?_
    intro p e s m args below meth c s₁ B hml hv
    refine main p e s m args below meth c s₁ B hml ?_ hv
    rw [htb2]
    exact vx_table (x := y) B (atoms_spec (ws := wsM y cc nl mt) B.pre _ (by unfold wsM; rw [ew]; exact List.mem_cons_self))
/-- behind a call: it has returned, or thrown -/
theorem run_go {p : Program} {e : Env} {R : Room} {s : State} {m : MethodId} {args : Array Value} {below : List Frame} {meth : Method} {c : Code} {Q : State → Prop} {H : Heap} {locs : List Loc} {cells slots mc ms : Nat} {la : Array Slot} {st0 rest : List Value} {a : Array Value} {mt' : Mt} {K1 : Kt} {X1 : Xt}
    (hr : vx_Run p G.1 e R s m args below meth c H locs cells slots mc ms (F0 m pc la st0) rest (QcG G mt' K1 a) (XcG G X1) (ownA G)) (hS : va_S (ownA G) s.heap H locs)
    (kk : ∀ (v : Vl) (nx' : Option Nat) (w' : Wd) (H1 : Heap) (locs1 : List Loc), K1 v nx' w' → wholds G nx' w' H1 → va_S (ownA G) s.heap H1 locs1 → W p G.1 e R s m args below meth c H1 locs1 (cells + mc) (slots + ms) Q (F0 m (pc + 3) la ((rvl G mt' v).toList ++ rest)))
    (kx : ∀ (k : Nat) (nx' : Option Nat) (w' : Wd) (H1 : Heap) (locs1 : List Loc) (ce : Cell) (q : Addr), X1 k nx' w' → wholds G nx' w' H1 → va_S (ownA G) s.heap H1 locs1 → H1[q]? = some ce → ce.vm = .none → s.vm.findClass (exn k) = some ce.cls → vx_W p G.1 e R s m args below meth c H1 locs1 (cells + mc) (slots + ms) Q (F0 m pc la rest) q) :
    W p G.1 e R s m args below meth c H locs cells slots Q (F0 m pc la st0) := by
  intro T hT Y
  rcases hr T hT Y with ⟨v, st₀, t, T', L, h0, Y', hL, e1, e2, ⟨v1, nx1, w1, hv, hK, hw, hF⟩, st⟩ | ⟨q, st₀, t, T', L, E, ce, h0, Y', hL, e1, e2, ⟨k, nx1, w1, rfl, hX, hw, hF⟩, hce, hcv, hcl, st⟩
  · cases hv
    obtain ⟨k1, k2, k3⟩ := vx_keep (A0 := ownA G) (A1 := ownA G) (free := ownA G) h0 e1 hS (fun _ _ h => h) (fun _ h => h) hL hF
    obtain ⟨t2, a1, b1⟩ := kk v1 nx1 w1 T'.heap (locs ++ L) hK (by rw [e1]; exact hw) k3 T' rfl Y'
    exact ⟨t2, st t2 a1, b1⟩
  · obtain ⟨k1, k2, k3⟩ := vx_keep (A0 := ownA G) (A1 := ownA G) (free := ownA G) h0 e1 hS (fun _ _ h => h) (fun _ h => h) hL hF
    obtain ⟨t2, a1, b1⟩ := kx k nx1 w1 T'.heap (locs ++ L) ce q hX (by rw [e1]; exact hw) k3 (by rw [e1]; exact hce) hcv hcl T' rfl Y'
    exact ⟨t2, st.trans a1, b1⟩
/-- what is thrown leaves a body without handlers -/
theorem out_go {p : Program} {e : Env} {R : Room} {s : State} {m : MethodId} {args : Array Value} {below : List Frame} {meth : Method} {c : Code} {Q : State → Prop} {la : Array Slot} {rest : List Value} {nl : Nat} (C : Cx G cc mt d p R s m args meth c nl) (EX : EndX G R s args below c Q X) {k : Nat} {nx' : Option Nat} {w' : Wd} {H1 : Heap} {locs1 : List Loc} {cells slots : Nat} {ce : Cell} {q : Addr} (hX : X k nx' w') (hw : wholds G nx' w' H1) (hS : va_S (ownA G) s.heap H1 locs1) (hce : H1[q]? = some ce) (hcv : ce.vm = .none) (hcl : s.vm.findClass (exn k) = some ce.cls) (h1 : cells ≤ R.cells) (h2 : slots ≤ R.slots) :
    vx_W p G.1 e R s m args below meth c H1 locs1 cells slots Q (F0 m pc la rest) q := by
  obtain ⟨-, -, -, -, -, cl, -⟩ := C
  rcases EX with h | ⟨Qc, XC, mc, ms, rfl, hc, hs, htab, hXC⟩
  · exact (h k nx' w' hX).elim
  · exact vx_out (fun x hx => (htab x hx).elim) cl hce hcv hcl (fun t ht _ => hXC k nx' w' t hX (by rw [ht]; exact hw) (hS.F ht)) hS.2.2 (Nat.le_trans h1 hc) (Nat.le_trans h2 hs)
theorem PcG_blind {as : List Vl} : FrameBlind (PcG G nx w as) := fun _ _ _ _ h => ⟨h.1, KS.calling _ _ _ h.2.1, h.2.2.1, h.2.2.2⟩
theorem PcG_at {p : Program} {R : Room} {s : State} {m : MethodId} {args : Array Value} {meth : Method} {c : Code} {nl : Nat} {H : Heap} {locs : List Loc} (C : Cx G cc mt d p R s m args meth c nl) (hw : wholds G nx w H) (hS : va_S (ownA G) s.heap H locs) (as : List Vl) (av : Array Value) (hav : av = (as.map (cv G)).toArray) : ∀ U : State, U.heap = H → s.WarmedH U.vm → PcG G nx w as av U := by
  obtain ⟨-, -, -, -, -, -, -, -, -, -, cK, -, csz, -⟩ := C
  intro U hU hW
  subst hU
  exact ⟨hav, KS.go cK hW hS.2.1, hw, Nat.le_trans csz hS.1⟩
/-- what a call wants of the tables and of the room -/
theorem callB_go {p : Program} {R : Room} {s : State} {m : MethodId} {args : Array Value} {meth : Method} {c : Code} {nl : Nat} (C : Cx G cc mt d p R s m args meth c nl) {y : MethodName} {cc' : ByteArray} {nl' n idx d' bc' bs' : Nat} {mt' : Mt} (mb : MB y cc' nl' mt' n) (ht : mt'.2.2.2 = []) (lk : Cond.methodLink mt.2.1 idx y ∈ GW) (hd : d' < d) : CallB R s args mt.2.1 idx y cc' nl' mt'.1 (wsM y cc' nl' mt') (rmG d' bc' bs') bc' bs' n := by
  obtain ⟨-, -, -, -, ct, -, -, -, cf, cl, -⟩ := C
  obtain ⟨hcode, hini, hmh, har, -, hnl, -⟩ := mb
  have ew : codeW y cc' nl' mt' = Cond.code y cc' nl' mt'.1 := by unfold codeW; rw [ht]
  refine ⟨rfl, rfl, by show d' + 1 ≤ _; omega, by show 8 + (nl' + 11) + 40 * d' ≤ _; omega, fun w hw a' U hW => ?_, by unfold wsM; rw [ew]; exact List.mem_cons_self, ?_, ct _ hini, hmh, fun sig h => ?_, ct _ lk⟩
  · rcases List.mem_cons.mp hw with rfl | hw
    · exact GW_bef hW hcode (ct _ hcode)
    · exact GW_bef hW hw (ct _ hw)
  · rw [← ew]; exact ct _ hcode
  · rw [h] at har
    exact (Option.some.inj har).symm
theorem Go_callV {y : MethodName} {cc' : ByteArray} {nl' n idx d' bc' bs' a ci : Nat} {mt' : Mt} {as stk : List Vl} {K1 : Kt} (dec : decode cc pc = .ok (.invokevirtual idx, 3)) (mv : MV y cc' nl' mt' n) (ht : mt'.2.2.2 = []) (lk : Cond.methodLink mt.2.1 idx y ∈ GW) (hs : SH a = (1, ci)) (hc : (vwCl[ci]?).map (·.1) = some y.cls) (hx : okx nx a) (hn : as.length = n) (hstk : stk = as.reverse ++ vr a :: st) (hsum : (st.map fun v => (cv G v).category).sum ≤ 8) (hd : d' < d) (hbc : bc' ≤ bc) (hbs : bs' ≤ bs)
    (hK : ∀ v nx' w', K1 v nx' w' → Go G cc mt nx' d (bc - bc') (bs - bs') (pc + 3) ls ((match mt'.1 with | none => [] | some _ => [v]) ++ st) w' K X)
    (E : Ev G y cc' nl' mt' nx d' bc' bs' (vr a :: as) w K1 X) : Go G cc mt nx d bc bs pc ls stk w K X := by
  intro p e R s m args below meth c Q H locs cells slots la C EK EX hl hw hS h1 h2
  subst hstk
  have hcx := C
  obtain ⟨cx, cb, -, co, ct, -, -, cml, -, -, cK, cst, -⟩ := id C
  obtain ⟨r, hr, hrc⟩ := Option.map_eq_some_iff.mp hc
  have hrun := vx_runV (s := s) (R := R) (args := args) (H := H) (locs := locs) (cells := cells) (slots := slots) (below := below) (meth := meth) (e := e) (b := rho G a) (As := as.map (cv G)) (rest := st.map (cv G)) (C := r.1) (g := F0 m pc la ((as.reverse ++ vr a :: st).map (cv G))) (Ts := GW)
    ⟨cx, cb, cml, co, ct⟩ (E cst) ⟨callB_go C mv.1 ht lk hd, ct _ mv.2.1, by rw [hrc]; exact ct _ mv.2.2⟩ ⟨PcG_blind, va_recv cK.1 hw.1 hr (wl_e G w hs (by decide) hx (cont_1 hs)), PcG_at C hw hS _ _ rfl⟩ rfl (by rw [List.length_map]; exact hn) (by show la.size = _; rw [hl.1]) (by simp; rfl) (lv_room (by rw [List.map_map]; exact hsum)) dec ⟨by omega, by omega⟩
  refine run_go hrun hS (fun v nx' w' H1 locs1 k1 k2 k3 => ?_) (fun k nx' w' H1 locs1 ce q k1 k2 k3 g1 g2 g3 => out_go C EX k1 k2 k3 g1 g2 g3 (by omega) (by omega))
  have k4 := hK v nx' w' k1 p e R s m args below meth c Q H1 locs1 (cells + bc') (slots + bs') la C EK EX hl k2 k3 (by omega) (by omega)
  unfold rvl
  revert k4
  cases mt'.1 with
  | none => intro k4; exact k4
  | some ty => intro k4; exact k4
theorem Go_callS {y : MethodName} {cc' : ByteArray} {nl' n idx d' bc' bs' : Nat} {mt' : Mt} {as stk : List Vl} {K1 : Kt} (dec : decode cc pc = .ok (.invokestatic idx, 3)) (mv : MS y cc' nl' mt' n) (ht : mt'.2.2.2 = []) (lk : Cond.methodLink mt.2.1 idx y ∈ GW) (hn : as.length = n) (hstk : stk = as.reverse ++ st) (hsum : (st.map fun v => (cv G v).category).sum ≤ 8) (hd : d' < d) (hbc : bc' ≤ bc) (hbs : bs' ≤ bs)
    (hK : ∀ v nx' w', K1 v nx' w' → Go G cc mt nx' d (bc - bc') (bs - bs') (pc + 3) ls ((match mt'.1 with | none => [] | some _ => [v]) ++ st) w' K X)
    (E : Ev G y cc' nl' mt' nx d' bc' bs' as w K1 X) : Go G cc mt nx d bc bs pc ls stk w K X := by
  intro p e R s m args below meth c Q H locs cells slots la C EK EX hl hw hS h1 h2
  subst hstk
  obtain ⟨cx, cb, -, co, ct, -, -, cml, -, -, cK, cst, -⟩ := id C
  have hrun := vx_runS (s := s) (R := R) (args := args) (H := H) (locs := locs) (cells := cells) (slots := slots) (below := below) (meth := meth) (e := e) (As := as.map (cv G)) (rest := st.map (cv G)) (g := F0 m pc la ((as.reverse ++ st).map (cv G))) (Ts := GW)
    ⟨cx, cb, cml, co, ct⟩ (E cst) ⟨callB_go C mv.1 ht lk hd, ct _ mv.2⟩ ⟨PcG_blind, PcG_at C hw hS _ _ rfl⟩ rfl (by rw [List.length_map]; exact hn) (by show la.size = _; rw [hl.1]) (by simp) (lv_room (by rw [List.map_map]; exact hsum)) dec ⟨by omega, by omega⟩
  refine run_go hrun hS (fun v nx' w' H1 locs1 k1 k2 k3 => ?_) (fun k nx' w' H1 locs1 ce q k1 k2 k3 g1 g2 g3 => out_go C EX k1 k2 k3 g1 g2 g3 (by omega) (by omega))
  have k4 := hK v nx' w' k1 p e R s m args below meth c Q H1 locs1 (cells + bc') (slots + bs') la C EK EX hl k2 k3 (by omega) (by omega)
  unfold rvl
  revert k4
  cases mt'.1 with
  | none => intro k4; exact k4
  | some ty => intro k4; exact k4
/-- a static method with handlers, that throws nothing -/
theorem Go_callSW {y : MethodName} {cc' : ByteArray} {nl' n idx d' bc' bs' : Nat} {mt' : Mt} {as stk : List Vl} {K1 : Kt} {t : Nat × Nat × Nat × Nat} {ts : List (Nat × Nat × Nat × Nat)} (dec : decode cc pc = .ok (.invokestatic idx, 3)) (mv : MS y cc' nl' mt' n) (ht : mt'.2.2.2 = t :: ts) (lk : Cond.methodLink mt.2.1 idx y ∈ GW) (hn : as.length = n) (hstk : stk = as.reverse ++ st) (hsum : (st.map fun v => (cv G v).category).sum ≤ 8) (hd : d' < d) (hbc : bc' ≤ bc) (hbs : bs' ≤ bs)
    (hK : ∀ v nx' w', K1 v nx' w' → Go G cc mt nx' d (bc - bc') (bs - bs') (pc + 3) ls ((match mt'.1 with | none => [] | some _ => [v]) ++ st) w' K X)
    (E : Ev G y cc' nl' mt' nx d' bc' bs' as w K1 (fun _ _ _ => False)) : Go G cc mt nx d bc bs pc ls stk w K X := by
  intro p e R s m args below meth c Q H locs cells slots la C EK EX hl hw hS h1 h2
  subst hstk
  obtain ⟨cx, cb, -, co, ct, -, -, cml, cf, cl, cK, cst, -⟩ := id C
  obtain ⟨hcode, hini, hmh, har, -, hnl, -⟩ := mv.1
  have ew : codeW y cc' nl' mt' = Cond.codeWith y cc' nl' mt'.1 (t :: ts) := by unfold codeW; rw [ht]
  have hcw : vx_CSW R s args mt.2.1 idx y cc' nl' mt'.1 (t :: ts) (wsM y cc' nl' mt') (rmG d' bc' bs') bc' bs' n := by
    refine ⟨⟨rfl, rfl, by show d' + 1 ≤ _; omega, by show 8 + (nl' + 11) + 40 * d' ≤ _; omega, fun w hw a' U hW => ?_, by unfold wsM; rw [ew]; exact List.mem_cons_self⟩, ?_, ct _ hini, hmh, fun sig h => ?_, ct _ lk, ct _ mv.2⟩
    · rcases List.mem_cons.mp hw with rfl | hw
      · exact GW_bef hW hcode (ct _ hcode)
      · exact GW_bef hW hw (ct _ hw)
    · rw [← ew]; exact ct _ hcode
    · rw [h] at har
      exact (Option.some.inj har).symm
  have hrun := vx_runSX (s := s) (R := R) (args := args) (H := H) (locs := locs) (cells := cells) (slots := slots) (below := below) (meth := meth) (e := e) (As := as.map (cv G)) (rest := st.map (cv G)) (g := F0 m pc la ((as.reverse ++ st).map (cv G))) (Ts := GW)
    ⟨cx, cb, cml, co, ct⟩ (E cst) hcw ⟨PcG_blind, PcG_at C hw hS _ _ rfl⟩ rfl (by rw [List.length_map]; exact hn) (by show la.size = _; rw [hl.1]) (by simp) (lv_room (by rw [List.map_map]; exact hsum)) dec ⟨by omega, by omega⟩
  refine run_go hrun hS (fun v nx' w' H1 locs1 k1 k2 k3 => ?_) (fun k nx' w' H1 locs1 ce q k1 k2 k3 g1 g2 g3 => k1.elim)
  have k4 := hK v nx' w' k1 p e R s m args below meth c Q H1 locs1 (cells + bc') (slots + bs') la C EK EX hl k2 k3 (by omega) (by omega)
  unfold rvl
  revert k4
  cases mt'.1 with
  | none => intro k4; exact k4
  | some ty => intro k4; exact k4
/-- a call of a method that may throw, in a method with one handler row for each kind that comes: caught, it goes on at the handler with the exception on the stack, which the first instruction there stores -/
theorem Go_callVX {y : MethodName} {cc' : ByteArray} {nl' n idx d' bc' bs' a ci : Nat} {mt' : Mt} {as stk : List Vl} {K1 : Kt} {X1 : Xt} (dec : decode cc pc = .ok (.invokevirtual idx, 3)) (mv : MV y cc' nl' mt' n) (ht : mt'.2.2.2 = []) (lk : Cond.methodLink mt.2.1 idx y ∈ GW) (hs : SH a = (1, ci)) (hc : (vwCl[ci]?).map (·.1) = some y.cls) (hx : okx nx a) (hn : as.length = n) (hstk : stk = as.reverse ++ vr a :: st) (hsum : (st.map fun v => (cv G v).category).sum ≤ 8) (hd : d' < d) (hbc : bc' ≤ bc) (hbs : bs' ≤ bs)
    (hK : ∀ v nx' w', K1 v nx' w' → Go G cc mt nx' d (bc - bc') (bs - bs') (pc + 3) ls ((match mt'.1 with | none => [] | some _ => [v]) ++ st) w' K X)
    (hX : ∀ k nx' w', X1 k nx' w' → ∃ (pre : List (Nat × Nat × Nat × Nat)) (x : Nat × Nat × Nat × Nat) (suf : List (Nat × Nat × Nat × Nat)) (i ix : Nat), mt.2.2.2 = pre ++ x :: suf ∧ (∀ z ∈ pre, (z.1 ≤ pc ∧ pc < z.2.1) ∧ z.2.2.2 ≠ 0 ∧ ∃ kk : Nat, kk ≠ k ∧ 1 ≤ kk ∧ kk ≤ 3 ∧ Cond.classLink mt.2.1 z.2.2.2 (exn kk) ∈ GW) ∧ x.1 ≤ pc ∧ pc < x.2.1 ∧ x.2.2.2 ≠ 0 ∧ Cond.classLink mt.2.1 x.2.2.2 (exn k) ∈ GW ∧ 1 ≤ k ∧ k ≤ 3 ∧ (decode cc x.2.2.1 = .ok (.astore i, 2) ∧ ix = 2 ∨ ∃ j : Fin 4, (j : Nat) = i ∧ decode cc x.2.2.1 = .ok (.astore_n j, 1) ∧ ix = 1) ∧ i < ls.length ∧ (∀ j : Nat, j + 1 = i → c1 (ls.getD j none) = true) ∧ Go G cc mt nx' d (bc - bc') (bs - bs') (x.2.2.1 + ix) (ls.set i none) [] w' K X)
    (E : Ev G y cc' nl' mt' nx d' bc' bs' (vr a :: as) w K1 X1) : Go G cc mt nx d bc bs pc ls stk w K X := by
  sorry
section Ends
theorem Go_ireturn {z : Int} {ty : FieldType} (dec : decode cc pc = .ok (.ireturn, 1)) (hr : mt.1 = some ty) (hn : narrow ty (.int (Int32.ofInt z)) = .int (Int32.ofInt z)) (k : K (vi z) nx w) : Go G cc mt nx d bc bs pc ls [vi z] w K X := by
  intro p e R s m args below meth c Q H locs cells slots la C EK EX hl hw hS h1 h2
  exact EK (vi z) nx w H locs cells slots la pc _ k hw hS (by omega) (by omega) (Or.inr (Or.inl ⟨z, ty, rfl, hr, hn, dec, rfl⟩))
theorem Go_return (dec : decode cc pc = .ok (.return_, 1)) (hr : mt.1 = none) (k : K (vi 0) nx w) : Go G cc mt nx d bc bs pc ls [] w K X := by
  intro p e R s m args below meth c Q H locs cells slots la C EK EX hl hw hS h1 h2
  exact EK (vi 0) nx w H locs cells slots la pc _ k hw hS (by omega) (by omega) (Or.inl ⟨hr, dec, rfl, rfl⟩)
theorem Go_areturn {a : Nat} {n : String} (dec : decode cc pc = .ok (.areturn, 1)) (hr : mt.1 = some (.object n)) (k : K (vr a) nx w) : Go G cc mt nx d bc bs pc ls [vr a] w K X := by
  intro p e R s m args below meth c Q H locs cells slots la C EK EX hl hw hS h1 h2
  exact EK (vr a) nx w H locs cells slots la pc _ k hw hS (by omega) (by omega) (Or.inr (Or.inr (Or.inl ⟨a, rfl, ⟨n, hr⟩, dec, rfl⟩)))
theorem Go_dreturn {x : UInt64} (dec : decode cc pc = .ok (.dreturn, 1)) (hr : mt.1 = some .double) (k : K (vd x) nx w) : Go G cc mt nx d bc bs pc ls [vd x] w K X := by
  intro p e R s m args below meth c Q H locs cells slots la C EK EX hl hw hS h1 h2
  exact EK (vd x) nx w H locs cells slots la pc _ k hw hS (by omega) (by omega) (Or.inr (Or.inr (Or.inr (Or.inl ⟨x, rfl, hr, dec, rfl⟩))))
theorem Go_freturn {x : UInt32} (dec : decode cc pc = .ok (.freturn, 1)) (hr : mt.1 = some .float) (k : K (vf x) nx w) : Go G cc mt nx d bc bs pc ls [vf x] w K X := by
  intro p e R s m args below meth c Q H locs cells slots la C EK EX hl hw hS h1 h2
  exact EK (vf x) nx w H locs cells slots la pc _ k hw hS (by omega) (by omega) (Or.inr (Or.inr (Or.inr (Or.inr ⟨x, rfl, hr, dec, rfl⟩))))
end Ends
end GoCall
end
section
theorem zz_last : True := trivial
end
