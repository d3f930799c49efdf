section
-- PART A and the names: begun from the printed skeleton and the printed names of the program (starting texts)
-- ===== PART A: goes FIRST, ahead of the names: the tables' words, and 'selects' of the private methods out of them =====
/-- a private method of a class that the tables say can be made, by its rows of tables_1 -/
def lw_okq (q : MethodName × Nat) : Prop := (q.1.cls ≠ "java/lang/invoke/MethodHandle" ∧ q.1.cls ≠ "java/lang/invoke/VarHandle") ∧ Cond.instantiable q.1.cls q.2 ∈ tables_1 ∧ Cond.privateMethod q.1 ∈ tables_1 ∧ Cond.instanceMethod q.1 ∈ tables_1
theorem lw_p0 : lw_okq (⟨"SwappedTables", "tellDesk", "(II)I"⟩, 5) := ⟨⟨by decide +kernel, by decide +kernel⟩, List.mem_of_getElem? (i := 15) (by decide +kernel), List.mem_of_getElem? (i := 211) (by decide +kernel), List.mem_of_getElem? (i := 212) (by decide +kernel)⟩
theorem lw_p1 : lw_okq (⟨"SwappedTables$PageText", "note", "(IC)V"⟩, 5) := ⟨⟨by decide +kernel, by decide +kernel⟩, List.mem_of_getElem? (i := 165) (by decide +kernel), List.mem_of_getElem? (i := 285) (by decide +kernel), List.mem_of_getElem? (i := 286) (by decide +kernel)⟩
theorem lw_p2 : lw_okq (⟨"SwappedTables$PageText", "startEntry", "(I)V"⟩, 5) := ⟨⟨by decide +kernel, by decide +kernel⟩, List.mem_of_getElem? (i := 165) (by decide +kernel), List.mem_of_getElem? (i := 289) (by decide +kernel), List.mem_of_getElem? (i := 290) (by decide +kernel)⟩
theorem lw_p3 : lw_okq (⟨"SwappedTables$PageText", "addDigit", "(I)V"⟩, 5) := ⟨⟨by decide +kernel, by decide +kernel⟩, List.mem_of_getElem? (i := 165) (by decide +kernel), List.mem_of_getElem? (i := 293) (by decide +kernel), List.mem_of_getElem? (i := 294) (by decide +kernel)⟩
theorem lw_p4 : lw_okq (⟨"SwappedTables$State", "cellToWrite", "()I"⟩, 9) := ⟨⟨by decide +kernel, by decide +kernel⟩, List.mem_of_getElem? (i := 23) (by decide +kernel), List.mem_of_getElem? (i := 355) (by decide +kernel), List.mem_of_getElem? (i := 356) (by decide +kernel)⟩
theorem lw_p5 : lw_okq (⟨"SwappedTables$State", "writeOwedCell", "()V"⟩, 9) := ⟨⟨by decide +kernel, by decide +kernel⟩, List.mem_of_getElem? (i := 23) (by decide +kernel), List.mem_of_getElem? (i := 395) (by decide +kernel), List.mem_of_getElem? (i := 396) (by decide +kernel)⟩
theorem lw_p6 : lw_okq (⟨"SwappedTables$State", "writeNewTable", "(Z)V"⟩, 9) := ⟨⟨by decide +kernel, by decide +kernel⟩, List.mem_of_getElem? (i := 23) (by decide +kernel), List.mem_of_getElem? (i := 417) (by decide +kernel), List.mem_of_getElem? (i := 418) (by decide +kernel)⟩
theorem lw_p7 : lw_okq (⟨"SwappedTables$State", "setMark", "()V"⟩, 9) := ⟨⟨by decide +kernel, by decide +kernel⟩, List.mem_of_getElem? (i := 23) (by decide +kernel), List.mem_of_getElem? (i := 447) (by decide +kernel), List.mem_of_getElem? (i := 448) (by decide +kernel)⟩
theorem lw_p8 : lw_okq (⟨"SwappedTablesModel", "becomes", "(II)I"⟩, 10) := ⟨⟨by decide +kernel, by decide +kernel⟩, List.mem_of_getElem? (i := 705) (by decide +kernel), List.mem_of_getElem? (i := 752) (by decide +kernel), List.mem_of_getElem? (i := 753) (by decide +kernel)⟩
theorem lw_p9 : lw_okq (⟨"SwappedTablesModel", "records", "()V"⟩, 10) := ⟨⟨by decide +kernel, by decide +kernel⟩, List.mem_of_getElem? (i := 705) (by decide +kernel), List.mem_of_getElem? (i := 756) (by decide +kernel), List.mem_of_getElem? (i := 757) (by decide +kernel)⟩
theorem lw_p10 : lw_okq (⟨"SwappedTablesModel", "told", "()I"⟩, 10) := ⟨⟨by decide +kernel, by decide +kernel⟩, List.mem_of_getElem? (i := 705) (by decide +kernel), List.mem_of_getElem? (i := 763) (by decide +kernel), List.mem_of_getElem? (i := 764) (by decide +kernel)⟩
theorem lw_p11 : lw_okq (⟨"SwappedTablesModel", "fault", "()I"⟩, 10) := ⟨⟨by decide +kernel, by decide +kernel⟩, List.mem_of_getElem? (i := 705) (by decide +kernel), List.mem_of_getElem? (i := 775) (by decide +kernel), List.mem_of_getElem? (i := 776) (by decide +kernel)⟩
theorem lw_p12 : lw_okq (⟨"SwappedTablesModel", "isEntry", "()Z"⟩, 10) := ⟨⟨by decide +kernel, by decide +kernel⟩, List.mem_of_getElem? (i := 705) (by decide +kernel), List.mem_of_getElem? (i := 779) (by decide +kernel), List.mem_of_getElem? (i := 780) (by decide +kernel)⟩
theorem lw_p13 : lw_okq (⟨"SwappedTablesModel", "sees", "(II)Z"⟩, 10) := ⟨⟨by decide +kernel, by decide +kernel⟩, List.mem_of_getElem? (i := 705) (by decide +kernel), List.mem_of_getElem? (i := 783) (by decide +kernel), List.mem_of_getElem? (i := 784) (by decide +kernel)⟩
theorem lw_p14 : lw_okq (⟨"SwappedTablesModel", "takes", "(I)Z"⟩, 10) := ⟨⟨by decide +kernel, by decide +kernel⟩, List.mem_of_getElem? (i := 705) (by decide +kernel), List.mem_of_getElem? (i := 787) (by decide +kernel), List.mem_of_getElem? (i := 788) (by decide +kernel)⟩
theorem lw_p15 : lw_okq (⟨"SwappedTablesModel", "clearsDesk", "()V"⟩, 10) := ⟨⟨by decide +kernel, by decide +kernel⟩, List.mem_of_getElem? (i := 705) (by decide +kernel), List.mem_of_getElem? (i := 795) (by decide +kernel), List.mem_of_getElem? (i := 796) (by decide +kernel)⟩
def lw_privs_1 : List (MethodName × Nat) := [(⟨"SwappedTables", "tellDesk", "(II)I"⟩, 5), (⟨"SwappedTables$PageText", "note", "(IC)V"⟩, 5), (⟨"SwappedTables$PageText", "startEntry", "(I)V"⟩, 5), (⟨"SwappedTables$PageText", "addDigit", "(I)V"⟩, 5), (⟨"SwappedTables$State", "cellToWrite", "()I"⟩, 9), (⟨"SwappedTables$State", "writeOwedCell", "()V"⟩, 9), (⟨"SwappedTables$State", "writeNewTable", "(Z)V"⟩, 9), (⟨"SwappedTables$State", "setMark", "()V"⟩, 9), (⟨"SwappedTablesModel", "becomes", "(II)I"⟩, 10), (⟨"SwappedTablesModel", "records", "()V"⟩, 10), (⟨"SwappedTablesModel", "told", "()I"⟩, 10), (⟨"SwappedTablesModel", "fault", "()I"⟩, 10), (⟨"SwappedTablesModel", "isEntry", "()Z"⟩, 10), (⟨"SwappedTablesModel", "sees", "(II)Z"⟩, 10), (⟨"SwappedTablesModel", "takes", "(I)Z"⟩, 10), (⟨"SwappedTablesModel", "clearsDesk", "()V"⟩, 10)]
theorem lw_r1 : ∀ q ∈ lw_privs_1, lw_okq q := List.forall_mem_cons.mpr ⟨lw_p0, List.forall_mem_cons.mpr ⟨lw_p1, List.forall_mem_cons.mpr ⟨lw_p2, List.forall_mem_cons.mpr ⟨lw_p3, List.forall_mem_cons.mpr ⟨lw_p4, List.forall_mem_cons.mpr ⟨lw_p5, List.forall_mem_cons.mpr ⟨lw_p6, List.forall_mem_cons.mpr ⟨lw_p7, List.forall_mem_cons.mpr ⟨lw_p8, List.forall_mem_cons.mpr ⟨lw_p9, List.forall_mem_cons.mpr ⟨lw_p10, List.forall_mem_cons.mpr ⟨lw_p11, List.forall_mem_cons.mpr ⟨lw_p12, List.forall_mem_cons.mpr ⟨lw_p13, List.forall_mem_cons.mpr ⟨lw_p14, List.forall_mem_cons.mpr ⟨lw_p15, fun _ h => absurd h List.not_mem_nil⟩⟩⟩⟩⟩⟩⟩⟩⟩⟩⟩⟩⟩⟩⟩⟩
theorem lw_p16 : lw_okq (⟨"SwappedTablesModel", "owes", "()I"⟩, 10) := ⟨⟨by decide +kernel, by decide +kernel⟩, List.mem_of_getElem? (i := 705) (by decide +kernel), List.mem_of_getElem? (i := 803) (by decide +kernel), List.mem_of_getElem? (i := 804) (by decide +kernel)⟩
theorem lw_p17 : lw_okq (⟨"SwappedTablesModel", "contents", "()I"⟩, 10) := ⟨⟨by decide +kernel, by decide +kernel⟩, List.mem_of_getElem? (i := 705) (by decide +kernel), List.mem_of_getElem? (i := 807) (by decide +kernel), List.mem_of_getElem? (i := 808) (by decide +kernel)⟩
theorem lw_p18 : lw_okq (⟨"SwappedTablesModel", "canStep", "()Z"⟩, 10) := ⟨⟨by decide +kernel, by decide +kernel⟩, List.mem_of_getElem? (i := 705) (by decide +kernel), List.mem_of_getElem? (i := 815) (by decide +kernel), List.mem_of_getElem? (i := 816) (by decide +kernel)⟩
theorem lw_p19 : lw_okq (⟨"SwappedTablesModel", "pageOf", "(I)I"⟩, 10) := ⟨⟨by decide +kernel, by decide +kernel⟩, List.mem_of_getElem? (i := 705) (by decide +kernel), List.mem_of_getElem? (i := 819) (by decide +kernel), List.mem_of_getElem? (i := 820) (by decide +kernel)⟩
theorem lw_p20 : lw_okq (⟨"SwappedTablesModel", "nextFree", "()I"⟩, 10) := ⟨⟨by decide +kernel, by decide +kernel⟩, List.mem_of_getElem? (i := 705) (by decide +kernel), List.mem_of_getElem? (i := 823) (by decide +kernel), List.mem_of_getElem? (i := 824) (by decide +kernel)⟩
theorem lw_p21 : lw_okq (⟨"SwappedTablesModel", "isFree", "(I)Z"⟩, 10) := ⟨⟨by decide +kernel, by decide +kernel⟩, List.mem_of_getElem? (i := 705) (by decide +kernel), List.mem_of_getElem? (i := 827) (by decide +kernel), List.mem_of_getElem? (i := 828) (by decide +kernel)⟩
theorem lw_p22 : lw_okq (⟨"SwappedTablesModel", "pageOld", "(I)I"⟩, 10) := ⟨⟨by decide +kernel, by decide +kernel⟩, List.mem_of_getElem? (i := 705) (by decide +kernel), List.mem_of_getElem? (i := 831) (by decide +kernel), List.mem_of_getElem? (i := 832) (by decide +kernel)⟩
theorem lw_p23 : lw_okq (⟨"SwappedTablesModel", "old", "(I)I"⟩, 10) := ⟨⟨by decide +kernel, by decide +kernel⟩, List.mem_of_getElem? (i := 705) (by decide +kernel), List.mem_of_getElem? (i := 835) (by decide +kernel), List.mem_of_getElem? (i := 836) (by decide +kernel)⟩
theorem lw_p24 : lw_okq (⟨"SwappedTablesModel", "readersOf", "(I)I"⟩, 10) := ⟨⟨by decide +kernel, by decide +kernel⟩, List.mem_of_getElem? (i := 705) (by decide +kernel), List.mem_of_getElem? (i := 839) (by decide +kernel), List.mem_of_getElem? (i := 840) (by decide +kernel)⟩
theorem lw_p25 : lw_okq (⟨"SwappedTablesModel", "hasIt", "(II)Z"⟩, 10) := ⟨⟨by decide +kernel, by decide +kernel⟩, List.mem_of_getElem? (i := 705) (by decide +kernel), List.mem_of_getElem? (i := 843) (by decide +kernel), List.mem_of_getElem? (i := 844) (by decide +kernel)⟩
theorem lw_p26 : lw_okq (⟨"SwappedTablesModel", "isReader", "(I)Z"⟩, 10) := ⟨⟨by decide +kernel, by decide +kernel⟩, List.mem_of_getElem? (i := 705) (by decide +kernel), List.mem_of_getElem? (i := 847) (by decide +kernel), List.mem_of_getElem? (i := 848) (by decide +kernel)⟩
theorem lw_p27 : lw_okq (⟨"SwappedTablesModel", "pageWritten", "(I)I"⟩, 10) := ⟨⟨by decide +kernel, by decide +kernel⟩, List.mem_of_getElem? (i := 705) (by decide +kernel), List.mem_of_getElem? (i := 851) (by decide +kernel), List.mem_of_getElem? (i := 852) (by decide +kernel)⟩
theorem lw_p28 : lw_okq (⟨"SwappedTablesModel", "steps", "()V"⟩, 10) := ⟨⟨by decide +kernel, by decide +kernel⟩, List.mem_of_getElem? (i := 705) (by decide +kernel), List.mem_of_getElem? (i := 855) (by decide +kernel), List.mem_of_getElem? (i := 856) (by decide +kernel)⟩
theorem lw_p29 : lw_okq (⟨"SwappedTablesModel", "writes", "(III)V"⟩, 10) := ⟨⟨by decide +kernel, by decide +kernel⟩, List.mem_of_getElem? (i := 705) (by decide +kernel), List.mem_of_getElem? (i := 859) (by decide +kernel), List.mem_of_getElem? (i := 860) (by decide +kernel)⟩
theorem lw_p30 : lw_okq (⟨"SwappedTablesModel", "writesTable", "(I)V"⟩, 10) := ⟨⟨by decide +kernel, by decide +kernel⟩, List.mem_of_getElem? (i := 705) (by decide +kernel), List.mem_of_getElem? (i := 866) (by decide +kernel), List.mem_of_getElem? (i := 867) (by decide +kernel)⟩
theorem lw_p31 : lw_okq (⟨"SwappedTablesModel", "endsSwap", "()V"⟩, 10) := ⟨⟨by decide +kernel, by decide +kernel⟩, List.mem_of_getElem? (i := 705) (by decide +kernel), List.mem_of_getElem? (i := 870) (by decide +kernel), List.mem_of_getElem? (i := 871) (by decide +kernel)⟩
def lw_privs_2 : List (MethodName × Nat) := [(⟨"SwappedTablesModel", "owes", "()I"⟩, 10), (⟨"SwappedTablesModel", "contents", "()I"⟩, 10), (⟨"SwappedTablesModel", "canStep", "()Z"⟩, 10), (⟨"SwappedTablesModel", "pageOf", "(I)I"⟩, 10), (⟨"SwappedTablesModel", "nextFree", "()I"⟩, 10), (⟨"SwappedTablesModel", "isFree", "(I)Z"⟩, 10), (⟨"SwappedTablesModel", "pageOld", "(I)I"⟩, 10), (⟨"SwappedTablesModel", "old", "(I)I"⟩, 10), (⟨"SwappedTablesModel", "readersOf", "(I)I"⟩, 10), (⟨"SwappedTablesModel", "hasIt", "(II)Z"⟩, 10), (⟨"SwappedTablesModel", "isReader", "(I)Z"⟩, 10), (⟨"SwappedTablesModel", "pageWritten", "(I)I"⟩, 10), (⟨"SwappedTablesModel", "steps", "()V"⟩, 10), (⟨"SwappedTablesModel", "writes", "(III)V"⟩, 10), (⟨"SwappedTablesModel", "writesTable", "(I)V"⟩, 10), (⟨"SwappedTablesModel", "endsSwap", "()V"⟩, 10)]
theorem lw_r2 : ∀ q ∈ lw_privs_2, lw_okq q := List.forall_mem_cons.mpr ⟨lw_p16, List.forall_mem_cons.mpr ⟨lw_p17, List.forall_mem_cons.mpr ⟨lw_p18, List.forall_mem_cons.mpr ⟨lw_p19, List.forall_mem_cons.mpr ⟨lw_p20, List.forall_mem_cons.mpr ⟨lw_p21, List.forall_mem_cons.mpr ⟨lw_p22, List.forall_mem_cons.mpr ⟨lw_p23, List.forall_mem_cons.mpr ⟨lw_p24, List.forall_mem_cons.mpr ⟨lw_p25, List.forall_mem_cons.mpr ⟨lw_p26, List.forall_mem_cons.mpr ⟨lw_p27, List.forall_mem_cons.mpr ⟨lw_p28, List.forall_mem_cons.mpr ⟨lw_p29, List.forall_mem_cons.mpr ⟨lw_p30, List.forall_mem_cons.mpr ⟨lw_p31, fun _ h => absurd h List.not_mem_nil⟩⟩⟩⟩⟩⟩⟩⟩⟩⟩⟩⟩⟩⟩⟩⟩
theorem lw_p32 : lw_okq (⟨"SwappedTablesModel", "tears", "()V"⟩, 10) := ⟨⟨by decide +kernel, by decide +kernel⟩, List.mem_of_getElem? (i := 705) (by decide +kernel), List.mem_of_getElem? (i := 886) (by decide +kernel), List.mem_of_getElem? (i := 887) (by decide +kernel)⟩
theorem lw_p33 : lw_okq (⟨"SwappedTablesModel", "readers", "()I"⟩, 10) := ⟨⟨by decide +kernel, by decide +kernel⟩, List.mem_of_getElem? (i := 705) (by decide +kernel), List.mem_of_getElem? (i := 894) (by decide +kernel), List.mem_of_getElem? (i := 895) (by decide +kernel)⟩
theorem lw_p34 : lw_okq (⟨"SwappedTablesModel", "contentOf", "(I)I"⟩, 10) := ⟨⟨by decide +kernel, by decide +kernel⟩, List.mem_of_getElem? (i := 705) (by decide +kernel), List.mem_of_getElem? (i := 926) (by decide +kernel), List.mem_of_getElem? (i := 927) (by decide +kernel)⟩
theorem lw_p35 : lw_okq (⟨"SwappedTablesModel", "isTorn", "(I)Z"⟩, 10) := ⟨⟨by decide +kernel, by decide +kernel⟩, List.mem_of_getElem? (i := 705) (by decide +kernel), List.mem_of_getElem? (i := 942) (by decide +kernel), List.mem_of_getElem? (i := 943) (by decide +kernel)⟩
theorem lw_p36 : lw_okq (⟨"SwappedTablesModel", "pagesOf", "(I)I"⟩, 10) := ⟨⟨by decide +kernel, by decide +kernel⟩, List.mem_of_getElem? (i := 705) (by decide +kernel), List.mem_of_getElem? (i := 950) (by decide +kernel), List.mem_of_getElem? (i := 951) (by decide +kernel)⟩
theorem lw_p37 : lw_okq (⟨"SwappedTablesModel", "greatestWear", "()I"⟩, 10) := ⟨⟨by decide +kernel, by decide +kernel⟩, List.mem_of_getElem? (i := 705) (by decide +kernel), List.mem_of_getElem? (i := 966) (by decide +kernel), List.mem_of_getElem? (i := 967) (by decide +kernel)⟩
theorem lw_p38 : lw_okq (⟨"SwappedTablesModel", "allWear", "()I"⟩, 10) := ⟨⟨by decide +kernel, by decide +kernel⟩, List.mem_of_getElem? (i := 705) (by decide +kernel), List.mem_of_getElem? (i := 970) (by decide +kernel), List.mem_of_getElem? (i := 971) (by decide +kernel)⟩
theorem lw_p39 : lw_okq (⟨"SwappedTablesModel", "cellsThat", "(I)I"⟩, 10) := ⟨⟨by decide +kernel, by decide +kernel⟩, List.mem_of_getElem? (i := 705) (by decide +kernel), List.mem_of_getElem? (i := 996) (by decide +kernel), List.mem_of_getElem? (i := 997) (by decide +kernel)⟩
theorem lw_p40 : lw_okq (⟨"SwappedTablesModel", "owedCells", "()I"⟩, 10) := ⟨⟨by decide +kernel, by decide +kernel⟩, List.mem_of_getElem? (i := 705) (by decide +kernel), List.mem_of_getElem? (i := 1000) (by decide +kernel), List.mem_of_getElem? (i := 1001) (by decide +kernel)⟩
def lw_privs_3 : List (MethodName × Nat) := [(⟨"SwappedTablesModel", "tears", "()V"⟩, 10), (⟨"SwappedTablesModel", "readers", "()I"⟩, 10), (⟨"SwappedTablesModel", "contentOf", "(I)I"⟩, 10), (⟨"SwappedTablesModel", "isTorn", "(I)Z"⟩, 10), (⟨"SwappedTablesModel", "pagesOf", "(I)I"⟩, 10), (⟨"SwappedTablesModel", "greatestWear", "()I"⟩, 10), (⟨"SwappedTablesModel", "allWear", "()I"⟩, 10), (⟨"SwappedTablesModel", "cellsThat", "(I)I"⟩, 10), (⟨"SwappedTablesModel", "owedCells", "()I"⟩, 10)]
theorem lw_r3 : ∀ q ∈ lw_privs_3, lw_okq q := List.forall_mem_cons.mpr ⟨lw_p32, List.forall_mem_cons.mpr ⟨lw_p33, List.forall_mem_cons.mpr ⟨lw_p34, List.forall_mem_cons.mpr ⟨lw_p35, List.forall_mem_cons.mpr ⟨lw_p36, List.forall_mem_cons.mpr ⟨lw_p37, List.forall_mem_cons.mpr ⟨lw_p38, List.forall_mem_cons.mpr ⟨lw_p39, List.forall_mem_cons.mpr ⟨lw_p40, fun _ h => absurd h List.not_mem_nil⟩⟩⟩⟩⟩⟩⟩⟩⟩
def lw_privs : List (MethodName × Nat) := lw_privs_1 ++ (lw_privs_2 ++ (lw_privs_3))
def lw_tbl : List Cond := k2_sels lw_privs ++ tables_1
theorem lw_privs_ok : ∀ q ∈ lw_privs, lw_okq q := by
  show ∀ q ∈ lw_privs_1 ++ (lw_privs_2 ++ (lw_privs_3)), lw_okq q
  exact List.forall_mem_append.mpr ⟨lw_r1, List.forall_mem_append.mpr ⟨lw_r2, lw_r3⟩⟩
/-- the streams that the claim lets the run draw from -/
abbrev lw_cs : List Choice := [Jvm.Choice.named "NaN.bits"]
theorem lw_bits : nanBits ∈ lw_cs := by first | decide | exact List.mem_cons_self | simp [lw_cs, nanBits]
def RX0 : String := "SwappedTables$Cells"
def TX0 : u_T := fun k => match k with
  | 0 => ("SwappedTables$Cells", "contents", "[I", true)
  | 1 => ("SwappedTables$Cells", "seals", "[I", true)
  | _ => ("SwappedTables$Cells", "wears", "[I", true)
def tyX0 : Nat → FieldType := fun k => match k with
  | 0 => .array .int
  | 1 => .array .int
  | _ => .array .int
abbrev wsX00 : List Cond := u_ws RX0 TX0 3
theorem nmX0 : ∀ a, a < 3 → ∀ b, b < 3 → a ≠ b → (TX0 a).2.1 ≠ (TX0 b).2.1 := by decide +kernel
theorem tyX0_ok : ∀ k, k < 3 → parseFieldDescriptor (TX0 k).2.2.1 = some (tyX0 k) := by decide +kernel
abbrev cX0_init : ByteArray := prog_2_method_1_code
def yX0_init : MethodName := ⟨RX0, "<init>", "()V"⟩
abbrev cX0_sealOf : ByteArray := prog_2_method_2_code
def yX0_sealOf : MethodName := ⟨RX0, "sealOf", "(I)I"⟩
abbrev cX0_put : ByteArray := prog_2_method_3_code
def yX0_put : MethodName := ⟨RX0, "put", "(IIZ)V"⟩
abbrev cX0_contentOf : ByteArray := prog_2_method_4_code
def yX0_contentOf : MethodName := ⟨RX0, "contentOf", "(I)I"⟩
abbrev cX0_sealIn : ByteArray := prog_2_method_5_code
def yX0_sealIn : MethodName := ⟨RX0, "sealIn", "(I)I"⟩
abbrev cX0_wearOf : ByteArray := prog_2_method_6_code
def yX0_wearOf : MethodName := ⟨RX0, "wearOf", "(I)I"⟩
abbrev cX0_isTorn : ByteArray := prog_2_method_7_code
def yX0_isTorn : MethodName := ⟨RX0, "isTorn", "(I)Z"⟩
abbrev cX0_tornCells : ByteArray := prog_2_method_8_code
def yX0_tornCells : MethodName := ⟨RX0, "tornCells", "()I"⟩
abbrev cX0_greatestWear : ByteArray := prog_2_method_9_code
def yX0_greatestWear : MethodName := ⟨RX0, "greatestWear", "()I"⟩
abbrev cX0_allWear : ByteArray := prog_2_method_10_code
def yX0_allWear : MethodName := ⟨RX0, "allWear", "()I"⟩
abbrev cX0_copyFrom : ByteArray := prog_2_method_11_code
def yX0_copyFrom : MethodName := ⟨RX0, "copyFrom", "(LSwappedTables$Cells;)V"⟩
def RX1 : String := "SwappedTables$Desk"
def TX1 : u_T := fun k => match k with
  | _ => ("SwappedTables$Desk", "told", "[I", true)
def tyX1 : Nat → FieldType := fun k => match k with
  | _ => .array .int
abbrev wsX10 : List Cond := u_ws RX1 TX1 1
theorem nmX1 : ∀ a, a < 1 → ∀ b, b < 1 → a ≠ b → (TX1 a).2.1 ≠ (TX1 b).2.1 := by decide +kernel
theorem tyX1_ok : ∀ k, k < 1 → parseFieldDescriptor (TX1 k).2.2.1 = some (tyX1 k) := by decide +kernel
abbrev cX1_init : ByteArray := prog_3_method_1_code
def yX1_init : MethodName := ⟨RX1, "<init>", "()V"⟩
abbrev cX1_toldOf : ByteArray := prog_3_method_2_code
def yX1_toldOf : MethodName := ⟨RX1, "toldOf", "(I)I"⟩
abbrev cX1_tellsOf : ByteArray := prog_3_method_3_code
def yX1_tellsOf : MethodName := ⟨RX1, "tellsOf", "(I)Z"⟩
abbrev cX1_tell : ByteArray := prog_3_method_4_code
def yX1_tell : MethodName := ⟨RX1, "tell", "(II)V"⟩
abbrev cX1_empty : ByteArray := prog_3_method_5_code
def yX1_empty : MethodName := ⟨RX1, "empty", "()V"⟩
abbrev cX1_pagesTold : ByteArray := prog_3_method_6_code
def yX1_pagesTold : MethodName := ⟨RX1, "pagesTold", "()I"⟩
abbrev cX1_contents : ByteArray := prog_3_method_7_code
def yX1_contents : MethodName := ⟨RX1, "contents", "()I"⟩
abbrev cX1_pageOfContent : ByteArray := prog_3_method_8_code
def yX1_pageOfContent : MethodName := ⟨RX1, "pageOfContent", "(I)I"⟩
abbrev cX1_copyFrom : ByteArray := prog_3_method_9_code
def yX1_copyFrom : MethodName := ⟨RX1, "copyFrom", "(LSwappedTables$Desk;)V"⟩
def RX2 : String := "SwappedTables$Generation"
def TX2 : u_T := fun k => match k with
  | 0 => ("SwappedTables$Generation", "number", "I", false)
  | 1 => ("SwappedTables$Generation", "torn", "Z", false)
  | _ => ("SwappedTables$Generation", "cells", "[I", true)
def tyX2 : Nat → FieldType := fun k => match k with
  | 0 => .int
  | 1 => .boolean
  | _ => .array .int
abbrev wsX20 : List Cond := u_ws RX2 TX2 3
theorem nmX2 : ∀ a, a < 3 → ∀ b, b < 3 → a ≠ b → (TX2 a).2.1 ≠ (TX2 b).2.1 := by decide +kernel
theorem tyX2_ok : ∀ k, k < 3 → parseFieldDescriptor (TX2 k).2.2.1 = some (tyX2 k) := by decide +kernel
abbrev cX2_init : ByteArray := prog_4_method_1_code
def yX2_init : MethodName := ⟨RX2, "<init>", "(I)V"⟩
abbrev cX2_number : ByteArray := prog_4_method_2_code
def yX2_number : MethodName := ⟨RX2, "number", "()I"⟩
abbrev cX2_isTorn : ByteArray := prog_4_method_3_code
def yX2_isTorn : MethodName := ⟨RX2, "isTorn", "()Z"⟩
abbrev cX2_become : ByteArray := prog_4_method_4_code
def yX2_become : MethodName := ⟨RX2, "become", "(IZ)V"⟩
abbrev cX2_cellOf : ByteArray := prog_4_method_5_code
def yX2_cellOf : MethodName := ⟨RX2, "cellOf", "(I)I"⟩
abbrev cX2_give : ByteArray := prog_4_method_6_code
def yX2_give : MethodName := ⟨RX2, "give", "(II)V"⟩
abbrev cX2_pageWith : ByteArray := prog_4_method_7_code
def yX2_pageWith : MethodName := ⟨RX2, "pageWith", "(I)I"⟩
abbrev cX2_pageSet : ByteArray := prog_4_method_8_code
def yX2_pageSet : MethodName := ⟨RX2, "pageSet", "()I"⟩
abbrev cX2_pages : ByteArray := prog_4_method_9_code
def yX2_pages : MethodName := ⟨RX2, "pages", "()I"⟩
abbrev cX2_copyFrom : ByteArray := prog_4_method_10_code
def yX2_copyFrom : MethodName := ⟨RX2, "copyFrom", "(LSwappedTables$Generation;)V"⟩
def RX3 : String := "SwappedTables$History"
def TX3 : u_T := fun k => match k with
  | 0 => ("SwappedTables$History", "rows", "[LSwappedTables$State;", true)
  | 1 => ("SwappedTables$History", "oldest", "I", false)
  | _ => ("SwappedTables$History", "many", "I", false)
def tyX3 : Nat → FieldType := fun k => match k with
  | 0 => .array (.object "SwappedTables$State")
  | 1 => .int
  | _ => .int
abbrev wsX30 : List Cond := u_ws RX3 TX3 3
theorem nmX3 : ∀ a, a < 3 → ∀ b, b < 3 → a ≠ b → (TX3 a).2.1 ≠ (TX3 b).2.1 := by decide +kernel
theorem tyX3_ok : ∀ k, k < 3 → parseFieldDescriptor (TX3 k).2.2.1 = some (tyX3 k) := by decide +kernel
abbrev cX3_init : ByteArray := prog_5_method_1_code
def yX3_init : MethodName := ⟨RX3, "<init>", "()V"⟩
abbrev cX3_states : ByteArray := prog_5_method_2_code
def yX3_states : MethodName := ⟨RX3, "states", "()I"⟩
abbrev cX3_record : ByteArray := prog_5_method_3_code
def yX3_record : MethodName := ⟨RX3, "record", "(LSwappedTables$State;)V"⟩
abbrev cX3_takeLatest : ByteArray := prog_5_method_4_code
def yX3_takeLatest : MethodName := ⟨RX3, "takeLatest", "(LSwappedTables$State;)V"⟩
def RX4 : String := "SwappedTables$PageText"
def TX4 : u_T := fun k => match k with
  | 0 => ("SwappedTables$PageText", "characters", "[C", true)
  | 1 => ("SwappedTables$PageText", "length", "I", false)
  | 2 => ("SwappedTables$PageText", "pages", "[I", true)
  | 3 => ("SwappedTables$PageText", "told", "[I", true)
  | _ => ("SwappedTables$PageText", "entries", "I", false)
def tyX4 : Nat → FieldType := fun k => match k with
  | 0 => .array .char
  | 1 => .int
  | 2 => .array .int
  | 3 => .array .int
  | _ => .int
abbrev wsX40 : List Cond := u_ws RX4 TX4 5
theorem nmX4 : ∀ a, a < 5 → ∀ b, b < 5 → a ≠ b → (TX4 a).2.1 ≠ (TX4 b).2.1 := by decide +kernel
theorem tyX4_ok : ∀ k, k < 5 → parseFieldDescriptor (TX4 k).2.2.1 = some (tyX4 k) := by decide +kernel
abbrev cX4_init : ByteArray := prog_6_method_1_code
def yX4_init : MethodName := ⟨RX4, "<init>", "()V"⟩
abbrev cX4_length : ByteArray := prog_6_method_2_code
def yX4_length : MethodName := ⟨RX4, "length", "()I"⟩
abbrev cX4_isFull : ByteArray := prog_6_method_3_code
def yX4_isFull : MethodName := ⟨RX4, "isFull", "()Z"⟩
abbrev cX4_append : ByteArray := prog_6_method_4_code
def yX4_append : MethodName := ⟨RX4, "append", "(C)V"⟩
abbrev cX4_empty : ByteArray := prog_6_method_5_code
def yX4_empty : MethodName := ⟨RX4, "empty", "()V"⟩
abbrev cX4_entries : ByteArray := prog_6_method_6_code
def yX4_entries : MethodName := ⟨RX4, "entries", "()I"⟩
abbrev cX4_pageOfEntry : ByteArray := prog_6_method_7_code
def yX4_pageOfEntry : MethodName := ⟨RX4, "pageOfEntry", "(I)I"⟩
abbrev cX4_toldByEntry : ByteArray := prog_6_method_8_code
def yX4_toldByEntry : MethodName := ⟨RX4, "toldByEntry", "(I)I"⟩
abbrev cX4_scan : ByteArray := prog_6_method_9_code
def yX4_scan : MethodName := ⟨RX4, "scan", "()I"⟩
abbrev cX4_dueBehind : ByteArray := prog_6_method_10_code
def yX4_dueBehind : MethodName := ⟨RX4, "dueBehind", "(IC)I"⟩
abbrev cX4_note : ByteArray := prog_6_method_11_code
def yX4_note : MethodName := ⟨RX4, "note", "(IC)V"⟩
abbrev cX4_startEntry : ByteArray := prog_6_method_12_code
def yX4_startEntry : MethodName := ⟨RX4, "startEntry", "(I)V"⟩
abbrev cX4_addDigit : ByteArray := prog_6_method_13_code
def yX4_addDigit : MethodName := ⟨RX4, "addDigit", "(I)V"⟩
def RX5 : String := "SwappedTables$Readers"
def TX5 : u_T := fun k => match k with
  | 0 => ("SwappedTables$Readers", "present", "[Z", true)
  | _ => ("SwappedTables$Readers", "kept", "[LSwappedTables$Generation;", true)
def tyX5 : Nat → FieldType := fun k => match k with
  | 0 => .array .boolean
  | _ => .array (.object "SwappedTables$Generation")
abbrev wsX50 : List Cond := u_ws RX5 TX5 2
theorem nmX5 : ∀ a, a < 2 → ∀ b, b < 2 → a ≠ b → (TX5 a).2.1 ≠ (TX5 b).2.1 := by decide +kernel
theorem tyX5_ok : ∀ k, k < 2 → parseFieldDescriptor (TX5 k).2.2.1 = some (tyX5 k) := by decide +kernel
abbrev cX5_init : ByteArray := prog_7_method_1_code
def yX5_init : MethodName := ⟨RX5, "<init>", "()V"⟩
abbrev cX5_has : ByteArray := prog_7_method_2_code
def yX5_has : MethodName := ⟨RX5, "has", "(I)Z"⟩
abbrev cX5_lowestFree : ByteArray := prog_7_method_3_code
def yX5_lowestFree : MethodName := ⟨RX5, "lowestFree", "()I"⟩
abbrev cX5_howMany : ByteArray := prog_7_method_4_code
def yX5_howMany : MethodName := ⟨RX5, "howMany", "()I"⟩
abbrev cX5_howManyWith : ByteArray := prog_7_method_5_code
def yX5_howManyWith : MethodName := ⟨RX5, "howManyWith", "(I)I"⟩
abbrev cX5_admit : ByteArray := prog_7_method_6_code
def yX5_admit : MethodName := ⟨RX5, "admit", "(ILSwappedTables$Generation;)V"⟩
abbrev cX5_dismiss : ByteArray := prog_7_method_7_code
def yX5_dismiss : MethodName := ⟨RX5, "dismiss", "(I)V"⟩
abbrev cX5_dismissAll : ByteArray := prog_7_method_8_code
def yX5_dismissAll : MethodName := ⟨RX5, "dismissAll", "()V"⟩
abbrev cX5_numberOf : ByteArray := prog_7_method_9_code
def yX5_numberOf : MethodName := ⟨RX5, "numberOf", "(I)I"⟩
abbrev cX5_cellOf : ByteArray := prog_7_method_10_code
def yX5_cellOf : MethodName := ⟨RX5, "cellOf", "(II)I"⟩
abbrev cX5_copyFrom : ByteArray := prog_7_method_11_code
def yX5_copyFrom : MethodName := ⟨RX5, "copyFrom", "(LSwappedTables$Readers;)V"⟩
def RX6 : String := "SwappedTables$State"
def TX6 : u_T := fun k => match k with
  | 0 => ("SwappedTables$State", "cells", "LSwappedTables$Cells;", true)
  | 1 => ("SwappedTables$State", "firstTable", "LSwappedTables$Generation;", true)
  | 2 => ("SwappedTables$State", "secondTable", "LSwappedTables$Generation;", true)
  | 3 => ("SwappedTables$State", "desk", "LSwappedTables$Desk;", true)
  | 4 => ("SwappedTables$State", "swap", "LSwappedTables$Swap;", true)
  | 5 => ("SwappedTables$State", "readers", "LSwappedTables$Readers;", true)
  | 6 => ("SwappedTables$State", "mark", "I", false)
  | 7 => ("SwappedTables$State", "crashes", "I", false)
  | _ => ("SwappedTables$State", "swaps", "I", false)
def tyX6 : Nat → FieldType := fun k => match k with
  | 0 => .object "SwappedTables$Cells"
  | 1 => .object "SwappedTables$Generation"
  | 2 => .object "SwappedTables$Generation"
  | 3 => .object "SwappedTables$Desk"
  | 4 => .object "SwappedTables$Swap"
  | 5 => .object "SwappedTables$Readers"
  | 6 => .int
  | 7 => .int
  | _ => .int
abbrev wsX60 : List Cond := u_ws RX6 TX6 9
theorem nmX6 : ∀ a, a < 9 → ∀ b, b < 9 → a ≠ b → (TX6 a).2.1 ≠ (TX6 b).2.1 := by decide +kernel
theorem tyX6_ok : ∀ k, k < 9 → parseFieldDescriptor (TX6 k).2.2.1 = some (tyX6 k) := by decide +kernel
abbrev cX6_init : ByteArray := prog_8_method_1_code
def yX6_init : MethodName := ⟨RX6, "<init>", "()V"⟩
abbrev cX6_mark : ByteArray := prog_8_method_2_code
def yX6_mark : MethodName := ⟨RX6, "mark", "()I"⟩
abbrev cX6_crashes : ByteArray := prog_8_method_3_code
def yX6_crashes : MethodName := ⟨RX6, "crashes", "()I"⟩
abbrev cX6_swaps : ByteArray := prog_8_method_4_code
def yX6_swaps : MethodName := ⟨RX6, "swaps", "()I"⟩
abbrev cX6_tableAt : ByteArray := prog_8_method_5_code
def yX6_tableAt : MethodName := ⟨RX6, "tableAt", "(I)LSwappedTables$Generation;"⟩
abbrev cX6_oldGeneration : ByteArray := prog_8_method_6_code
def yX6_oldGeneration : MethodName := ⟨RX6, "oldGeneration", "()LSwappedTables$Generation;"⟩
abbrev cX6_contentByOld : ByteArray := prog_8_method_7_code
def yX6_contentByOld : MethodName := ⟨RX6, "contentByOld", "(I)I"⟩
abbrev cX6_contentByDesk : ByteArray := prog_8_method_8_code
def yX6_contentByDesk : MethodName := ⟨RX6, "contentByDesk", "(I)I"⟩
abbrev cX6_isFree : ByteArray := prog_8_method_9_code
def yX6_isFree : MethodName := ⟨RX6, "isFree", "(I)Z"⟩
abbrev cX6_freeCells : ByteArray := prog_8_method_10_code
def yX6_freeCells : MethodName := ⟨RX6, "freeCells", "()I"⟩
abbrev cX6_cellsOfReadersOnly : ByteArray := prog_8_method_11_code
def yX6_cellsOfReadersOnly : MethodName := ⟨RX6, "cellsOfReadersOnly", "()I"⟩
abbrev cX6_cellToWrite : ByteArray := prog_8_method_12_code
def yX6_cellToWrite : MethodName := ⟨RX6, "cellToWrite", "()I"⟩
abbrev cX6_stepsOwed : ByteArray := prog_8_method_13_code
def yX6_stepsOwed : MethodName := ⟨RX6, "stepsOwed", "()I"⟩
abbrev cX6_cellsOwed : ByteArray := prog_8_method_14_code
def yX6_cellsOwed : MethodName := ⟨RX6, "cellsOwed", "()I"⟩
abbrev cX6_kindOwedAt : ByteArray := prog_8_method_15_code
def yX6_kindOwedAt : MethodName := ⟨RX6, "kindOwedAt", "(I)I"⟩
abbrev cX6_pageOwedAt : ByteArray := prog_8_method_16_code
def yX6_pageOwedAt : MethodName := ⟨RX6, "pageOwedAt", "(I)I"⟩
abbrev cX6_canGoOn : ByteArray := prog_8_method_17_code
def yX6_canGoOn : MethodName := ⟨RX6, "canGoOn", "()Z"⟩
abbrev cX6_goOn : ByteArray := prog_8_method_18_code
def yX6_goOn : MethodName := ⟨RX6, "goOn", "()V"⟩
abbrev cX6_writeOwedCell : ByteArray := prog_8_method_19_code
def yX6_writeOwedCell : MethodName := ⟨RX6, "writeOwedCell", "()V"⟩
abbrev cX6_writeNewTable : ByteArray := prog_8_method_20_code
def yX6_writeNewTable : MethodName := ⟨RX6, "writeNewTable", "(Z)V"⟩
abbrev cX6_setMark : ByteArray := prog_8_method_21_code
def yX6_setMark : MethodName := ⟨RX6, "setMark", "()V"⟩
abbrev cX6_tearNextStep : ByteArray := prog_8_method_22_code
def yX6_tearNextStep : MethodName := ⟨RX6, "tearNextStep", "()V"⟩
abbrev cX6_loseWhatCrashesLose : ByteArray := prog_8_method_23_code
def yX6_loseWhatCrashesLose : MethodName := ⟨RX6, "loseWhatCrashesLose", "()V"⟩
abbrev cX6_copyFrom : ByteArray := prog_8_method_24_code
def yX6_copyFrom : MethodName := ⟨RX6, "copyFrom", "(LSwappedTables$State;)V"⟩
def RX7 : String := "SwappedTables$Swap"
def TX7 : u_T := fun k => match k with
  | 0 => ("SwappedTables$Swap", "on", "Z", false)
  | 1 => ("SwappedTables$Swap", "done", "I", false)
  | _ => ("SwappedTables$Swap", "written", "[I", true)
def tyX7 : Nat → FieldType := fun k => match k with
  | 0 => .boolean
  | 1 => .int
  | _ => .array .int
abbrev wsX70 : List Cond := u_ws RX7 TX7 3
theorem nmX7 : ∀ a, a < 3 → ∀ b, b < 3 → a ≠ b → (TX7 a).2.1 ≠ (TX7 b).2.1 := by decide +kernel
theorem tyX7_ok : ∀ k, k < 3 → parseFieldDescriptor (TX7 k).2.2.1 = some (tyX7 k) := by decide +kernel
abbrev cX7_init : ByteArray := prog_9_method_1_code
def yX7_init : MethodName := ⟨RX7, "<init>", "()V"⟩
abbrev cX7_goesOn : ByteArray := prog_9_method_2_code
def yX7_goesOn : MethodName := ⟨RX7, "goesOn", "()Z"⟩
abbrev cX7_stepsDone : ByteArray := prog_9_method_3_code
def yX7_stepsDone : MethodName := ⟨RX7, "stepsDone", "()I"⟩
abbrev cX7_start : ByteArray := prog_9_method_4_code
def yX7_start : MethodName := ⟨RX7, "start", "()V"⟩
abbrev cX7_end : ByteArray := prog_9_method_5_code
def yX7_end : MethodName := ⟨RX7, "end", "()V"⟩
abbrev cX7_countStep : ByteArray := prog_9_method_6_code
def yX7_countStep : MethodName := ⟨RX7, "countStep", "()V"⟩
abbrev cX7_noteWritten : ByteArray := prog_9_method_7_code
def yX7_noteWritten : MethodName := ⟨RX7, "noteWritten", "(II)V"⟩
abbrev cX7_cellWrittenFor : ByteArray := prog_9_method_8_code
def yX7_cellWrittenFor : MethodName := ⟨RX7, "cellWrittenFor", "(I)I"⟩
abbrev cX7_pageWrittenTo : ByteArray := prog_9_method_9_code
def yX7_pageWrittenTo : MethodName := ⟨RX7, "pageWrittenTo", "(I)I"⟩
abbrev cX7_copyFrom : ByteArray := prog_9_method_10_code
def yX7_copyFrom : MethodName := ⟨RX7, "copyFrom", "(LSwappedTables$Swap;)V"⟩
def RX8 : String := "SwappedTables"
def TX8 : u_T := fun k => match k with
  | 0 => ("SwappedTables", "now", "LSwappedTables$State;", true)
  | 1 => ("SwappedTables", "snapshot", "LSwappedTables$State;", true)
  | 2 => ("SwappedTables", "history", "LSwappedTables$History;", true)
  | 3 => ("SwappedTables", "text", "LSwappedTables$PageText;", true)
  | _ => ("SwappedTables", "hasSnapshot", "Z", false)
def tyX8 : Nat → FieldType := fun k => match k with
  | 0 => .object "SwappedTables$State"
  | 1 => .object "SwappedTables$State"
  | 2 => .object "SwappedTables$History"
  | 3 => .object "SwappedTables$PageText"
  | _ => .boolean
abbrev wsX80 : List Cond := u_ws RX8 TX8 5
theorem nmX8 : ∀ a, a < 5 → ∀ b, b < 5 → a ≠ b → (TX8 a).2.1 ≠ (TX8 b).2.1 := by decide +kernel
theorem tyX8_ok : ∀ k, k < 5 → parseFieldDescriptor (TX8 k).2.2.1 = some (tyX8 k) := by decide +kernel
abbrev cX8_init : ByteArray := prog_1_method_1_code
def yX8_init : MethodName := ⟨RX8, "<init>", "()V"⟩
abbrev cX8_write : ByteArray := prog_1_method_2_code
def yX8_write : MethodName := ⟨RX8, "write", "(II)I"⟩
abbrev cX8_drop : ByteArray := prog_1_method_3_code
def yX8_drop : MethodName := ⟨RX8, "drop", "(I)I"⟩
abbrev cX8_tellDesk : ByteArray := prog_1_method_4_code
def yX8_tellDesk : MethodName := ⟨RX8, "tellDesk", "(II)I"⟩
abbrev cX8_writeAll : ByteArray := prog_1_method_5_code
def yX8_writeAll : MethodName := ⟨RX8, "writeAll", "()I"⟩
abbrev cX8_clear : ByteArray := prog_1_method_6_code
def yX8_clear : MethodName := ⟨RX8, "clear", "()I"⟩
abbrev cX8_begin : ByteArray := prog_1_method_7_code
def yX8_begin : MethodName := ⟨RX8, "begin", "()I"⟩
abbrev cX8_step : ByteArray := prog_1_method_8_code
def yX8_step : MethodName := ⟨RX8, "step", "()I"⟩
abbrev cX8_finish : ByteArray := prog_1_method_9_code
def yX8_finish : MethodName := ⟨RX8, "finish", "()I"⟩
abbrev cX8_giveUp : ByteArray := prog_1_method_10_code
def yX8_giveUp : MethodName := ⟨RX8, "giveUp", "()I"⟩
abbrev cX8_crash : ByteArray := prog_1_method_11_code
def yX8_crash : MethodName := ⟨RX8, "crash", "(Z)I"⟩
abbrev cX8_open : ByteArray := prog_1_method_12_code
def yX8_open : MethodName := ⟨RX8, "open", "()I"⟩
abbrev cX8_close : ByteArray := prog_1_method_13_code
def yX8_close : MethodName := ⟨RX8, "close", "(I)I"⟩
abbrev cX8_type : ByteArray := prog_1_method_14_code
def yX8_type : MethodName := ⟨RX8, "type", "(C)I"⟩
abbrev cX8_clearText : ByteArray := prog_1_method_15_code
def yX8_clearText : MethodName := ⟨RX8, "clearText", "()I"⟩
abbrev cX8_undo : ByteArray := prog_1_method_16_code
def yX8_undo : MethodName := ⟨RX8, "undo", "()I"⟩
abbrev cX8_keep : ByteArray := prog_1_method_17_code
def yX8_keep : MethodName := ⟨RX8, "keep", "()I"⟩
abbrev cX8_restore : ByteArray := prog_1_method_18_code
def yX8_restore : MethodName := ⟨RX8, "restore", "()I"⟩
abbrev cX8_read : ByteArray := prog_1_method_19_code
def yX8_read : MethodName := ⟨RX8, "read", "(I)I"⟩
abbrev cX8_readDesk : ByteArray := prog_1_method_20_code
def yX8_readDesk : MethodName := ⟨RX8, "readDesk", "(I)I"⟩
abbrev cX8_readBy : ByteArray := prog_1_method_21_code
def yX8_readBy : MethodName := ⟨RX8, "readBy", "(II)I"⟩
abbrev cX8_cell : ByteArray := prog_1_method_22_code
def yX8_cell : MethodName := ⟨RX8, "cell", "(II)I"⟩
abbrev cX8_table : ByteArray := prog_1_method_23_code
def yX8_table : MethodName := ⟨RX8, "table", "(II)I"⟩
abbrev cX8_owed : ByteArray := prog_1_method_24_code
def yX8_owed : MethodName := ⟨RX8, "owed", "(II)I"⟩
abbrev cX8_reader : ByteArray := prog_1_method_25_code
def yX8_reader : MethodName := ⟨RX8, "reader", "(I)I"⟩
abbrev cX8_unevenness : ByteArray := prog_1_method_26_code
def yX8_unevenness : MethodName := ⟨RX8, "unevenness", "()D"⟩
abbrev cX8_unevennessBits : ByteArray := prog_1_method_27_code
def yX8_unevennessBits : MethodName := ⟨RX8, "unevennessBits", "()I"⟩
abbrev cX8_count : ByteArray := prog_1_method_28_code
def yX8_count : MethodName := ⟨RX8, "count", "(I)I"⟩
abbrev cX8_isPage : ByteArray := prog_1_method_29_code
def yX8_isPage : MethodName := ⟨RX8, "isPage", "(I)Z"⟩
abbrev cX8_isCell : ByteArray := prog_1_method_30_code
def yX8_isCell : MethodName := ⟨RX8, "isCell", "(I)Z"⟩
abbrev cX8_asNumber : ByteArray := prog_1_method_31_code
def yX8_asNumber : MethodName := ⟨RX8, "asNumber", "(Z)I"⟩
abbrev cX8_fillInts : ByteArray := prog_1_method_32_code
def yX8_fillInts : MethodName := ⟨RX8, "fillInts", "([II)V"⟩
abbrev cX8_copyInts : ByteArray := prog_1_method_33_code
def yX8_copyInts : MethodName := ⟨RX8, "copyInts", "([I[I)V"⟩
abbrev cX8_bitsOf : ByteArray := prog_1_method_34_code
def yX8_bitsOf : MethodName := ⟨RX8, "bitsOf", "(F)I"⟩
def RX9 : String := "SwappedTablesModel"
def TX9 : u_T := fun k => match k with
  | 0 => ("SwappedTablesModel", "now", "[I", true)
  | 1 => ("SwappedTablesModel", "past", "[I", true)
  | 2 => ("SwappedTablesModel", "states", "I", false)
  | 3 => ("SwappedTablesModel", "snapshot", "[I", true)
  | 4 => ("SwappedTablesModel", "isKept", "Z", false)
  | 5 => ("SwappedTablesModel", "text", "[C", true)
  | 6 => ("SwappedTablesModel", "length", "I", false)
  | 7 => ("SwappedTablesModel", "spot", "I", false)
  | 8 => ("SwappedTablesModel", "toldText", "[I", true)
  | _ => ("SwappedTablesModel", "toldMany", "I", false)
def tyX9 : Nat → FieldType := fun k => match k with
  | 0 => .array .int
  | 1 => .array .int
  | 2 => .int
  | 3 => .array .int
  | 4 => .boolean
  | 5 => .array .char
  | 6 => .int
  | 7 => .int
  | 8 => .array .int
  | _ => .int
abbrev wsX90 : List Cond := u_ws RX9 TX9 10
theorem nmX9 : ∀ a, a < 10 → ∀ b, b < 10 → a ≠ b → (TX9 a).2.1 ≠ (TX9 b).2.1 := by decide +kernel
theorem tyX9_ok : ∀ k, k < 10 → parseFieldDescriptor (TX9 k).2.2.1 = some (tyX9 k) := by decide +kernel
abbrev cX9_init : ByteArray := prog_11_method_1_code
def yX9_init : MethodName := ⟨RX9, "<init>", "()V"⟩
abbrev cX9_in : ByteArray := prog_11_method_3_code
def yX9_in : MethodName := ⟨RX9, "in", "(III)Z"⟩
abbrev cX9_isPage : ByteArray := prog_11_method_4_code
def yX9_isPage : MethodName := ⟨RX9, "isPage", "(I)Z"⟩
abbrev cX9_lays : ByteArray := prog_11_method_5_code
def yX9_lays : MethodName := ⟨RX9, "lays", "([II[II)V"⟩
abbrev cX9_records : ByteArray := prog_11_method_6_code
def yX9_records : MethodName := ⟨RX9, "records", "()V"⟩
abbrev cX9_sealOf : ByteArray := prog_11_method_7_code
def yX9_sealOf : MethodName := ⟨RX9, "sealOf", "(I)I"⟩
abbrev cX9_old : ByteArray := prog_11_method_8_code
def yX9_old : MethodName := ⟨RX9, "old", "(I)I"⟩
abbrev cX9_isReader : ByteArray := prog_11_method_9_code
def yX9_isReader : MethodName := ⟨RX9, "isReader", "(I)Z"⟩
abbrev cX9_pageOld : ByteArray := prog_11_method_10_code
def yX9_pageOld : MethodName := ⟨RX9, "pageOld", "(I)I"⟩
abbrev cX9_hasIt : ByteArray := prog_11_method_11_code
def yX9_hasIt : MethodName := ⟨RX9, "hasIt", "(II)Z"⟩
abbrev cX9_readersOf : ByteArray := prog_11_method_12_code
def yX9_readersOf : MethodName := ⟨RX9, "readersOf", "(I)I"⟩
abbrev cX9_pageWritten : ByteArray := prog_11_method_13_code
def yX9_pageWritten : MethodName := ⟨RX9, "pageWritten", "(I)I"⟩
abbrev cX9_isFree : ByteArray := prog_11_method_14_code
def yX9_isFree : MethodName := ⟨RX9, "isFree", "(I)Z"⟩
abbrev cX9_isTorn : ByteArray := prog_11_method_15_code
def yX9_isTorn : MethodName := ⟨RX9, "isTorn", "(I)Z"⟩
abbrev cX9_nextFree : ByteArray := prog_11_method_16_code
def yX9_nextFree : MethodName := ⟨RX9, "nextFree", "()I"⟩
abbrev cX9_writes : ByteArray := prog_11_method_17_code
def yX9_writes : MethodName := ⟨RX9, "writes", "(III)V"⟩
abbrev cX9_told : ByteArray := prog_11_method_18_code
def yX9_told : MethodName := ⟨RX9, "told", "()I"⟩
abbrev cX9_clearsDesk : ByteArray := prog_11_method_19_code
def yX9_clearsDesk : MethodName := ⟨RX9, "clearsDesk", "()V"⟩
abbrev cX9_becomes : ByteArray := prog_11_method_20_code
def yX9_becomes : MethodName := ⟨RX9, "becomes", "(II)I"⟩
abbrev cX9_write : ByteArray := prog_11_method_21_code
def yX9_write : MethodName := ⟨RX9, "write", "(II)I"⟩
abbrev cX9_drop : ByteArray := prog_11_method_22_code
def yX9_drop : MethodName := ⟨RX9, "drop", "(I)I"⟩
abbrev cX9_writeAll : ByteArray := prog_11_method_23_code
def yX9_writeAll : MethodName := ⟨RX9, "writeAll", "()I"⟩
abbrev cX9_clear : ByteArray := prog_11_method_24_code
def yX9_clear : MethodName := ⟨RX9, "clear", "()I"⟩
abbrev cX9_contents : ByteArray := prog_11_method_25_code
def yX9_contents : MethodName := ⟨RX9, "contents", "()I"⟩
abbrev cX9_owes : ByteArray := prog_11_method_26_code
def yX9_owes : MethodName := ⟨RX9, "owes", "()I"⟩
abbrev cX9_pageOf : ByteArray := prog_11_method_27_code
def yX9_pageOf : MethodName := ⟨RX9, "pageOf", "(I)I"⟩
abbrev cX9_endsSwap : ByteArray := prog_11_method_28_code
def yX9_endsSwap : MethodName := ⟨RX9, "endsSwap", "()V"⟩
abbrev cX9_writesTable : ByteArray := prog_11_method_29_code
def yX9_writesTable : MethodName := ⟨RX9, "writesTable", "(I)V"⟩
abbrev cX9_canStep : ByteArray := prog_11_method_30_code
def yX9_canStep : MethodName := ⟨RX9, "canStep", "()Z"⟩
abbrev cX9_steps : ByteArray := prog_11_method_31_code
def yX9_steps : MethodName := ⟨RX9, "steps", "()V"⟩
abbrev cX9_begin : ByteArray := prog_11_method_32_code
def yX9_begin : MethodName := ⟨RX9, "begin", "()I"⟩
abbrev cX9_step : ByteArray := prog_11_method_33_code
def yX9_step : MethodName := ⟨RX9, "step", "()I"⟩
abbrev cX9_finish : ByteArray := prog_11_method_34_code
def yX9_finish : MethodName := ⟨RX9, "finish", "()I"⟩
abbrev cX9_giveUp : ByteArray := prog_11_method_35_code
def yX9_giveUp : MethodName := ⟨RX9, "giveUp", "()I"⟩
abbrev cX9_tears : ByteArray := prog_11_method_36_code
def yX9_tears : MethodName := ⟨RX9, "tears", "()V"⟩
abbrev cX9_crash : ByteArray := prog_11_method_37_code
def yX9_crash : MethodName := ⟨RX9, "crash", "(Z)I"⟩
abbrev cX9_readers : ByteArray := prog_11_method_38_code
def yX9_readers : MethodName := ⟨RX9, "readers", "()I"⟩
abbrev cX9_open : ByteArray := prog_11_method_39_code
def yX9_open : MethodName := ⟨RX9, "open", "()I"⟩
abbrev cX9_close : ByteArray := prog_11_method_40_code
def yX9_close : MethodName := ⟨RX9, "close", "(I)I"⟩
abbrev cX9_type : ByteArray := prog_11_method_41_code
def yX9_type : MethodName := ⟨RX9, "type", "(C)I"⟩
abbrev cX9_clearText : ByteArray := prog_11_method_42_code
def yX9_clearText : MethodName := ⟨RX9, "clearText", "()I"⟩
abbrev cX9_sees : ByteArray := prog_11_method_43_code
def yX9_sees : MethodName := ⟨RX9, "sees", "(II)Z"⟩
abbrev cX9_takes : ByteArray := prog_11_method_44_code
def yX9_takes : MethodName := ⟨RX9, "takes", "(I)Z"⟩
abbrev cX9_isEntry : ByteArray := prog_11_method_45_code
def yX9_isEntry : MethodName := ⟨RX9, "isEntry", "()Z"⟩
abbrev cX9_fault : ByteArray := prog_11_method_46_code
def yX9_fault : MethodName := ⟨RX9, "fault", "()I"⟩
abbrev cX9_undo : ByteArray := prog_11_method_47_code
def yX9_undo : MethodName := ⟨RX9, "undo", "()I"⟩
abbrev cX9_keep : ByteArray := prog_11_method_48_code
def yX9_keep : MethodName := ⟨RX9, "keep", "()I"⟩
abbrev cX9_restore : ByteArray := prog_11_method_49_code
def yX9_restore : MethodName := ⟨RX9, "restore", "()I"⟩
abbrev cX9_contentOf : ByteArray := prog_11_method_50_code
def yX9_contentOf : MethodName := ⟨RX9, "contentOf", "(I)I"⟩
abbrev cX9_read : ByteArray := prog_11_method_51_code
def yX9_read : MethodName := ⟨RX9, "read", "(I)I"⟩
abbrev cX9_readDesk : ByteArray := prog_11_method_52_code
def yX9_readDesk : MethodName := ⟨RX9, "readDesk", "(I)I"⟩
abbrev cX9_readBy : ByteArray := prog_11_method_53_code
def yX9_readBy : MethodName := ⟨RX9, "readBy", "(II)I"⟩
abbrev cX9_cell : ByteArray := prog_11_method_54_code
def yX9_cell : MethodName := ⟨RX9, "cell", "(II)I"⟩
abbrev cX9_pagesOf : ByteArray := prog_11_method_55_code
def yX9_pagesOf : MethodName := ⟨RX9, "pagesOf", "(I)I"⟩
abbrev cX9_table : ByteArray := prog_11_method_56_code
def yX9_table : MethodName := ⟨RX9, "table", "(II)I"⟩
abbrev cX9_owed : ByteArray := prog_11_method_57_code
def yX9_owed : MethodName := ⟨RX9, "owed", "(II)I"⟩
abbrev cX9_reader : ByteArray := prog_11_method_58_code
def yX9_reader : MethodName := ⟨RX9, "reader", "(I)I"⟩
abbrev cX9_allWear : ByteArray := prog_11_method_59_code
def yX9_allWear : MethodName := ⟨RX9, "allWear", "()I"⟩
abbrev cX9_greatestWear : ByteArray := prog_11_method_60_code
def yX9_greatestWear : MethodName := ⟨RX9, "greatestWear", "()I"⟩
abbrev cX9_unevenness : ByteArray := prog_11_method_61_code
def yX9_unevenness : MethodName := ⟨RX9, "unevenness", "()D"⟩
abbrev cX9_unevennessBits : ByteArray := prog_11_method_62_code
def yX9_unevennessBits : MethodName := ⟨RX9, "unevennessBits", "()I"⟩
abbrev cX9_ones : ByteArray := prog_11_method_63_code
def yX9_ones : MethodName := ⟨RX9, "ones", "(I)I"⟩
abbrev cX9_cellsThat : ByteArray := prog_11_method_64_code
def yX9_cellsThat : MethodName := ⟨RX9, "cellsThat", "(I)I"⟩
abbrev cX9_owedCells : ByteArray := prog_11_method_65_code
def yX9_owedCells : MethodName := ⟨RX9, "owedCells", "()I"⟩
abbrev cX9_count : ByteArray := prog_11_method_66_code
def yX9_count : MethodName := ⟨RX9, "count", "(I)I"⟩
def RJxf58ca : String := "java/lang/Float"
def TJxf58ca : u_T := fun k => match k with
  | _ => ("", "", "", false)
def tyJxf58ca : Nat → FieldType := fun k => match k with
  | _ => .int
abbrev wsJxf58ca0 : List Cond := u_ws RJxf58ca TJxf58ca 0
theorem nmJxf58ca : ∀ a, a < 0 → ∀ b, b < 0 → a ≠ b → (TJxf58ca a).2.1 ≠ (TJxf58ca b).2.1 := by decide +kernel
theorem tyJxf58ca_ok : ∀ k, k < 0 → parseFieldDescriptor (TJxf58ca k).2.2.1 = some (tyJxf58ca k) := by decide +kernel
abbrev cJxf58ca_isNaN_12338 : ByteArray := prog_12_method_6_code
def yJxf58ca_isNaN_12338 : MethodName := ⟨RJxf58ca, "isNaN", "(F)Z"⟩
abbrev cJxf58ca_floatToIntBits_5c35a : ByteArray := prog_12_method_24_code
def yJxf58ca_floatToIntBits_5c35a : MethodName := ⟨RJxf58ca, "floatToIntBits", "(F)I"⟩
def RJ6 : String := "java/lang/Integer"
def TJ6 : u_T := fun k => match k with
  | _ => ("", "", "", false)
def tyJ6 : Nat → FieldType := fun k => match k with
  | _ => .int
abbrev wsJ60 : List Cond := u_ws RJ6 TJ6 0
theorem nmJ6 : ∀ a, a < 0 → ∀ b, b < 0 → a ≠ b → (TJ6 a).2.1 ≠ (TJ6 b).2.1 := by decide +kernel
theorem tyJ6_ok : ∀ k, k < 0 → parseFieldDescriptor (TJ6 k).2.2.1 = some (tyJ6 k) := by decide +kernel
abbrev cJ6_bitCount_0f7a4 : ByteArray := prog_13_method_49_code
def yJ6_bitCount_0f7a4 : MethodName := ⟨RJ6, "bitCount", "(I)I"⟩
def RJ9 : String := "java/lang/Math"
def TJ9 : u_T := fun k => match k with
  | _ => ("", "", "", false)
def tyJ9 : Nat → FieldType := fun k => match k with
  | _ => .int
abbrev wsJ90 : List Cond := u_ws RJ9 TJ9 0
theorem nmJ9 : ∀ a, a < 0 → ∀ b, b < 0 → a ≠ b → (TJ9 a).2.1 ≠ (TJ9 b).2.1 := by decide +kernel
theorem tyJ9_ok : ∀ k, k < 0 → parseFieldDescriptor (TJ9 k).2.2.1 = some (tyJ9 k) := by decide +kernel
abbrev cJ9_floorMod_7cf53 : ByteArray := prog_14_method_50_code
def yJ9_floorMod_7cf53 : MethodName := ⟨RJ9, "floorMod", "(II)I"⟩
def RL : String := "SwappedTablesLaw"
abbrev cL_law : ByteArray := code
def yL_law : MethodName := ⟨RL, "law", "([I)Z"⟩
abbrev vwCl : List vw_C := [(RX0, TX0, 3), (RX1, TX1, 1), (RX2, TX2, 3), (RX3, TX3, 3), (RX4, TX4, 5), (RX5, TX5, 2), (RX6, TX6, 9), (RX7, TX7, 3), (RX8, TX8, 5), (RX9, TX9, 10)]
end
section
/-! the abstract code: written by wip/whole/gen.py out of the printed names -/
abbrev az_E : Type := Nat × Instr × Nat × Nat × Nat × Int32 × List Nat × List Nat
abbrev az_H : Type := String × MethodName × ByteArray × Nat × Option FieldType × Nat × Nat
def az_m0 : List az_E := [(0, .new 7, 3, 8, 5, 0, [], [55, 56, 42]), (3, .dup, 1, 0, 0, 0, [], []), (4, .invokespecial 9, 3, 93, 0, 0, [], [57, 58, 42, 59]), (7, .astore_n 1, 1, 0, 0, 0, [], []), (8, .new 10, 3, 9, 10, 0, [], [745, 746, 51]), (11, .dup, 1, 0, 0, 0, [], []), (12, .invokespecial 12, 3, 127, 0, 0, [], [747, 748, 51, 749]), (15, .astore_n 2, 1, 0, 0, 0, [], []), (16, .iconst 0, 1, 0, 0, 0, [], []), (17, .istore_n 3, 1, 0, 0, 0, [], []), (18, .iload_n 3, 1, 0, 0, 0, [], []), (19, .aload_n 0, 1, 0, 0, 0, [], []), (20, .arraylength, 1, 0, 0, 0, [], []), (21, .iconst 3, 1, 0, 0, 3, [], []), (22, .isub, 1, 0, 0, 0, [], []), (23, .if_icmp .gt 699, 3, 410, 0, 0, [], []), (26, .aload_n 0, 1, 0, 0, 0, [], []), (27, .iload_n 3, 1, 0, 0, 0, [], []), (28, .iaload, 1, 0, 0, 0, [], []), (29, .bipush 31, 2, 0, 0, 31, [], []), (31, .iand, 1, 0, 0, 0, [], []), (32, .tableswitch 684 0 25 #[120, 153, 176, 189, 202, 215, 228, 241, 254, 293, 306, 329, 354, 367, 380, 393, 406, 429, 452, 485, 518, 551, 584, 607, 648, 661], 120, 408, 0, 0, [22, 49, 66, 73, 80, 87, 94, 101, 108, 133, 140, 157, 176, 183, 190, 197, 204, 221, 238, 265, 292, 319, 346, 363, 384, 391], []), (152, .aload_n 1, 1, 0, 0, 0, [], []), (153, .aload_n 0, 1, 0, 0, 0, [], []), (154, .iload_n 3, 1, 0, 0, 0, [], []), (155, .iconst 1, 1, 0, 0, 1, [], []), (156, .iadd, 1, 0, 0, 0, [], []), (157, .iaload, 1, 0, 0, 0, [], []), (158, .aload_n 0, 1, 0, 0, 0, [], []), (159, .iload_n 3, 1, 0, 0, 0, [], []), (160, .iconst 2, 1, 0, 0, 2, [], []), (161, .iadd, 1, 0, 0, 0, [], []), (162, .iaload, 1, 0, 0, 0, [], []), (163, .invokevirtual 13, 3, 94, 2, 0, [], [244, 245, 42, 247, 246]), (166, .aload_n 2, 1, 0, 0, 0, [], []), (167, .aload_n 0, 1, 0, 0, 0, [], []), (168, .iload_n 3, 1, 0, 0, 0, [], []), (169, .iconst 1, 1, 0, 0, 1, [], []), (170, .iadd, 1, 0, 0, 0, [], []), (171, .iaload, 1, 0, 0, 0, [], []), (172, .aload_n 0, 1, 0, 0, 0, [], []), (173, .iload_n 3, 1, 0, 0, 0, [], []), (174, .iconst 2, 1, 0, 0, 2, [], []), (175, .iadd, 1, 0, 0, 0, [], []), (176, .iaload, 1, 0, 0, 0, [], []), (177, .invokevirtual 17, 3, 146, 2, 0, [], [782, 783, 51, 785, 784]), (180, .if_icmp .eq 536, 3, 408, 0, 0, [], []), (183, .iconst 0, 1, 0, 0, 0, [], []), (184, .ireturn, 1, 0, 0, 0, [], []), (185, .aload_n 1, 1, 0, 0, 0, [], []), (186, .aload_n 0, 1, 0, 0, 0, [], []), (187, .iload_n 3, 1, 0, 0, 0, [], []), (188, .iconst 1, 1, 0, 0, 1, [], []), (189, .iadd, 1, 0, 0, 0, [], []), (190, .iaload, 1, 0, 0, 0, [], []), (191, .invokevirtual 18, 3, 95, 1, 0, [], [310, 311, 42, 313, 312]), (194, .aload_n 2, 1, 0, 0, 0, [], []), (195, .aload_n 0, 1, 0, 0, 0, [], []), (196, .iload_n 3, 1, 0, 0, 0, [], []), (197, .iconst 1, 1, 0, 0, 1, [], []), (198, .iadd, 1, 0, 0, 0, [], []), (199, .iaload, 1, 0, 0, 0, [], []), (200, .invokevirtual 22, 3, 147, 1, 0, [], [807, 808, 51, 810, 809]), (203, .if_icmp .eq 513, 3, 408, 0, 0, [], []), (206, .iconst 0, 1, 0, 0, 0, [], []), (207, .ireturn, 1, 0, 0, 0, [], []), (208, .aload_n 1, 1, 0, 0, 0, [], []), (209, .invokevirtual 23, 3, 97, 0, 0, [], [314, 315, 42, 317, 316]), (212, .aload_n 2, 1, 0, 0, 0, [], []), (213, .invokevirtual 27, 3, 148, 0, 0, [], [811, 812, 51, 814, 813]), (216, .if_icmp .eq 500, 3, 408, 0, 0, [], []), (219, .iconst 0, 1, 0, 0, 0, [], []), (220, .ireturn, 1, 0, 0, 0, [], []), (221, .aload_n 1, 1, 0, 0, 0, [], []), (222, .invokevirtual 28, 3, 98, 0, 0, [], [349, 350, 42, 352, 351]), (225, .aload_n 2, 1, 0, 0, 0, [], []), (226, .invokevirtual 31, 3, 149, 0, 0, [], [831, 832, 51, 834, 833]), (229, .if_icmp .eq 487, 3, 408, 0, 0, [], []), (232, .iconst 0, 1, 0, 0, 0, [], []), (233, .ireturn, 1, 0, 0, 0, [], []), (234, .aload_n 1, 1, 0, 0, 0, [], []), (235, .invokevirtual 32, 3, 99, 0, 0, [], [357, 358, 42, 360, 359]), (238, .aload_n 2, 1, 0, 0, 0, [], []), (239, .invokevirtual 35, 3, 157, 0, 0, [], [839, 840, 51, 842, 841]), (242, .if_icmp .eq 474, 3, 408, 0, 0, [], []), (245, .iconst 0, 1, 0, 0, 0, [], []), (246, .ireturn, 1, 0, 0, 0, [], []), (247, .aload_n 1, 1, 0, 0, 0, [], []), (248, .invokevirtual 36, 3, 100, 0, 0, [], [378, 379, 42, 381, 380]), (251, .aload_n 2, 1, 0, 0, 0, [], []), (252, .invokevirtual 39, 3, 158, 0, 0, [], [851, 852, 51, 854, 853]), (255, .if_icmp .eq 461, 3, 408, 0, 0, [], []), (258, .iconst 0, 1, 0, 0, 0, [], []), (259, .ireturn, 1, 0, 0, 0, [], []), (260, .aload_n 1, 1, 0, 0, 0, [], []), (261, .invokevirtual 40, 3, 101, 0, 0, [], [496, 497, 42, 499, 498]), (264, .aload_n 2, 1, 0, 0, 0, [], []), (265, .invokevirtual 43, 3, 159, 0, 0, [], [914, 915, 51, 917, 916]), (268, .if_icmp .eq 448, 3, 408, 0, 0, [], []), (271, .iconst 0, 1, 0, 0, 0, [], []), (272, .ireturn, 1, 0, 0, 0, [], []), (273, .aload_n 1, 1, 0, 0, 0, [], []), (274, .invokevirtual 44, 3, 102, 0, 0, [], [500, 501, 42, 503, 502]), (277, .aload_n 2, 1, 0, 0, 0, [], []), (278, .invokevirtual 47, 3, 160, 0, 0, [], [918, 919, 51, 921, 920]), (281, .if_icmp .eq 435, 3, 408, 0, 0, [], []), (284, .iconst 0, 1, 0, 0, 0, [], []), (285, .ireturn, 1, 0, 0, 0, [], []), (286, .aload_n 1, 1, 0, 0, 0, [], []), (287, .aload_n 0, 1, 0, 0, 0, [], []), (288, .iload_n 3, 1, 0, 0, 0, [], []), (289, .iconst 1, 1, 0, 0, 1, [], []), (290, .iadd, 1, 0, 0, 0, [], []), (291, .iaload, 1, 0, 0, 0, [], []), (292, .ifCond .eq 7, 3, 117, 0, 0, [], []), (295, .iconst 1, 1, 0, 0, 1, [], []), (296, .goto 4, 3, 118, 0, 0, [], []), (299, .iconst 0, 1, 0, 0, 0, [], []), (300, .invokevirtual 48, 3, 103, 1, 0, [], [506, 507, 42, 509, 508]), (303, .aload_n 2, 1, 0, 0, 0, [], []), (304, .aload_n 0, 1, 0, 0, 0, [], []), (305, .iload_n 3, 1, 0, 0, 0, [], []), (306, .iconst 1, 1, 0, 0, 1, [], []), (307, .iadd, 1, 0, 0, 0, [], []), (308, .iaload, 1, 0, 0, 0, [], []), (309, .ifCond .eq 7, 3, 128, 0, 0, [], []), (312, .iconst 1, 1, 0, 0, 1, [], []), (313, .goto 4, 3, 129, 0, 0, [], []), (316, .iconst 0, 1, 0, 0, 0, [], []), (317, .invokevirtual 52, 3, 162, 1, 0, [], [922, 923, 51, 925, 924]), (320, .if_icmp .eq 396, 3, 408, 0, 0, [], []), (323, .iconst 0, 1, 0, 0, 0, [], []), (324, .ireturn, 1, 0, 0, 0, [], []), (325, .aload_n 1, 1, 0, 0, 0, [], []), (326, .invokevirtual 53, 3, 104, 0, 0, [], [524, 525, 42, 527, 526]), (329, .aload_n 2, 1, 0, 0, 0, [], []), (330, .invokevirtual 56, 3, 164, 0, 0, [], [930, 931, 51, 933, 932]), (333, .if_icmp .eq 383, 3, 408, 0, 0, [], []), (336, .iconst 0, 1, 0, 0, 0, [], []), (337, .ireturn, 1, 0, 0, 0, [], []), (338, .aload_n 1, 1, 0, 0, 0, [], []), (339, .aload_n 0, 1, 0, 0, 0, [], []), (340, .iload_n 3, 1, 0, 0, 0, [], []), (341, .iconst 1, 1, 0, 0, 1, [], []), (342, .iadd, 1, 0, 0, 0, [], []), (343, .iaload, 1, 0, 0, 0, [], []), (344, .invokevirtual 57, 3, 105, 1, 0, [], [536, 537, 42, 539, 538]), (347, .aload_n 2, 1, 0, 0, 0, [], []), (348, .aload_n 0, 1, 0, 0, 0, [], []), (349, .iload_n 3, 1, 0, 0, 0, [], []), (350, .iconst 1, 1, 0, 0, 1, [], []), (351, .iadd, 1, 0, 0, 0, [], []), (352, .iaload, 1, 0, 0, 0, [], []), (353, .invokevirtual 60, 3, 165, 1, 0, [], [938, 939, 51, 941, 940]), (356, .if_icmp .eq 360, 3, 408, 0, 0, [], []), (359, .iconst 0, 1, 0, 0, 0, [], []), (360, .ireturn, 1, 0, 0, 0, [], []), (361, .aload_n 1, 1, 0, 0, 0, [], []), (362, .aload_n 0, 1, 0, 0, 0, [], []), (363, .iload_n 3, 1, 0, 0, 0, [], []), (364, .iconst 1, 1, 0, 0, 1, [], []), (365, .iadd, 1, 0, 0, 0, [], []), (366, .iaload, 1, 0, 0, 0, [], []), (367, .i2c, 1, 0, 0, 0, [], []), (368, .invokevirtual 61, 3, 106, 1, 0, [], [552, 553, 42, 555, 554]), (371, .aload_n 2, 1, 0, 0, 0, [], []), (372, .aload_n 0, 1, 0, 0, 0, [], []), (373, .iload_n 3, 1, 0, 0, 0, [], []), (374, .iconst 1, 1, 0, 0, 1, [], []), (375, .iadd, 1, 0, 0, 0, [], []), (376, .iaload, 1, 0, 0, 0, [], []), (377, .i2c, 1, 0, 0, 0, [], []), (378, .invokevirtual 65, 3, 166, 1, 0, [], [942, 943, 51, 945, 944]), (381, .if_icmp .eq 335, 3, 408, 0, 0, [], []), (384, .iconst 0, 1, 0, 0, 0, [], []), (385, .ireturn, 1, 0, 0, 0, [], []), (386, .aload_n 1, 1, 0, 0, 0, [], []), (387, .invokevirtual 66, 3, 107, 0, 0, [], [568, 569, 42, 571, 570]), (390, .aload_n 2, 1, 0, 0, 0, [], []), (391, .invokevirtual 69, 3, 167, 0, 0, [], [946, 947, 51, 949, 948]), (394, .if_icmp .eq 322, 3, 408, 0, 0, [], []), (397, .iconst 0, 1, 0, 0, 0, [], []), (398, .ireturn, 1, 0, 0, 0, [], []), (399, .aload_n 1, 1, 0, 0, 0, [], []), (400, .invokevirtual 70, 3, 108, 0, 0, [], [576, 577, 42, 579, 578]), (403, .aload_n 2, 1, 0, 0, 0, [], []), (404, .invokevirtual 73, 3, 172, 0, 0, [], [950, 951, 51, 953, 952]), (407, .if_icmp .eq 309, 3, 408, 0, 0, [], []), (410, .iconst 0, 1, 0, 0, 0, [], []), (411, .ireturn, 1, 0, 0, 0, [], []), (412, .aload_n 1, 1, 0, 0, 0, [], []), (413, .invokevirtual 74, 3, 109, 0, 0, [], [588, 589, 42, 591, 590]), (416, .aload_n 2, 1, 0, 0, 0, [], []), (417, .invokevirtual 77, 3, 173, 0, 0, [], [954, 955, 51, 957, 956]), (420, .if_icmp .eq 296, 3, 408, 0, 0, [], []), (423, .iconst 0, 1, 0, 0, 0, [], []), (424, .ireturn, 1, 0, 0, 0, [], []), (425, .aload_n 1, 1, 0, 0, 0, [], []), (426, .invokevirtual 78, 3, 110, 0, 0, [], [593, 594, 42, 596, 595]), (429, .aload_n 2, 1, 0, 0, 0, [], []), (430, .invokevirtual 81, 3, 174, 0, 0, [], [958, 959, 51, 961, 960]), (433, .if_icmp .eq 283, 3, 408, 0, 0, [], []), (436, .iconst 0, 1, 0, 0, 0, [], []), (437, .ireturn, 1, 0, 0, 0, [], []), (438, .aload_n 1, 1, 0, 0, 0, [], []), (439, .aload_n 0, 1, 0, 0, 0, [], []), (440, .iload_n 3, 1, 0, 0, 0, [], []), (441, .iconst 1, 1, 0, 0, 1, [], []), (442, .iadd, 1, 0, 0, 0, [], []), (443, .iaload, 1, 0, 0, 0, [], []), (444, .invokevirtual 82, 3, 111, 1, 0, [], [597, 598, 42, 600, 599]), (447, .aload_n 2, 1, 0, 0, 0, [], []), (448, .aload_n 0, 1, 0, 0, 0, [], []), (449, .iload_n 3, 1, 0, 0, 0, [], []), (450, .iconst 1, 1, 0, 0, 1, [], []), (451, .iadd, 1, 0, 0, 0, [], []), (452, .iaload, 1, 0, 0, 0, [], []), (453, .invokevirtual 85, 3, 176, 1, 0, [], [962, 963, 51, 965, 964]), (456, .if_icmp .eq 260, 3, 408, 0, 0, [], []), (459, .iconst 0, 1, 0, 0, 0, [], []), (460, .ireturn, 1, 0, 0, 0, [], []), (461, .aload_n 1, 1, 0, 0, 0, [], []), (462, .aload_n 0, 1, 0, 0, 0, [], []), (463, .iload_n 3, 1, 0, 0, 0, [], []), (464, .iconst 1, 1, 0, 0, 1, [], []), (465, .iadd, 1, 0, 0, 0, [], []), (466, .iaload, 1, 0, 0, 0, [], []), (467, .invokevirtual 86, 3, 112, 1, 0, [], [609, 610, 42, 612, 611]), (470, .aload_n 2, 1, 0, 0, 0, [], []), (471, .aload_n 0, 1, 0, 0, 0, [], []), (472, .iload_n 3, 1, 0, 0, 0, [], []), (473, .iconst 1, 1, 0, 0, 1, [], []), (474, .iadd, 1, 0, 0, 0, [], []), (475, .iaload, 1, 0, 0, 0, [], []), (476, .invokevirtual 89, 3, 177, 1, 0, [], [970, 971, 51, 973, 972]), (479, .if_icmp .eq 237, 3, 408, 0, 0, [], []), (482, .iconst 0, 1, 0, 0, 0, [], []), (483, .ireturn, 1, 0, 0, 0, [], []), (484, .aload_n 1, 1, 0, 0, 0, [], []), (485, .aload_n 0, 1, 0, 0, 0, [], []), (486, .iload_n 3, 1, 0, 0, 0, [], []), (487, .iconst 1, 1, 0, 0, 1, [], []), (488, .iadd, 1, 0, 0, 0, [], []), (489, .iaload, 1, 0, 0, 0, [], []), (490, .aload_n 0, 1, 0, 0, 0, [], []), (491, .iload_n 3, 1, 0, 0, 0, [], []), (492, .iconst 2, 1, 0, 0, 2, [], []), (493, .iadd, 1, 0, 0, 0, [], []), (494, .iaload, 1, 0, 0, 0, [], []), (495, .invokevirtual 90, 3, 113, 2, 0, [], [618, 619, 42, 621, 620]), (498, .aload_n 2, 1, 0, 0, 0, [], []), (499, .aload_n 0, 1, 0, 0, 0, [], []), (500, .iload_n 3, 1, 0, 0, 0, [], []), (501, .iconst 1, 1, 0, 0, 1, [], []), (502, .iadd, 1, 0, 0, 0, [], []), (503, .iaload, 1, 0, 0, 0, [], []), (504, .aload_n 0, 1, 0, 0, 0, [], []), (505, .iload_n 3, 1, 0, 0, 0, [], []), (506, .iconst 2, 1, 0, 0, 2, [], []), (507, .iadd, 1, 0, 0, 0, [], []), (508, .iaload, 1, 0, 0, 0, [], []), (509, .invokevirtual 93, 3, 178, 2, 0, [], [974, 975, 51, 977, 976]), (512, .if_icmp .eq 204, 3, 408, 0, 0, [], []), (515, .iconst 0, 1, 0, 0, 0, [], []), (516, .ireturn, 1, 0, 0, 0, [], []), (517, .aload_n 1, 1, 0, 0, 0, [], []), (518, .aload_n 0, 1, 0, 0, 0, [], []), (519, .iload_n 3, 1, 0, 0, 0, [], []), (520, .iconst 1, 1, 0, 0, 1, [], []), (521, .iadd, 1, 0, 0, 0, [], []), (522, .iaload, 1, 0, 0, 0, [], []), (523, .aload_n 0, 1, 0, 0, 0, [], []), (524, .iload_n 3, 1, 0, 0, 0, [], []), (525, .iconst 2, 1, 0, 0, 2, [], []), (526, .iadd, 1, 0, 0, 0, [], []), (527, .iaload, 1, 0, 0, 0, [], []), (528, .invokevirtual 94, 3, 114, 2, 0, [], [629, 630, 42, 632, 631]), (531, .aload_n 2, 1, 0, 0, 0, [], []), (532, .aload_n 0, 1, 0, 0, 0, [], []), (533, .iload_n 3, 1, 0, 0, 0, [], []), (534, .iconst 1, 1, 0, 0, 1, [], []), (535, .iadd, 1, 0, 0, 0, [], []), (536, .iaload, 1, 0, 0, 0, [], []), (537, .aload_n 0, 1, 0, 0, 0, [], []), (538, .iload_n 3, 1, 0, 0, 0, [], []), (539, .iconst 2, 1, 0, 0, 2, [], []), (540, .iadd, 1, 0, 0, 0, [], []), (541, .iaload, 1, 0, 0, 0, [], []), (542, .invokevirtual 97, 3, 179, 2, 0, [], [978, 979, 51, 981, 980]), (545, .if_icmp .eq 171, 3, 408, 0, 0, [], []), (548, .iconst 0, 1, 0, 0, 0, [], []), (549, .ireturn, 1, 0, 0, 0, [], []), (550, .aload_n 1, 1, 0, 0, 0, [], []), (551, .aload_n 0, 1, 0, 0, 0, [], []), (552, .iload_n 3, 1, 0, 0, 0, [], []), (553, .iconst 1, 1, 0, 0, 1, [], []), (554, .iadd, 1, 0, 0, 0, [], []), (555, .iaload, 1, 0, 0, 0, [], []), (556, .aload_n 0, 1, 0, 0, 0, [], []), (557, .iload_n 3, 1, 0, 0, 0, [], []), (558, .iconst 2, 1, 0, 0, 2, [], []), (559, .iadd, 1, 0, 0, 0, [], []), (560, .iaload, 1, 0, 0, 0, [], []), (561, .invokevirtual 98, 3, 115, 2, 0, [], [650, 651, 42, 653, 652]), (564, .aload_n 2, 1, 0, 0, 0, [], []), (565, .aload_n 0, 1, 0, 0, 0, [], []), (566, .iload_n 3, 1, 0, 0, 0, [], []), (567, .iconst 1, 1, 0, 0, 1, [], []), (568, .iadd, 1, 0, 0, 0, [], []), (569, .iaload, 1, 0, 0, 0, [], []), (570, .aload_n 0, 1, 0, 0, 0, [], []), (571, .iload_n 3, 1, 0, 0, 0, [], []), (572, .iconst 2, 1, 0, 0, 2, [], []), (573, .iadd, 1, 0, 0, 0, [], []), (574, .iaload, 1, 0, 0, 0, [], []), (575, .invokevirtual 101, 3, 181, 2, 0, [], [986, 987, 51, 989, 988]), (578, .if_icmp .eq 138, 3, 408, 0, 0, [], []), (581, .iconst 0, 1, 0, 0, 0, [], []), (582, .ireturn, 1, 0, 0, 0, [], []), (583, .aload_n 1, 1, 0, 0, 0, [], []), (584, .aload_n 0, 1, 0, 0, 0, [], []), (585, .iload_n 3, 1, 0, 0, 0, [], []), (586, .iconst 1, 1, 0, 0, 1, [], []), (587, .iadd, 1, 0, 0, 0, [], []), (588, .iaload, 1, 0, 0, 0, [], []), (589, .aload_n 0, 1, 0, 0, 0, [], []), (590, .iload_n 3, 1, 0, 0, 0, [], []), (591, .iconst 2, 1, 0, 0, 2, [], []), (592, .iadd, 1, 0, 0, 0, [], []), (593, .iaload, 1, 0, 0, 0, [], []), (594, .invokevirtual 102, 3, 116, 2, 0, [], [668, 669, 42, 671, 670]), (597, .aload_n 2, 1, 0, 0, 0, [], []), (598, .aload_n 0, 1, 0, 0, 0, [], []), (599, .iload_n 3, 1, 0, 0, 0, [], []), (600, .iconst 1, 1, 0, 0, 1, [], []), (601, .iadd, 1, 0, 0, 0, [], []), (602, .iaload, 1, 0, 0, 0, [], []), (603, .aload_n 0, 1, 0, 0, 0, [], []), (604, .iload_n 3, 1, 0, 0, 0, [], []), (605, .iconst 2, 1, 0, 0, 2, [], []), (606, .iadd, 1, 0, 0, 0, [], []), (607, .iaload, 1, 0, 0, 0, [], []), (608, .invokevirtual 105, 3, 182, 2, 0, [], [994, 995, 51, 997, 996]), (611, .if_icmp .eq 105, 3, 408, 0, 0, [], []), (614, .iconst 0, 1, 0, 0, 0, [], []), (615, .ireturn, 1, 0, 0, 0, [], []), (616, .aload_n 1, 1, 0, 0, 0, [], []), (617, .aload_n 0, 1, 0, 0, 0, [], []), (618, .iload_n 3, 1, 0, 0, 0, [], []), (619, .iconst 1, 1, 0, 0, 1, [], []), (620, .iadd, 1, 0, 0, 0, [], []), (621, .iaload, 1, 0, 0, 0, [], []), (622, .invokevirtual 106, 3, 117, 1, 0, [], [677, 678, 42, 680, 679]), (625, .aload_n 2, 1, 0, 0, 0, [], []), (626, .aload_n 0, 1, 0, 0, 0, [], []), (627, .iload_n 3, 1, 0, 0, 0, [], []), (628, .iconst 1, 1, 0, 0, 1, [], []), (629, .iadd, 1, 0, 0, 0, [], []), (630, .iaload, 1, 0, 0, 0, [], []), (631, .invokevirtual 109, 3, 183, 1, 0, [], [998, 999, 51, 1001, 1000]), (634, .if_icmp .eq 82, 3, 408, 0, 0, [], []), (637, .iconst 0, 1, 0, 0, 0, [], []), (638, .ireturn, 1, 0, 0, 0, [], []), (639, .aload_n 1, 1, 0, 0, 0, [], []), (640, .invokevirtual 110, 3, 118, 0, 0, [], [686, 687, 42, 689, 688]), (643, .dstore 4, 2, 0, 0, 0, [], []), (645, .aload_n 2, 1, 0, 0, 0, [], []), (646, .invokevirtual 114, 3, 186, 0, 0, [], [1002, 1003, 51, 1005, 1004]), (649, .dstore 6, 2, 0, 0, 0, [], []), (651, .dload 4, 2, 0, 0, 0, [], []), (653, .dload 6, 2, 0, 0, 0, [], []), (655, .dcmp .l, 1, 0, 0, 0, [], []), (656, .ifCond .eq 21, 3, 383, 0, 0, [], []), (659, .dload 4, 2, 0, 0, 0, [], []), (661, .dload 4, 2, 0, 0, 0, [], []), (663, .dcmp .l, 1, 0, 0, 0, [], []), (664, .ifCond .eq 11, 3, 381, 0, 0, [], []), (667, .dload 6, 2, 0, 0, 0, [], []), (669, .dload 6, 2, 0, 0, 0, [], []), (671, .dcmp .l, 1, 0, 0, 0, [], []), (672, .ifCond .ne 5, 3, 383, 0, 0, [], []), (675, .iconst 0, 1, 0, 0, 0, [], []), (676, .ireturn, 1, 0, 0, 0, [], []), (677, .goto 39, 3, 408, 0, 0, [], []), (680, .aload_n 1, 1, 0, 0, 0, [], []), (681, .invokevirtual 115, 3, 119, 0, 0, [], [699, 700, 42, 702, 701]), (684, .aload_n 2, 1, 0, 0, 0, [], []), (685, .invokevirtual 118, 3, 187, 0, 0, [], [1015, 1016, 51, 1018, 1017]), (688, .if_icmp .eq 28, 3, 408, 0, 0, [], []), (691, .iconst 0, 1, 0, 0, 0, [], []), (692, .ireturn, 1, 0, 0, 0, [], []), (693, .aload_n 1, 1, 0, 0, 0, [], []), (694, .aload_n 0, 1, 0, 0, 0, [], []), (695, .iload_n 3, 1, 0, 0, 0, [], []), (696, .iconst 1, 1, 0, 0, 1, [], []), (697, .iadd, 1, 0, 0, 0, [], []), (698, .iaload, 1, 0, 0, 0, [], []), (699, .invokevirtual 119, 3, 120, 1, 0, [], [708, 709, 42, 711, 710]), (702, .aload_n 2, 1, 0, 0, 0, [], []), (703, .aload_n 0, 1, 0, 0, 0, [], []), (704, .iload_n 3, 1, 0, 0, 0, [], []), (705, .iconst 1, 1, 0, 0, 1, [], []), (706, .iadd, 1, 0, 0, 0, [], []), (707, .iaload, 1, 0, 0, 0, [], []), (708, .invokevirtual 122, 3, 191, 1, 0, [], [1029, 1030, 51, 1032, 1031]), (711, .if_icmp .eq 5, 3, 408, 0, 0, [], []), (714, .iconst 0, 1, 0, 0, 0, [], []), (715, .ireturn, 1, 0, 0, 0, [], []), (716, .iinc 3 3, 3, 0, 0, 3, [], []), (719, .goto (-701), 3, 10, 0, 0, [], []), (722, .iconst 1, 1, 0, 0, 1, [], []), (723, .ireturn, 1, 0, 0, 0, [], [])]
def az_m1 : List az_E := [(0, .aload_n 0, 1, 0, 0, 0, [], []), (1, .invokespecial 3, 3, 196, 0, 2, [], [74, 61, 62]), (4, .aload_n 0, 1, 0, 0, 0, [], []), (5, .bipush 24, 2, 0, 0, 24, [], []), (7, .newarray .int, 2, 0, 0, 0, [], [91]), (9, .putfield 9, 3, 0, 0, 0, [], [81]), (12, .aload_n 0, 1, 0, 0, 0, [], []), (13, .bipush 24, 2, 0, 0, 24, [], []), (15, .newarray .int, 2, 0, 0, 0, [], [91]), (17, .putfield 15, 3, 0, 1, 0, [], [82]), (20, .aload_n 0, 1, 0, 0, 0, [], []), (21, .bipush 24, 2, 0, 0, 24, [], []), (23, .newarray .int, 2, 0, 0, 0, [], [91]), (25, .putfield 18, 3, 0, 2, 0, [], [83]), (28, .aload_n 0, 1, 0, 0, 0, [], []), (29, .getfield 15, 3, 0, 1, 0, [], [82]), (32, .iconst 0, 1, 0, 0, 0, [], []), (33, .invokestatic 21, 3, 2, 1, 0, [], [75, 76, 44, 77]), (36, .invokestatic 25, 3, 124, 2, 1, [], [78, 79, 42, 80]), (39, .return_, 1, 0, 0, 0, [], [])]
def az_m2 : List az_E := [(0, .iload_n 0, 1, 0, 0, 0, [], []), (1, .bipush 37, 2, 0, 0, 37, [], []), (3, .imul, 1, 0, 0, 0, [], []), (4, .bipush 11, 2, 0, 0, 11, [], []), (6, .iadd, 1, 0, 0, 0, [], []), (7, .bipush 101, 2, 0, 0, 101, [], []), (9, .irem, 1, 0, 0, 0, [], []), (10, .ireturn, 1, 0, 0, 0, [], [])]
def az_m3 : List az_E := [(0, .iload_n 1, 1, 0, 0, 0, [], []), (1, .invokestatic 29, 3, 122, 1, 1, [], [428, 429, 42, 430]), (4, .ifCond .ne 4, 3, 4, 0, 0, [], []), (7, .return_, 1, 0, 0, 0, [], []), (8, .iload_n 2, 1, 0, 0, 0, [], []), (9, .invokestatic 21, 3, 2, 1, 0, [], [75, 76, 44, 77]), (12, .istore 4, 2, 0, 0, 0, [], []), (14, .aload_n 0, 1, 0, 0, 0, [], []), (15, .getfield 9, 3, 0, 0, 0, [], [81]), (18, .iload_n 1, 1, 0, 0, 0, [], []), (19, .iload_n 2, 1, 0, 0, 0, [], []), (20, .iastore, 1, 0, 0, 0, [], []), (21, .aload_n 0, 1, 0, 0, 0, [], []), (22, .getfield 15, 3, 0, 1, 0, [], [82]), (25, .iload_n 1, 1, 0, 0, 0, [], []), (26, .iload_n 3, 1, 0, 0, 0, [], []), (27, .ifCond .eq 13, 3, 23, 0, 0, [], []), (30, .iload 4, 2, 0, 0, 0, [], []), (32, .iconst 1, 1, 0, 0, 1, [], []), (33, .iadd, 1, 0, 0, 0, [], []), (34, .bipush 101, 2, 0, 0, 101, [], []), (36, .irem, 1, 0, 0, 0, [], []), (37, .goto 5, 3, 24, 0, 0, [], []), (40, .iload 4, 2, 0, 0, 0, [], []), (42, .iastore, 1, 0, 0, 0, [], []), (43, .aload_n 0, 1, 0, 0, 0, [], []), (44, .getfield 18, 3, 0, 2, 0, [], [83]), (47, .iload_n 1, 1, 0, 0, 0, [], []), (48, .dup2, 1, 0, 0, 0, [], []), (49, .iaload, 1, 0, 0, 0, [], []), (50, .iconst 1, 1, 0, 0, 1, [], []), (51, .iadd, 1, 0, 0, 0, [], []), (52, .iastore, 1, 0, 0, 0, [], []), (53, .return_, 1, 0, 0, 0, [], [])]
def az_m4 : List az_E := [(0, .iload_n 1, 1, 0, 0, 0, [], []), (1, .invokestatic 29, 3, 122, 1, 1, [], [428, 429, 42, 430]), (4, .ifCond .eq 12, 3, 8, 0, 0, [], []), (7, .aload_n 0, 1, 0, 0, 0, [], []), (8, .getfield 9, 3, 0, 0, 0, [], [81]), (11, .iload_n 1, 1, 0, 0, 0, [], []), (12, .iaload, 1, 0, 0, 0, [], []), (13, .goto 5, 3, 9, 0, 0, [], []), (16, .bipush (-5), 2, 0, 0, (-5), [], []), (18, .ireturn, 1, 0, 0, 0, [], [])]
def az_m5 : List az_E := [(0, .iload_n 1, 1, 0, 0, 0, [], []), (1, .invokestatic 29, 3, 122, 1, 1, [], [428, 429, 42, 430]), (4, .ifCond .eq 12, 3, 8, 0, 0, [], []), (7, .aload_n 0, 1, 0, 0, 0, [], []), (8, .getfield 15, 3, 0, 1, 0, [], [82]), (11, .iload_n 1, 1, 0, 0, 0, [], []), (12, .iaload, 1, 0, 0, 0, [], []), (13, .goto 5, 3, 9, 0, 0, [], []), (16, .bipush (-5), 2, 0, 0, (-5), [], []), (18, .ireturn, 1, 0, 0, 0, [], [])]
def az_m6 : List az_E := [(0, .iload_n 1, 1, 0, 0, 0, [], []), (1, .invokestatic 29, 3, 122, 1, 1, [], [428, 429, 42, 430]), (4, .ifCond .eq 12, 3, 8, 0, 0, [], []), (7, .aload_n 0, 1, 0, 0, 0, [], []), (8, .getfield 18, 3, 0, 2, 0, [], [83]), (11, .iload_n 1, 1, 0, 0, 0, [], []), (12, .iaload, 1, 0, 0, 0, [], []), (13, .goto 4, 3, 9, 0, 0, [], []), (16, .iconst 0, 1, 0, 0, 0, [], []), (17, .ireturn, 1, 0, 0, 0, [], [])]
def az_m7 : List az_E := [(0, .iload_n 1, 1, 0, 0, 0, [], []), (1, .invokestatic 29, 3, 122, 1, 1, [], [428, 429, 42, 430]), (4, .ifCond .eq 25, 3, 15, 0, 0, [], []), (7, .aload_n 0, 1, 0, 0, 0, [], []), (8, .getfield 15, 3, 0, 1, 0, [], [82]), (11, .iload_n 1, 1, 0, 0, 0, [], []), (12, .iaload, 1, 0, 0, 0, [], []), (13, .aload_n 0, 1, 0, 0, 0, [], []), (14, .getfield 9, 3, 0, 0, 0, [], [81]), (17, .iload_n 1, 1, 0, 0, 0, [], []), (18, .iaload, 1, 0, 0, 0, [], []), (19, .invokestatic 21, 3, 2, 1, 0, [], [75, 76, 44, 77]), (22, .if_icmp .eq 7, 3, 15, 0, 0, [], []), (25, .iconst 1, 1, 0, 0, 1, [], []), (26, .goto 4, 3, 16, 0, 0, [], []), (29, .iconst 0, 1, 0, 0, 0, [], []), (30, .ireturn, 1, 0, 0, 0, [], [])]
def az_m8 : List az_E := [(0, .iconst 0, 1, 0, 0, 0, [], []), (1, .istore_n 1, 1, 0, 0, 0, [], []), (2, .iconst 0, 1, 0, 0, 0, [], []), (3, .istore_n 2, 1, 0, 0, 0, [], []), (4, .iload_n 2, 1, 0, 0, 0, [], []), (5, .bipush 24, 2, 0, 0, 24, [], []), (7, .if_icmp .ge 20, 3, 14, 0, 0, [], []), (10, .aload_n 0, 1, 0, 0, 0, [], []), (11, .iload_n 2, 1, 0, 0, 0, [], []), (12, .invokevirtual 33, 3, 7, 1, 0, [], [731, 639, 44, 641, 640]), (15, .ifCond .eq 6, 3, 12, 0, 0, [], []), (18, .iinc 1 1, 3, 0, 0, 1, [], []), (21, .iinc 2 1, 3, 0, 0, 1, [], []), (24, .goto (-20), 3, 4, 0, 0, [], []), (27, .iload_n 1, 1, 0, 0, 0, [], []), (28, .ireturn, 1, 0, 0, 0, [], [])]
def az_m9 : List az_E := [(0, .iconst 0, 1, 0, 0, 0, [], []), (1, .istore_n 1, 1, 0, 0, 0, [], []), (2, .iconst 0, 1, 0, 0, 0, [], []), (3, .istore_n 2, 1, 0, 0, 0, [], []), (4, .iload_n 2, 1, 0, 0, 0, [], []), (5, .bipush 24, 2, 0, 0, 24, [], []), (7, .if_icmp .ge 30, 3, 22, 0, 0, [], []), (10, .aload_n 0, 1, 0, 0, 0, [], []), (11, .getfield 18, 3, 0, 2, 0, [], [83]), (14, .iload_n 2, 1, 0, 0, 0, [], []), (15, .iaload, 1, 0, 0, 0, [], []), (16, .iload_n 1, 1, 0, 0, 0, [], []), (17, .if_icmp .le 12, 3, 18, 0, 0, [], []), (20, .aload_n 0, 1, 0, 0, 0, [], []), (21, .getfield 18, 3, 0, 2, 0, [], [83]), (24, .iload_n 2, 1, 0, 0, 0, [], []), (25, .iaload, 1, 0, 0, 0, [], []), (26, .goto 4, 3, 19, 0, 0, [], []), (29, .iload_n 1, 1, 0, 0, 0, [], []), (30, .istore_n 1, 1, 0, 0, 0, [], []), (31, .iinc 2 1, 3, 0, 0, 1, [], []), (34, .goto (-30), 3, 4, 0, 0, [], []), (37, .iload_n 1, 1, 0, 0, 0, [], []), (38, .ireturn, 1, 0, 0, 0, [], [])]
def az_m10 : List az_E := [(0, .iconst 0, 1, 0, 0, 0, [], []), (1, .istore_n 1, 1, 0, 0, 0, [], []), (2, .iconst 0, 1, 0, 0, 0, [], []), (3, .istore_n 2, 1, 0, 0, 0, [], []), (4, .iload_n 2, 1, 0, 0, 0, [], []), (5, .bipush 24, 2, 0, 0, 24, [], []), (7, .if_icmp .ge 18, 3, 16, 0, 0, [], []), (10, .iload_n 1, 1, 0, 0, 0, [], []), (11, .aload_n 0, 1, 0, 0, 0, [], []), (12, .getfield 18, 3, 0, 2, 0, [], [83]), (15, .iload_n 2, 1, 0, 0, 0, [], []), (16, .iaload, 1, 0, 0, 0, [], []), (17, .iadd, 1, 0, 0, 0, [], []), (18, .istore_n 1, 1, 0, 0, 0, [], []), (19, .iinc 2 1, 3, 0, 0, 1, [], []), (22, .goto (-18), 3, 4, 0, 0, [], []), (25, .iload_n 1, 1, 0, 0, 0, [], []), (26, .ireturn, 1, 0, 0, 0, [], [])]
def az_m11 : List az_E := [(0, .aload_n 1, 1, 0, 0, 0, [], []), (1, .getfield 9, 3, 0, 0, 0, [], [81]), (4, .aload_n 0, 1, 0, 0, 0, [], []), (5, .getfield 9, 3, 0, 0, 0, [], [81]), (8, .invokestatic 36, 3, 125, 2, 1, [], [279, 280, 42, 281]), (11, .aload_n 1, 1, 0, 0, 0, [], []), (12, .getfield 15, 3, 0, 1, 0, [], [82]), (15, .aload_n 0, 1, 0, 0, 0, [], []), (16, .getfield 15, 3, 0, 1, 0, [], [82]), (19, .invokestatic 36, 3, 125, 2, 1, [], [279, 280, 42, 281]), (22, .aload_n 1, 1, 0, 0, 0, [], []), (23, .getfield 18, 3, 0, 2, 0, [], [83]), (26, .aload_n 0, 1, 0, 0, 0, [], []), (27, .getfield 18, 3, 0, 2, 0, [], [83]), (30, .invokestatic 36, 3, 125, 2, 1, [], [279, 280, 42, 281]), (33, .return_, 1, 0, 0, 0, [], [])]
def az_m12 : List az_E := [(0, .aload_n 0, 1, 0, 0, 0, [], []), (1, .invokespecial 3, 3, 196, 0, 2, [], [114, 61, 62]), (4, .aload_n 0, 1, 0, 0, 0, [], []), (5, .bipush 8, 2, 0, 0, 8, [], []), (7, .newarray .int, 2, 0, 0, 0, [], [91]), (9, .putfield 9, 3, 1, 0, 0, [], [116]), (12, .aload_n 0, 1, 0, 0, 0, [], []), (13, .getfield 9, 3, 1, 0, 0, [], [116]), (16, .iconst (-1), 1, 0, 0, (-1), [], []), (17, .invokestatic 15, 3, 124, 2, 1, [], [115, 79, 42, 80]), (20, .return_, 1, 0, 0, 0, [], [])]
def az_m13 : List az_E := [(0, .iload_n 1, 1, 0, 0, 0, [], []), (1, .invokestatic 19, 3, 121, 1, 1, [], [263, 249, 42, 250]), (4, .ifCond .eq 12, 3, 8, 0, 0, [], []), (7, .aload_n 0, 1, 0, 0, 0, [], []), (8, .getfield 9, 3, 1, 0, 0, [], [116]), (11, .iload_n 1, 1, 0, 0, 0, [], []), (12, .iaload, 1, 0, 0, 0, [], []), (13, .goto 4, 3, 9, 0, 0, [], []), (16, .iconst (-1), 1, 0, 0, (-1), [], []), (17, .ireturn, 1, 0, 0, 0, [], [])]
def az_m14 : List az_E := [(0, .aload_n 0, 1, 0, 0, 0, [], []), (1, .iload_n 1, 1, 0, 0, 0, [], []), (2, .invokevirtual 23, 3, 13, 1, 0, [], [473, 260, 46, 262, 261]), (5, .iconst (-1), 1, 0, 0, (-1), [], []), (6, .if_icmp .eq 7, 3, 7, 0, 0, [], []), (9, .iconst 1, 1, 0, 0, 1, [], []), (10, .goto 4, 3, 8, 0, 0, [], []), (13, .iconst 0, 1, 0, 0, 0, [], []), (14, .ireturn, 1, 0, 0, 0, [], [])]
def az_m15 : List az_E := [(0, .iload_n 1, 1, 0, 0, 0, [], []), (1, .invokestatic 19, 3, 121, 1, 1, [], [263, 249, 42, 250]), (4, .ifCond .eq 10, 3, 8, 0, 0, [], []), (7, .aload_n 0, 1, 0, 0, 0, [], []), (8, .getfield 9, 3, 1, 0, 0, [], [116]), (11, .iload_n 1, 1, 0, 0, 0, [], []), (12, .iload_n 2, 1, 0, 0, 0, [], []), (13, .iastore, 1, 0, 0, 0, [], []), (14, .return_, 1, 0, 0, 0, [], [])]
def az_m16 : List az_E := [(0, .aload_n 0, 1, 0, 0, 0, [], []), (1, .getfield 9, 3, 1, 0, 0, [], [116]), (4, .iconst (-1), 1, 0, 0, (-1), [], []), (5, .invokestatic 15, 3, 124, 2, 1, [], [115, 79, 42, 80]), (8, .return_, 1, 0, 0, 0, [], [])]
def az_m17 : List az_E := [(0, .iconst 0, 1, 0, 0, 0, [], []), (1, .istore_n 1, 1, 0, 0, 0, [], []), (2, .iconst 0, 1, 0, 0, 0, [], []), (3, .istore_n 2, 1, 0, 0, 0, [], []), (4, .iload_n 2, 1, 0, 0, 0, [], []), (5, .bipush 8, 2, 0, 0, 8, [], []), (7, .if_icmp .ge 22, 3, 16, 0, 0, [], []), (10, .aload_n 0, 1, 0, 0, 0, [], []), (11, .getfield 9, 3, 1, 0, 0, [], [116]), (14, .iload_n 2, 1, 0, 0, 0, [], []), (15, .iaload, 1, 0, 0, 0, [], []), (16, .iconst (-1), 1, 0, 0, (-1), [], []), (17, .if_icmp .eq 6, 3, 14, 0, 0, [], []), (20, .iinc 1 1, 3, 0, 0, 1, [], []), (23, .iinc 2 1, 3, 0, 0, 1, [], []), (26, .goto (-22), 3, 4, 0, 0, [], []), (29, .iload_n 1, 1, 0, 0, 0, [], []), (30, .ireturn, 1, 0, 0, 0, [], [])]
def az_m18 : List az_E := [(0, .iconst 0, 1, 0, 0, 0, [], []), (1, .istore_n 1, 1, 0, 0, 0, [], []), (2, .iconst 0, 1, 0, 0, 0, [], []), (3, .istore_n 2, 1, 0, 0, 0, [], []), (4, .iload_n 2, 1, 0, 0, 0, [], []), (5, .bipush 8, 2, 0, 0, 8, [], []), (7, .if_icmp .ge 21, 3, 15, 0, 0, [], []), (10, .aload_n 0, 1, 0, 0, 0, [], []), (11, .getfield 9, 3, 1, 0, 0, [], [116]), (14, .iload_n 2, 1, 0, 0, 0, [], []), (15, .iaload, 1, 0, 0, 0, [], []), (16, .ifCond .lt 6, 3, 13, 0, 0, [], []), (19, .iinc 1 1, 3, 0, 0, 1, [], []), (22, .iinc 2 1, 3, 0, 0, 1, [], []), (25, .goto (-21), 3, 4, 0, 0, [], []), (28, .iload_n 1, 1, 0, 0, 0, [], []), (29, .ireturn, 1, 0, 0, 0, [], [])]
def az_m19 : List az_E := [(0, .iconst 0, 1, 0, 0, 0, [], []), (1, .istore_n 2, 1, 0, 0, 0, [], []), (2, .iconst 0, 1, 0, 0, 0, [], []), (3, .istore_n 3, 1, 0, 0, 0, [], []), (4, .iload_n 3, 1, 0, 0, 0, [], []), (5, .bipush 8, 2, 0, 0, 8, [], []), (7, .if_icmp .ge 28, 3, 20, 0, 0, [], []), (10, .aload_n 0, 1, 0, 0, 0, [], []), (11, .getfield 9, 3, 1, 0, 0, [], [116]), (14, .iload_n 3, 1, 0, 0, 0, [], []), (15, .iaload, 1, 0, 0, 0, [], []), (16, .ifCond .lt 13, 3, 18, 0, 0, [], []), (19, .iload_n 2, 1, 0, 0, 0, [], []), (20, .iload_n 1, 1, 0, 0, 0, [], []), (21, .if_icmp .ne 5, 3, 17, 0, 0, [], []), (24, .iload_n 3, 1, 0, 0, 0, [], []), (25, .ireturn, 1, 0, 0, 0, [], []), (26, .iinc 2 1, 3, 0, 0, 1, [], []), (29, .iinc 3 1, 3, 0, 0, 1, [], []), (32, .goto (-28), 3, 4, 0, 0, [], []), (35, .bipush (-5), 2, 0, 0, (-5), [], []), (37, .ireturn, 1, 0, 0, 0, [], [])]
def az_m20 : List az_E := [(0, .aload_n 1, 1, 0, 0, 0, [], []), (1, .getfield 9, 3, 1, 0, 0, [], [116]), (4, .aload_n 0, 1, 0, 0, 0, [], []), (5, .getfield 9, 3, 1, 0, 0, [], [116]), (8, .invokestatic 27, 3, 125, 2, 1, [], [291, 280, 42, 281]), (11, .return_, 1, 0, 0, 0, [], [])]
def az_m21 : List az_E := [(0, .aload_n 0, 1, 0, 0, 0, [], []), (1, .invokespecial 3, 3, 196, 0, 2, [], [97, 61, 62]), (4, .aload_n 0, 1, 0, 0, 0, [], []), (5, .bipush 8, 2, 0, 0, 8, [], []), (7, .newarray .int, 2, 0, 0, 0, [], [91]), (9, .putfield 9, 3, 2, 2, 0, [], [101]), (12, .aload_n 0, 1, 0, 0, 0, [], []), (13, .iload_n 1, 1, 0, 0, 0, [], []), (14, .putfield 15, 3, 2, 0, 0, [], [99]), (17, .aload_n 0, 1, 0, 0, 0, [], []), (18, .iconst 0, 1, 0, 0, 0, [], []), (19, .putfield 19, 3, 2, 1, 0, [], [100]), (22, .aload_n 0, 1, 0, 0, 0, [], []), (23, .getfield 9, 3, 2, 2, 0, [], [101]), (26, .bipush (-5), 2, 0, 0, (-5), [], []), (28, .invokestatic 23, 3, 124, 2, 1, [], [98, 79, 42, 80]), (31, .return_, 1, 0, 0, 0, [], [])]
def az_m22 : List az_E := [(0, .aload_n 0, 1, 0, 0, 0, [], []), (1, .getfield 15, 3, 2, 0, 0, [], [99]), (4, .ireturn, 1, 0, 0, 0, [], [])]
def az_m23 : List az_E := [(0, .aload_n 0, 1, 0, 0, 0, [], []), (1, .getfield 19, 3, 2, 1, 0, [], [100]), (4, .ireturn, 1, 0, 0, 0, [], [])]
def az_m24 : List az_E := [(0, .aload_n 0, 1, 0, 0, 0, [], []), (1, .iload_n 1, 1, 0, 0, 0, [], []), (2, .putfield 15, 3, 2, 0, 0, [], [99]), (5, .aload_n 0, 1, 0, 0, 0, [], []), (6, .iload_n 2, 1, 0, 0, 0, [], []), (7, .putfield 19, 3, 2, 1, 0, [], [100]), (10, .return_, 1, 0, 0, 0, [], [])]
def az_m25 : List az_E := [(0, .iload_n 1, 1, 0, 0, 0, [], []), (1, .invokestatic 27, 3, 121, 1, 1, [], [482, 249, 42, 250]), (4, .ifCond .eq 12, 3, 8, 0, 0, [], []), (7, .aload_n 0, 1, 0, 0, 0, [], []), (8, .getfield 9, 3, 2, 2, 0, [], [101]), (11, .iload_n 1, 1, 0, 0, 0, [], []), (12, .iaload, 1, 0, 0, 0, [], []), (13, .goto 5, 3, 9, 0, 0, [], []), (16, .bipush (-5), 2, 0, 0, (-5), [], []), (18, .ireturn, 1, 0, 0, 0, [], [])]
def az_m26 : List az_E := [(0, .iload_n 1, 1, 0, 0, 0, [], []), (1, .invokestatic 27, 3, 121, 1, 1, [], [482, 249, 42, 250]), (4, .ifCond .eq 10, 3, 8, 0, 0, [], []), (7, .aload_n 0, 1, 0, 0, 0, [], []), (8, .getfield 9, 3, 2, 2, 0, [], [101]), (11, .iload_n 1, 1, 0, 0, 0, [], []), (12, .iload_n 2, 1, 0, 0, 0, [], []), (13, .iastore, 1, 0, 0, 0, [], []), (14, .return_, 1, 0, 0, 0, [], [])]
def az_m27 : List az_E := [(0, .iconst 0, 1, 0, 0, 0, [], []), (1, .istore_n 2, 1, 0, 0, 0, [], []), (2, .iload_n 2, 1, 0, 0, 0, [], []), (3, .bipush 8, 2, 0, 0, 8, [], []), (5, .if_icmp .ge 21, 3, 15, 0, 0, [], []), (8, .aload_n 0, 1, 0, 0, 0, [], []), (9, .getfield 9, 3, 2, 2, 0, [], [101]), (12, .iload_n 2, 1, 0, 0, 0, [], []), (13, .iaload, 1, 0, 0, 0, [], []), (14, .iload_n 1, 1, 0, 0, 0, [], []), (15, .if_icmp .ne 5, 3, 13, 0, 0, [], []), (18, .iload_n 2, 1, 0, 0, 0, [], []), (19, .ireturn, 1, 0, 0, 0, [], []), (20, .iinc 2 1, 3, 0, 0, 1, [], []), (23, .goto (-21), 3, 2, 0, 0, [], []), (26, .bipush (-5), 2, 0, 0, (-5), [], []), (28, .ireturn, 1, 0, 0, 0, [], [])]
def az_m28 : List az_E := [(0, .iconst 0, 1, 0, 0, 0, [], []), (1, .istore_n 1, 1, 0, 0, 0, [], []), (2, .iconst 0, 1, 0, 0, 0, [], []), (3, .istore_n 2, 1, 0, 0, 0, [], []), (4, .iload_n 2, 1, 0, 0, 0, [], []), (5, .bipush 8, 2, 0, 0, 8, [], []), (7, .if_icmp .ge 26, 3, 21, 0, 0, [], []), (10, .aload_n 0, 1, 0, 0, 0, [], []), (11, .getfield 9, 3, 2, 2, 0, [], [101]), (14, .iload_n 2, 1, 0, 0, 0, [], []), (15, .iaload, 1, 0, 0, 0, [], []), (16, .bipush (-5), 2, 0, 0, (-5), [], []), (18, .if_icmp .eq 9, 3, 19, 0, 0, [], []), (21, .iload_n 1, 1, 0, 0, 0, [], []), (22, .iconst 1, 1, 0, 0, 1, [], []), (23, .iload_n 2, 1, 0, 0, 0, [], []), (24, .ishl, 1, 0, 0, 0, [], []), (25, .ior, 1, 0, 0, 0, [], []), (26, .istore_n 1, 1, 0, 0, 0, [], []), (27, .iinc 2 1, 3, 0, 0, 1, [], []), (30, .goto (-26), 3, 4, 0, 0, [], []), (33, .iload_n 1, 1, 0, 0, 0, [], []), (34, .ireturn, 1, 0, 0, 0, [], [])]
def az_m29 : List az_E := [(0, .aload_n 0, 1, 0, 0, 0, [], []), (1, .invokevirtual 31, 3, 28, 0, 0, [], [716, 664, 45, 666, 665]), (4, .invokestatic 35, 3, 194, 1, 0, [], [717, 718, 54, 719]), (7, .ireturn, 1, 0, 0, 0, [], [])]
def az_m30 : List az_E := [(0, .aload_n 0, 1, 0, 0, 0, [], []), (1, .aload_n 1, 1, 0, 0, 0, [], []), (2, .getfield 15, 3, 2, 0, 0, [], [99]), (5, .putfield 15, 3, 2, 0, 0, [], [99]), (8, .aload_n 0, 1, 0, 0, 0, [], []), (9, .aload_n 1, 1, 0, 0, 0, [], []), (10, .getfield 19, 3, 2, 1, 0, [], [100]), (13, .putfield 19, 3, 2, 1, 0, [], [100]), (16, .aload_n 1, 1, 0, 0, 0, [], []), (17, .getfield 9, 3, 2, 2, 0, [], [101]), (20, .aload_n 0, 1, 0, 0, 0, [], []), (21, .getfield 9, 3, 2, 2, 0, [], [101]), (24, .invokestatic 41, 3, 125, 2, 1, [], [286, 280, 42, 281]), (27, .return_, 1, 0, 0, 0, [], [])]
def az_m31 : List az_E := [(0, .aload_n 0, 1, 0, 0, 0, [], []), (1, .invokespecial 3, 3, 196, 0, 2, [], [191, 61, 62]), (4, .aload_n 0, 1, 0, 0, 0, [], []), (5, .iconst 4, 1, 0, 0, 4, [], []), (6, .anewarray 9, 3, 6, 4, 0, [], [192, 193]), (9, .putfield 11, 3, 3, 0, 0, [], [195]), (12, .aload_n 0, 1, 0, 0, 0, [], []), (13, .iconst 0, 1, 0, 0, 0, [], []), (14, .putfield 17, 3, 3, 1, 0, [], [196]), (17, .aload_n 0, 1, 0, 0, 0, [], []), (18, .iconst 0, 1, 0, 0, 0, [], []), (19, .putfield 21, 3, 3, 2, 0, [], [197]), (22, .iconst 0, 1, 0, 0, 0, [], []), (23, .istore_n 1, 1, 0, 0, 0, [], []), (24, .iload_n 1, 1, 0, 0, 0, [], []), (25, .iconst 4, 1, 0, 0, 4, [], []), (26, .if_icmp .ge 22, 3, 26, 0, 0, [], []), (29, .aload_n 0, 1, 0, 0, 0, [], []), (30, .getfield 11, 3, 3, 0, 0, [], [195]), (33, .iload_n 1, 1, 0, 0, 0, [], []), (34, .new 9, 3, 6, 9, 0, [], [192, 64, 43]), (37, .dup, 1, 0, 0, 0, [], []), (38, .invokespecial 24, 3, 59, 0, 0, [], [194, 66, 43, 67]), (41, .aastore, 1, 0, 0, 0, [], []), (42, .iinc 1 1, 3, 0, 0, 1, [], []), (45, .goto (-21), 3, 14, 0, 0, [], []), (48, .return_, 1, 0, 0, 0, [], [])]
def az_m32 : List az_E := [(0, .aload_n 0, 1, 0, 0, 0, [], []), (1, .getfield 21, 3, 3, 2, 0, [], [197]), (4, .ireturn, 1, 0, 0, 0, [], [])]
def az_m33 : List az_E := [(0, .aload_n 0, 1, 0, 0, 0, [], []), (1, .getfield 11, 3, 3, 0, 0, [], [195]), (4, .aload_n 0, 1, 0, 0, 0, [], []), (5, .getfield 17, 3, 3, 1, 0, [], [196]), (8, .aload_n 0, 1, 0, 0, 0, [], []), (9, .getfield 21, 3, 3, 2, 0, [], [197]), (12, .iadd, 1, 0, 0, 0, [], []), (13, .iconst 4, 1, 0, 0, 4, [], []), (14, .invokestatic 25, 3, 195, 2, 0, [], [268, 269, 52, 270]), (17, .aaload, 1, 0, 0, 0, [], []), (18, .aload_n 1, 1, 0, 0, 0, [], []), (19, .invokevirtual 31, 3, 82, 1, 0, [], [271, 272, 43, 274, 273]), (22, .aload_n 0, 1, 0, 0, 0, [], []), (23, .getfield 21, 3, 3, 2, 0, [], [197]), (26, .iconst 4, 1, 0, 0, 4, [], []), (27, .if_icmp .ge 16, 3, 23, 0, 0, [], []), (30, .aload_n 0, 1, 0, 0, 0, [], []), (31, .dup, 1, 0, 0, 0, [], []), (32, .getfield 21, 3, 3, 2, 0, [], [197]), (35, .iconst 1, 1, 0, 0, 1, [], []), (36, .iadd, 1, 0, 0, 0, [], []), (37, .putfield 21, 3, 3, 2, 0, [], [197]), (40, .goto 17, 3, 31, 0, 0, [], []), (43, .aload_n 0, 1, 0, 0, 0, [], []), (44, .aload_n 0, 1, 0, 0, 0, [], []), (45, .getfield 17, 3, 3, 1, 0, [], [196]), (48, .iconst 1, 1, 0, 0, 1, [], []), (49, .iadd, 1, 0, 0, 0, [], []), (50, .iconst 4, 1, 0, 0, 4, [], []), (51, .invokestatic 25, 3, 195, 2, 0, [], [268, 269, 52, 270]), (54, .putfield 17, 3, 3, 1, 0, [], [196]), (57, .return_, 1, 0, 0, 0, [], [])]
def az_m34 : List az_E := [(0, .aload_n 0, 1, 0, 0, 0, [], []), (1, .getfield 21, 3, 3, 2, 0, [], [197]), (4, .ifCond .le 35, 3, 21, 0, 0, [], []), (7, .aload_n 0, 1, 0, 0, 0, [], []), (8, .dup, 1, 0, 0, 0, [], []), (9, .getfield 21, 3, 3, 2, 0, [], [197]), (12, .iconst 1, 1, 0, 0, 1, [], []), (13, .isub, 1, 0, 0, 0, [], []), (14, .putfield 21, 3, 3, 2, 0, [], [197]), (17, .aload_n 1, 1, 0, 0, 0, [], []), (18, .aload_n 0, 1, 0, 0, 0, [], []), (19, .getfield 11, 3, 3, 0, 0, [], [195]), (22, .aload_n 0, 1, 0, 0, 0, [], []), (23, .getfield 17, 3, 3, 1, 0, [], [196]), (26, .aload_n 0, 1, 0, 0, 0, [], []), (27, .getfield 21, 3, 3, 2, 0, [], [197]), (30, .iadd, 1, 0, 0, 0, [], []), (31, .iconst 4, 1, 0, 0, 4, [], []), (32, .invokestatic 25, 3, 195, 2, 0, [], [268, 269, 52, 270]), (35, .aaload, 1, 0, 0, 0, [], []), (36, .invokevirtual 31, 3, 82, 1, 0, [], [271, 272, 43, 274, 273]), (39, .return_, 1, 0, 0, 0, [], [])]
def az_m35 : List az_E := [(0, .aload_n 0, 1, 0, 0, 0, [], []), (1, .invokespecial 3, 3, 196, 0, 2, [], [210, 61, 62]), (4, .aload_n 0, 1, 0, 0, 0, [], []), (5, .bipush 60, 2, 0, 0, 60, [], []), (7, .newarray .char, 2, 0, 1, 0, [], [227]), (9, .putfield 9, 3, 4, 0, 0, [], [211]), (12, .aload_n 0, 1, 0, 0, 0, [], []), (13, .bipush 20, 2, 0, 0, 20, [], []), (15, .newarray .int, 2, 0, 0, 0, [], [91]), (17, .putfield 15, 3, 4, 2, 0, [], [213]), (20, .aload_n 0, 1, 0, 0, 0, [], []), (21, .bipush 20, 2, 0, 0, 20, [], []), (23, .newarray .int, 2, 0, 0, 0, [], [91]), (25, .putfield 19, 3, 4, 3, 0, [], [214]), (28, .aload_n 0, 1, 0, 0, 0, [], []), (29, .iconst 0, 1, 0, 0, 0, [], []), (30, .putfield 22, 3, 4, 1, 0, [], [212]), (33, .aload_n 0, 1, 0, 0, 0, [], []), (34, .iconst 0, 1, 0, 0, 0, [], []), (35, .putfield 26, 3, 4, 4, 0, [], [215]), (38, .return_, 1, 0, 0, 0, [], [])]
def az_m36 : List az_E := [(0, .aload_n 0, 1, 0, 0, 0, [], []), (1, .getfield 22, 3, 4, 1, 0, [], [212]), (4, .ireturn, 1, 0, 0, 0, [], [])]
def az_m37 : List az_E := [(0, .aload_n 0, 1, 0, 0, 0, [], []), (1, .getfield 22, 3, 4, 1, 0, [], [212]), (4, .bipush 60, 2, 0, 0, 60, [], []), (6, .if_icmp .lt 7, 3, 6, 0, 0, [], []), (9, .iconst 1, 1, 0, 0, 1, [], []), (10, .goto 4, 3, 7, 0, 0, [], []), (13, .iconst 0, 1, 0, 0, 0, [], []), (14, .ireturn, 1, 0, 0, 0, [], [])]
def az_m38 : List az_E := [(0, .aload_n 0, 1, 0, 0, 0, [], []), (1, .getfield 22, 3, 4, 1, 0, [], [212]), (4, .ifCond .lt 32, 3, 19, 0, 0, [], []), (7, .aload_n 0, 1, 0, 0, 0, [], []), (8, .getfield 22, 3, 4, 1, 0, [], [212]), (11, .bipush 60, 2, 0, 0, 60, [], []), (13, .if_icmp .ge 23, 3, 19, 0, 0, [], []), (16, .aload_n 0, 1, 0, 0, 0, [], []), (17, .getfield 9, 3, 4, 0, 0, [], [211]), (20, .aload_n 0, 1, 0, 0, 0, [], []), (21, .getfield 22, 3, 4, 1, 0, [], [212]), (24, .iload_n 1, 1, 0, 0, 0, [], []), (25, .castore, 1, 0, 0, 0, [], []), (26, .aload_n 0, 1, 0, 0, 0, [], []), (27, .dup, 1, 0, 0, 0, [], []), (28, .getfield 22, 3, 4, 1, 0, [], [212]), (31, .iconst 1, 1, 0, 0, 1, [], []), (32, .iadd, 1, 0, 0, 0, [], []), (33, .putfield 22, 3, 4, 1, 0, [], [212]), (36, .return_, 1, 0, 0, 0, [], [])]
def az_m39 : List az_E := [(0, .aload_n 0, 1, 0, 0, 0, [], []), (1, .iconst 0, 1, 0, 0, 0, [], []), (2, .putfield 22, 3, 4, 1, 0, [], [212]), (5, .return_, 1, 0, 0, 0, [], [])]
def az_m40 : List az_E := [(0, .aload_n 0, 1, 0, 0, 0, [], []), (1, .getfield 26, 3, 4, 4, 0, [], [215]), (4, .ireturn, 1, 0, 0, 0, [], [])]
def az_m41 : List az_E := [(0, .iload_n 1, 1, 0, 0, 0, [], []), (1, .ifCond .lt 18, 3, 10, 0, 0, [], []), (4, .iload_n 1, 1, 0, 0, 0, [], []), (5, .bipush 20, 2, 0, 0, 20, [], []), (7, .if_icmp .ge 12, 3, 10, 0, 0, [], []), (10, .aload_n 0, 1, 0, 0, 0, [], []), (11, .getfield 15, 3, 4, 2, 0, [], [213]), (14, .iload_n 1, 1, 0, 0, 0, [], []), (15, .iaload, 1, 0, 0, 0, [], []), (16, .goto 5, 3, 11, 0, 0, [], []), (19, .bipush (-5), 2, 0, 0, (-5), [], []), (21, .ireturn, 1, 0, 0, 0, [], [])]
def az_m42 : List az_E := [(0, .iload_n 1, 1, 0, 0, 0, [], []), (1, .ifCond .lt 18, 3, 10, 0, 0, [], []), (4, .iload_n 1, 1, 0, 0, 0, [], []), (5, .bipush 20, 2, 0, 0, 20, [], []), (7, .if_icmp .ge 12, 3, 10, 0, 0, [], []), (10, .aload_n 0, 1, 0, 0, 0, [], []), (11, .getfield 19, 3, 4, 3, 0, [], [214]), (14, .iload_n 1, 1, 0, 0, 0, [], []), (15, .iaload, 1, 0, 0, 0, [], []), (16, .goto 4, 3, 11, 0, 0, [], []), (19, .iconst (-1), 1, 0, 0, (-1), [], []), (20, .ireturn, 1, 0, 0, 0, [], [])]
def az_m43 : List az_E := [(0, .aload_n 0, 1, 0, 0, 0, [], []), (1, .iconst 0, 1, 0, 0, 0, [], []), (2, .putfield 26, 3, 4, 4, 0, [], [215]), (5, .iconst 0, 1, 0, 0, 0, [], []), (6, .istore_n 1, 1, 0, 0, 0, [], []), (7, .iconst 0, 1, 0, 0, 0, [], []), (8, .istore_n 2, 1, 0, 0, 0, [], []), (9, .iload_n 2, 1, 0, 0, 0, [], []), (10, .aload_n 0, 1, 0, 0, 0, [], []), (11, .getfield 22, 3, 4, 1, 0, [], [212]), (14, .if_icmp .ge 47, 3, 37, 0, 0, [], []), (17, .iload_n 2, 1, 0, 0, 0, [], []), (18, .bipush 60, 2, 0, 0, 60, [], []), (20, .if_icmp .ge 41, 3, 37, 0, 0, [], []), (23, .iload_n 1, 1, 0, 0, 0, [], []), (24, .aload_n 0, 1, 0, 0, 0, [], []), (25, .getfield 9, 3, 4, 0, 0, [], [211]), (28, .iload_n 2, 1, 0, 0, 0, [], []), (29, .caload, 1, 0, 0, 0, [], []), (30, .invokestatic 31, 3, 44, 2, 0, [], [322, 323, 50, 324]), (33, .istore_n 3, 1, 0, 0, 0, [], []), (34, .iload_n 3, 1, 0, 0, 0, [], []), (35, .bipush 6, 2, 0, 0, 6, [], []), (37, .if_icmp .ne 5, 3, 26, 0, 0, [], []), (40, .iload_n 2, 1, 0, 0, 0, [], []), (41, .ireturn, 1, 0, 0, 0, [], []), (42, .aload_n 0, 1, 0, 0, 0, [], []), (43, .iload_n 1, 1, 0, 0, 0, [], []), (44, .aload_n 0, 1, 0, 0, 0, [], []), (45, .getfield 9, 3, 4, 0, 0, [], [211]), (48, .iload_n 2, 1, 0, 0, 0, [], []), (49, .caload, 1, 0, 0, 0, [], []), (50, .invokevirtual 35, 3, 45, 2, 0, [], [325, 327, 50, 328, 1]), (53, .iload_n 3, 1, 0, 0, 0, [], []), (54, .istore_n 1, 1, 0, 0, 0, [], []), (55, .iinc 2 1, 3, 0, 0, 1, [], []), (58, .goto (-49), 3, 7, 0, 0, [], []), (61, .iload_n 1, 1, 0, 0, 0, [], []), (62, .iconst 3, 1, 0, 0, 3, [], []), (63, .if_icmp .eq 13, 3, 46, 0, 0, [], []), (66, .iload_n 1, 1, 0, 0, 0, [], []), (67, .iconst 4, 1, 0, 0, 4, [], []), (68, .if_icmp .eq 8, 3, 46, 0, 0, [], []), (71, .iload_n 1, 1, 0, 0, 0, [], []), (72, .iconst 5, 1, 0, 0, 5, [], []), (73, .if_icmp .ne 7, 3, 48, 0, 0, [], []), (76, .iconst (-1), 1, 0, 0, (-1), [], []), (77, .goto 7, 3, 50, 0, 0, [], []), (80, .aload_n 0, 1, 0, 0, 0, [], []), (81, .getfield 22, 3, 4, 1, 0, [], [212]), (84, .ireturn, 1, 0, 0, 0, [], [])]
def az_m44 : List az_E := [(0, .iload_n 1, 1, 0, 0, 0, [], []), (1, .bipush 48, 2, 0, 0, 48, [], []), (3, .if_icmp .lt 13, 3, 8, 0, 0, [], []), (6, .iload_n 1, 1, 0, 0, 0, [], []), (7, .bipush 57, 2, 0, 0, 57, [], []), (9, .if_icmp .gt 7, 3, 8, 0, 0, [], []), (12, .iconst 1, 1, 0, 0, 1, [], []), (13, .goto 4, 3, 9, 0, 0, [], []), (16, .iconst 0, 1, 0, 0, 0, [], []), (17, .istore_n 2, 1, 0, 0, 0, [], []), (18, .iload_n 0, 1, 0, 0, 0, [], []), (19, .tableswitch 138 0 4 #[33, 52, 75, 96, 117], 33, 67, 0, 0, [12, 22, 34, 45, 56], []), (52, .iload_n 1, 1, 0, 0, 0, [], []), (53, .bipush 48, 2, 0, 0, 48, [], []), (55, .if_icmp .lt 13, 3, 20, 0, 0, [], []), (58, .iload_n 1, 1, 0, 0, 0, [], []), (59, .bipush 55, 2, 0, 0, 55, [], []), (61, .if_icmp .gt 7, 3, 20, 0, 0, [], []), (64, .iconst 1, 1, 0, 0, 1, [], []), (65, .goto 5, 3, 21, 0, 0, [], []), (68, .bipush 6, 2, 0, 0, 6, [], []), (70, .ireturn, 1, 0, 0, 0, [], []), (71, .iload_n 1, 1, 0, 0, 0, [], []), (72, .bipush 61, 2, 0, 0, 61, [], []), (74, .if_icmp .ne 7, 3, 27, 0, 0, [], []), (77, .iconst 2, 1, 0, 0, 2, [], []), (78, .goto 15, 3, 33, 0, 0, [], []), (81, .iload_n 1, 1, 0, 0, 0, [], []), (82, .bipush 45, 2, 0, 0, 45, [], []), (84, .if_icmp .ne 7, 3, 32, 0, 0, [], []), (87, .iconst 5, 1, 0, 0, 5, [], []), (88, .goto 5, 3, 33, 0, 0, [], []), (91, .bipush 6, 2, 0, 0, 6, [], []), (93, .ireturn, 1, 0, 0, 0, [], []), (94, .iload_n 1, 1, 0, 0, 0, [], []), (95, .bipush 48, 2, 0, 0, 48, [], []), (97, .if_icmp .ne 7, 3, 39, 0, 0, [], []), (100, .iconst 5, 1, 0, 0, 5, [], []), (101, .goto 13, 3, 44, 0, 0, [], []), (104, .iload_n 2, 1, 0, 0, 0, [], []), (105, .ifCond .eq 7, 3, 43, 0, 0, [], []), (108, .iconst 3, 1, 0, 0, 3, [], []), (109, .goto 5, 3, 44, 0, 0, [], []), (112, .bipush 6, 2, 0, 0, 6, [], []), (114, .ireturn, 1, 0, 0, 0, [], []), (115, .iload_n 2, 1, 0, 0, 0, [], []), (116, .ifCond .eq 7, 3, 49, 0, 0, [], []), (119, .iconst 4, 1, 0, 0, 4, [], []), (120, .goto 15, 3, 55, 0, 0, [], []), (123, .iload_n 1, 1, 0, 0, 0, [], []), (124, .bipush 44, 2, 0, 0, 44, [], []), (126, .if_icmp .ne 7, 3, 54, 0, 0, [], []), (129, .iconst 0, 1, 0, 0, 0, [], []), (130, .goto 5, 3, 55, 0, 0, [], []), (133, .bipush 6, 2, 0, 0, 6, [], []), (135, .ireturn, 1, 0, 0, 0, [], []), (136, .iload_n 2, 1, 0, 0, 0, [], []), (137, .ifCond .eq 7, 3, 60, 0, 0, [], []), (140, .iconst 5, 1, 0, 0, 5, [], []), (141, .goto 15, 3, 66, 0, 0, [], []), (144, .iload_n 1, 1, 0, 0, 0, [], []), (145, .bipush 44, 2, 0, 0, 44, [], []), (147, .if_icmp .ne 7, 3, 65, 0, 0, [], []), (150, .iconst 0, 1, 0, 0, 0, [], []), (151, .goto 5, 3, 66, 0, 0, [], []), (154, .bipush 6, 2, 0, 0, 6, [], []), (156, .ireturn, 1, 0, 0, 0, [], []), (157, .iload_n 1, 1, 0, 0, 0, [], []), (158, .bipush 44, 2, 0, 0, 44, [], []), (160, .if_icmp .ne 7, 3, 72, 0, 0, [], []), (163, .iconst 0, 1, 0, 0, 0, [], []), (164, .goto 5, 3, 73, 0, 0, [], []), (167, .bipush 6, 2, 0, 0, 6, [], []), (169, .ireturn, 1, 0, 0, 0, [], [])]
def az_m45 : List az_E := [(0, .iload_n 1, 1, 0, 0, 0, [], []), (1, .ifCond .ne 14, 3, 8, 0, 0, [], []), (4, .aload_n 0, 1, 0, 0, 0, [], []), (5, .iload_n 2, 1, 0, 0, 0, [], []), (6, .bipush 48, 2, 0, 0, 48, [], []), (8, .isub, 1, 0, 0, 0, [], []), (9, .invokevirtual 39, 3, 46, 1, 0, [], [329, 331, 50, 332, 2]), (12, .goto 23, 3, 19, 0, 0, [], []), (15, .iload_n 2, 1, 0, 0, 0, [], []), (16, .bipush 48, 2, 0, 0, 48, [], []), (18, .if_icmp .lt 17, 3, 19, 0, 0, [], []), (21, .iload_n 2, 1, 0, 0, 0, [], []), (22, .bipush 57, 2, 0, 0, 57, [], []), (24, .if_icmp .gt 11, 3, 19, 0, 0, [], []), (27, .aload_n 0, 1, 0, 0, 0, [], []), (28, .iload_n 2, 1, 0, 0, 0, [], []), (29, .bipush 48, 2, 0, 0, 48, [], []), (31, .isub, 1, 0, 0, 0, [], []), (32, .invokevirtual 43, 3, 47, 1, 0, [], [333, 335, 50, 336, 3]), (35, .return_, 1, 0, 0, 0, [], [])]
def az_m46 : List az_E := [(0, .aload_n 0, 1, 0, 0, 0, [], []), (1, .getfield 26, 3, 4, 4, 0, [], [215]), (4, .ifCond .lt 43, 3, 25, 0, 0, [], []), (7, .aload_n 0, 1, 0, 0, 0, [], []), (8, .getfield 26, 3, 4, 4, 0, [], [215]), (11, .bipush 20, 2, 0, 0, 20, [], []), (13, .if_icmp .ge 34, 3, 25, 0, 0, [], []), (16, .aload_n 0, 1, 0, 0, 0, [], []), (17, .getfield 15, 3, 4, 2, 0, [], [213]), (20, .aload_n 0, 1, 0, 0, 0, [], []), (21, .getfield 26, 3, 4, 4, 0, [], [215]), (24, .iload_n 1, 1, 0, 0, 0, [], []), (25, .iastore, 1, 0, 0, 0, [], []), (26, .aload_n 0, 1, 0, 0, 0, [], []), (27, .getfield 19, 3, 4, 3, 0, [], [214]), (30, .aload_n 0, 1, 0, 0, 0, [], []), (31, .getfield 26, 3, 4, 4, 0, [], [215]), (34, .bipush (-5), 2, 0, 0, (-5), [], []), (36, .iastore, 1, 0, 0, 0, [], []), (37, .aload_n 0, 1, 0, 0, 0, [], []), (38, .dup, 1, 0, 0, 0, [], []), (39, .getfield 26, 3, 4, 4, 0, [], [215]), (42, .iconst 1, 1, 0, 0, 1, [], []), (43, .iadd, 1, 0, 0, 0, [], []), (44, .putfield 26, 3, 4, 4, 0, [], [215]), (47, .return_, 1, 0, 0, 0, [], [])]
def az_m47 : List az_E := [(0, .aload_n 0, 1, 0, 0, 0, [], []), (1, .getfield 26, 3, 4, 4, 0, [], [215]), (4, .iconst 1, 1, 0, 0, 1, [], []), (5, .isub, 1, 0, 0, 0, [], []), (6, .istore_n 2, 1, 0, 0, 0, [], []), (7, .iload_n 2, 1, 0, 0, 0, [], []), (8, .ifCond .lt 41, 3, 30, 0, 0, [], []), (11, .iload_n 2, 1, 0, 0, 0, [], []), (12, .bipush 20, 2, 0, 0, 20, [], []), (14, .if_icmp .ge 35, 3, 30, 0, 0, [], []), (17, .aload_n 0, 1, 0, 0, 0, [], []), (18, .getfield 19, 3, 4, 3, 0, [], [214]), (21, .iload_n 2, 1, 0, 0, 0, [], []), (22, .aload_n 0, 1, 0, 0, 0, [], []), (23, .getfield 19, 3, 4, 3, 0, [], [214]), (26, .iload_n 2, 1, 0, 0, 0, [], []), (27, .iaload, 1, 0, 0, 0, [], []), (28, .bipush (-5), 2, 0, 0, (-5), [], []), (30, .if_icmp .ne 7, 3, 21, 0, 0, [], []), (33, .iload_n 1, 1, 0, 0, 0, [], []), (34, .goto 14, 3, 29, 0, 0, [], []), (37, .aload_n 0, 1, 0, 0, 0, [], []), (38, .getfield 19, 3, 4, 3, 0, [], [214]), (41, .iload_n 2, 1, 0, 0, 0, [], []), (42, .iaload, 1, 0, 0, 0, [], []), (43, .bipush 10, 2, 0, 0, 10, [], []), (45, .imul, 1, 0, 0, 0, [], []), (46, .iload_n 1, 1, 0, 0, 0, [], []), (47, .iadd, 1, 0, 0, 0, [], []), (48, .iastore, 1, 0, 0, 0, [], []), (49, .return_, 1, 0, 0, 0, [], [])]
def az_m48 : List az_E := [(0, .aload_n 0, 1, 0, 0, 0, [], []), (1, .invokespecial 3, 3, 196, 0, 2, [], [142, 61, 62]), (4, .aload_n 0, 1, 0, 0, 0, [], []), (5, .iconst 4, 1, 0, 0, 4, [], []), (6, .newarray .boolean, 2, 0, 2, 0, [], [153]), (8, .putfield 9, 3, 5, 0, 0, [], [146]), (11, .aload_n 0, 1, 0, 0, 0, [], []), (12, .iconst 4, 1, 0, 0, 4, [], []), (13, .anewarray 15, 3, 2, 3, 0, [], [143, 144]), (16, .putfield 17, 3, 5, 1, 0, [], [147]), (19, .iconst 0, 1, 0, 0, 0, [], []), (20, .istore_n 1, 1, 0, 0, 0, [], []), (21, .iload_n 1, 1, 0, 0, 0, [], []), (22, .iconst 4, 1, 0, 0, 4, [], []), (23, .if_icmp .ge 23, 3, 25, 0, 0, [], []), (26, .aload_n 0, 1, 0, 0, 0, [], []), (27, .getfield 17, 3, 5, 1, 0, [], [147]), (30, .iload_n 1, 1, 0, 0, 0, [], []), (31, .new 15, 3, 2, 3, 0, [], [143, 93, 45]), (34, .dup, 1, 0, 0, 0, [], []), (35, .iconst 0, 1, 0, 0, 0, [], []), (36, .invokespecial 21, 3, 21, 1, 0, [], [145, 95, 45, 96]), (39, .aastore, 1, 0, 0, 0, [], []), (40, .iinc 1 1, 3, 0, 0, 1, [], []), (43, .goto (-22), 3, 12, 0, 0, [], []), (46, .return_, 1, 0, 0, 0, [], [])]
def az_m49 : List az_E := [(0, .iload_n 1, 1, 0, 0, 0, [], []), (1, .ifCond .lt 21, 3, 12, 0, 0, [], []), (4, .iload_n 1, 1, 0, 0, 0, [], []), (5, .iconst 4, 1, 0, 0, 4, [], []), (6, .if_icmp .ge 16, 3, 12, 0, 0, [], []), (9, .aload_n 0, 1, 0, 0, 0, [], []), (10, .getfield 9, 3, 5, 0, 0, [], [146]), (13, .iload_n 1, 1, 0, 0, 0, [], []), (14, .baload, 1, 0, 0, 0, [], []), (15, .ifCond .eq 7, 3, 12, 0, 0, [], []), (18, .iconst 1, 1, 0, 0, 1, [], []), (19, .goto 4, 3, 13, 0, 0, [], []), (22, .iconst 0, 1, 0, 0, 0, [], []), (23, .ireturn, 1, 0, 0, 0, [], [])]
def az_m50 : List az_E := [(0, .iconst 0, 1, 0, 0, 0, [], []), (1, .istore_n 1, 1, 0, 0, 0, [], []), (2, .iload_n 1, 1, 0, 0, 0, [], []), (3, .iconst 4, 1, 0, 0, 4, [], []), (4, .if_icmp .ge 20, 3, 14, 0, 0, [], []), (7, .aload_n 0, 1, 0, 0, 0, [], []), (8, .getfield 9, 3, 5, 0, 0, [], [146]), (11, .iload_n 1, 1, 0, 0, 0, [], []), (12, .baload, 1, 0, 0, 0, [], []), (13, .ifCond .ne 5, 3, 12, 0, 0, [], []), (16, .iload_n 1, 1, 0, 0, 0, [], []), (17, .ireturn, 1, 0, 0, 0, [], []), (18, .iinc 1 1, 3, 0, 0, 1, [], []), (21, .goto (-19), 3, 2, 0, 0, [], []), (24, .bipush (-5), 2, 0, 0, (-5), [], []), (26, .ireturn, 1, 0, 0, 0, [], [])]
def az_m51 : List az_E := [(0, .iconst 0, 1, 0, 0, 0, [], []), (1, .istore_n 1, 1, 0, 0, 0, [], []), (2, .iconst 0, 1, 0, 0, 0, [], []), (3, .istore_n 2, 1, 0, 0, 0, [], []), (4, .iload_n 2, 1, 0, 0, 0, [], []), (5, .iconst 4, 1, 0, 0, 4, [], []), (6, .if_icmp .ge 21, 3, 15, 0, 0, [], []), (9, .aload_n 0, 1, 0, 0, 0, [], []), (10, .getfield 9, 3, 5, 0, 0, [], [146]), (13, .iload_n 2, 1, 0, 0, 0, [], []), (14, .baload, 1, 0, 0, 0, [], []), (15, .ifCond .eq 6, 3, 13, 0, 0, [], []), (18, .iinc 1 1, 3, 0, 0, 1, [], []), (21, .iinc 2 1, 3, 0, 0, 1, [], []), (24, .goto (-20), 3, 4, 0, 0, [], []), (27, .iload_n 1, 1, 0, 0, 0, [], []), (28, .ireturn, 1, 0, 0, 0, [], [])]
def az_m52 : List az_E := [(0, .iconst 0, 1, 0, 0, 0, [], []), (1, .istore_n 2, 1, 0, 0, 0, [], []), (2, .iconst 0, 1, 0, 0, 0, [], []), (3, .istore_n 3, 1, 0, 0, 0, [], []), (4, .iload_n 3, 1, 0, 0, 0, [], []), (5, .iconst 4, 1, 0, 0, 4, [], []), (6, .if_icmp .ge 36, 3, 23, 0, 0, [], []), (9, .aload_n 0, 1, 0, 0, 0, [], []), (10, .getfield 9, 3, 5, 0, 0, [], [146]), (13, .iload_n 3, 1, 0, 0, 0, [], []), (14, .baload, 1, 0, 0, 0, [], []), (15, .ifCond .eq 21, 3, 21, 0, 0, [], []), (18, .aload_n 0, 1, 0, 0, 0, [], []), (19, .getfield 17, 3, 5, 1, 0, [], [147]), (22, .iload_n 3, 1, 0, 0, 0, [], []), (23, .aaload, 1, 0, 0, 0, [], []), (24, .iload_n 1, 1, 0, 0, 0, [], []), (25, .invokevirtual 24, 3, 27, 1, 0, [], [419, 412, 45, 414, 413]), (28, .bipush (-5), 2, 0, 0, (-5), [], []), (30, .if_icmp .eq 6, 3, 21, 0, 0, [], []), (33, .iinc 2 1, 3, 0, 0, 1, [], []), (36, .iinc 3 1, 3, 0, 0, 1, [], []), (39, .goto (-35), 3, 4, 0, 0, [], []), (42, .iload_n 2, 1, 0, 0, 0, [], []), (43, .ireturn, 1, 0, 0, 0, [], [])]
def az_m53 : List az_E := [(0, .iload_n 1, 1, 0, 0, 0, [], []), (1, .ifCond .lt 25, 3, 16, 0, 0, [], []), (4, .iload_n 1, 1, 0, 0, 0, [], []), (5, .iconst 4, 1, 0, 0, 4, [], []), (6, .if_icmp .ge 20, 3, 16, 0, 0, [], []), (9, .aload_n 0, 1, 0, 0, 0, [], []), (10, .getfield 9, 3, 5, 0, 0, [], [146]), (13, .iload_n 1, 1, 0, 0, 0, [], []), (14, .iconst 1, 1, 0, 0, 1, [], []), (15, .bastore, 1, 0, 0, 0, [], []), (16, .aload_n 0, 1, 0, 0, 0, [], []), (17, .getfield 17, 3, 5, 1, 0, [], [147]), (20, .iload_n 1, 1, 0, 0, 0, [], []), (21, .aaload, 1, 0, 0, 0, [], []), (22, .aload_n 2, 1, 0, 0, 0, [], []), (23, .invokevirtual 28, 3, 30, 1, 0, [], [301, 283, 45, 285, 284]), (26, .return_, 1, 0, 0, 0, [], [])]
def az_m54 : List az_E := [(0, .iload_n 1, 1, 0, 0, 0, [], []), (1, .ifCond .lt 15, 3, 10, 0, 0, [], []), (4, .iload_n 1, 1, 0, 0, 0, [], []), (5, .iconst 4, 1, 0, 0, 4, [], []), (6, .if_icmp .ge 10, 3, 10, 0, 0, [], []), (9, .aload_n 0, 1, 0, 0, 0, [], []), (10, .getfield 9, 3, 5, 0, 0, [], [146]), (13, .iload_n 1, 1, 0, 0, 0, [], []), (14, .iconst 0, 1, 0, 0, 0, [], []), (15, .bastore, 1, 0, 0, 0, [], []), (16, .return_, 1, 0, 0, 0, [], [])]
def az_m55 : List az_E := [(0, .iconst 0, 1, 0, 0, 0, [], []), (1, .istore_n 1, 1, 0, 0, 0, [], []), (2, .iload_n 1, 1, 0, 0, 0, [], []), (3, .iconst 4, 1, 0, 0, 4, [], []), (4, .if_icmp .ge 16, 3, 12, 0, 0, [], []), (7, .aload_n 0, 1, 0, 0, 0, [], []), (8, .getfield 9, 3, 5, 0, 0, [], [146]), (11, .iload_n 1, 1, 0, 0, 0, [], []), (12, .iconst 0, 1, 0, 0, 0, [], []), (13, .bastore, 1, 0, 0, 0, [], []), (14, .iinc 1 1, 3, 0, 0, 1, [], []), (17, .goto (-15), 3, 2, 0, 0, [], []), (20, .return_, 1, 0, 0, 0, [], [])]
def az_m56 : List az_E := [(0, .aload_n 0, 1, 0, 0, 0, [], []), (1, .iload_n 1, 1, 0, 0, 0, [], []), (2, .invokevirtual 32, 3, 49, 1, 0, [], [626, 541, 48, 543, 542]), (5, .ifCond .eq 15, 3, 10, 0, 0, [], []), (8, .aload_n 0, 1, 0, 0, 0, [], []), (9, .getfield 17, 3, 5, 1, 0, [], [147]), (12, .iload_n 1, 1, 0, 0, 0, [], []), (13, .aaload, 1, 0, 0, 0, [], []), (14, .invokevirtual 36, 3, 22, 0, 0, [], [685, 462, 45, 464, 463]), (17, .goto 5, 3, 11, 0, 0, [], []), (20, .bipush (-5), 2, 0, 0, (-5), [], []), (22, .ireturn, 1, 0, 0, 0, [], [])]
def az_m57 : List az_E := [(0, .aload_n 0, 1, 0, 0, 0, [], []), (1, .iload_n 1, 1, 0, 0, 0, [], []), (2, .invokevirtual 32, 3, 49, 1, 0, [], [626, 541, 48, 543, 542]), (5, .ifCond .eq 16, 3, 11, 0, 0, [], []), (8, .aload_n 0, 1, 0, 0, 0, [], []), (9, .getfield 17, 3, 5, 1, 0, [], [147]), (12, .iload_n 1, 1, 0, 0, 0, [], []), (13, .aaload, 1, 0, 0, 0, [], []), (14, .iload_n 2, 1, 0, 0, 0, [], []), (15, .invokevirtual 40, 3, 25, 1, 0, [], [627, 479, 45, 481, 480]), (18, .goto 5, 3, 12, 0, 0, [], []), (21, .bipush (-5), 2, 0, 0, (-5), [], []), (23, .ireturn, 1, 0, 0, 0, [], [])]
def az_m58 : List az_E := [(0, .iconst 0, 1, 0, 0, 0, [], []), (1, .istore_n 2, 1, 0, 0, 0, [], []), (2, .iload_n 2, 1, 0, 0, 0, [], []), (3, .iconst 4, 1, 0, 0, 4, [], []), (4, .if_icmp .ge 36, 3, 24, 0, 0, [], []), (7, .aload_n 0, 1, 0, 0, 0, [], []), (8, .getfield 9, 3, 5, 0, 0, [], [146]), (11, .iload_n 2, 1, 0, 0, 0, [], []), (12, .aload_n 1, 1, 0, 0, 0, [], []), (13, .getfield 9, 3, 5, 0, 0, [], [146]), (16, .iload_n 2, 1, 0, 0, 0, [], []), (17, .baload, 1, 0, 0, 0, [], []), (18, .bastore, 1, 0, 0, 0, [], []), (19, .aload_n 0, 1, 0, 0, 0, [], []), (20, .getfield 17, 3, 5, 1, 0, [], [147]), (23, .iload_n 2, 1, 0, 0, 0, [], []), (24, .aaload, 1, 0, 0, 0, [], []), (25, .aload_n 1, 1, 0, 0, 0, [], []), (26, .getfield 17, 3, 5, 1, 0, [], [147]), (29, .iload_n 2, 1, 0, 0, 0, [], []), (30, .aaload, 1, 0, 0, 0, [], []), (31, .invokevirtual 28, 3, 30, 1, 0, [], [301, 283, 45, 285, 284]), (34, .iinc 2 1, 3, 0, 0, 1, [], []), (37, .goto (-35), 3, 2, 0, 0, [], []), (40, .return_, 1, 0, 0, 0, [], [])]
def az_m59 : List az_E := [(0, .aload_n 0, 1, 0, 0, 0, [], []), (1, .invokespecial 3, 3, 196, 0, 2, [], [68, 61, 62]), (4, .aload_n 0, 1, 0, 0, 0, [], []), (5, .new 9, 3, 0, 3, 0, [], [69, 70, 44]), (8, .dup, 1, 0, 0, 0, [], []), (9, .invokespecial 11, 3, 1, 0, 0, [], [71, 72, 44, 73]), (12, .putfield 12, 3, 6, 0, 0, [], [154]), (15, .aload_n 0, 1, 0, 0, 0, [], []), (16, .new 18, 3, 2, 3, 0, [], [92, 93, 45]), (19, .dup, 1, 0, 0, 0, [], []), (20, .iconst 1, 1, 0, 0, 1, [], []), (21, .invokespecial 20, 3, 21, 1, 0, [], [94, 95, 45, 96]), (24, .putfield 23, 3, 6, 1, 0, [], [156]), (27, .aload_n 0, 1, 0, 0, 0, [], []), (28, .new 18, 3, 2, 3, 0, [], [92, 93, 45]), (31, .dup, 1, 0, 0, 0, [], []), (32, .iconst 0, 1, 0, 0, 0, [], []), (33, .invokespecial 20, 3, 21, 1, 0, [], [94, 95, 45, 96]), (36, .putfield 27, 3, 6, 2, 0, [], [157]), (39, .aload_n 0, 1, 0, 0, 0, [], []), (40, .new 30, 3, 1, 1, 0, [], [109, 110, 46]), (43, .dup, 1, 0, 0, 0, [], []), (44, .invokespecial 32, 3, 12, 0, 0, [], [111, 112, 46, 113]), (47, .putfield 33, 3, 6, 3, 0, [], [158]), (50, .aload_n 0, 1, 0, 0, 0, [], []), (51, .new 37, 3, 7, 3, 0, [], [120, 121, 47]), (54, .dup, 1, 0, 0, 0, [], []), (55, .invokespecial 39, 3, 83, 0, 0, [], [122, 123, 47, 124]), (58, .putfield 40, 3, 6, 4, 0, [], [160]), (61, .aload_n 0, 1, 0, 0, 0, [], []), (62, .new 44, 3, 5, 2, 0, [], [137, 138, 48]), (65, .dup, 1, 0, 0, 0, [], []), (66, .invokespecial 46, 3, 48, 0, 0, [], [139, 140, 48, 141]), (69, .putfield 47, 3, 6, 5, 0, [], [162]), (72, .aload_n 0, 1, 0, 0, 0, [], []), (73, .iconst 0, 1, 0, 0, 0, [], []), (74, .putfield 51, 3, 6, 6, 0, [], [164]), (77, .aload_n 0, 1, 0, 0, 0, [], []), (78, .iconst 0, 1, 0, 0, 0, [], []), (79, .putfield 55, 3, 6, 7, 0, [], [165]), (82, .aload_n 0, 1, 0, 0, 0, [], []), (83, .iconst 0, 1, 0, 0, 0, [], []), (84, .putfield 58, 3, 6, 8, 0, [], [166]), (87, .return_, 1, 0, 0, 0, [], [])]
def az_m60 : List az_E := [(0, .aload_n 0, 1, 0, 0, 0, [], []), (1, .getfield 51, 3, 6, 6, 0, [], [164]), (4, .ireturn, 1, 0, 0, 0, [], [])]
def az_m61 : List az_E := [(0, .aload_n 0, 1, 0, 0, 0, [], []), (1, .getfield 55, 3, 6, 7, 0, [], [165]), (4, .ireturn, 1, 0, 0, 0, [], [])]
def az_m62 : List az_E := [(0, .aload_n 0, 1, 0, 0, 0, [], []), (1, .getfield 58, 3, 6, 8, 0, [], [166]), (4, .ireturn, 1, 0, 0, 0, [], [])]
def az_m63 : List az_E := [(0, .iload_n 1, 1, 0, 0, 0, [], []), (1, .ifCond .ne 10, 3, 5, 0, 0, [], []), (4, .aload_n 0, 1, 0, 0, 0, [], []), (5, .getfield 23, 3, 6, 1, 0, [], [156]), (8, .goto 7, 3, 7, 0, 0, [], []), (11, .aload_n 0, 1, 0, 0, 0, [], []), (12, .getfield 27, 3, 6, 2, 0, [], [157]), (15, .areturn, 1, 0, 0, 0, [], [])]
def az_m64 : List az_E := [(0, .aload_n 0, 1, 0, 0, 0, [], []), (1, .aload_n 0, 1, 0, 0, 0, [], []), (2, .getfield 51, 3, 6, 6, 0, [], [164]), (5, .invokevirtual 61, 3, 63, 1, 0, [], [407, 408, 43, 410, 409]), (8, .areturn, 1, 0, 0, 0, [], [])]
def az_m65 : List az_E := [(0, .aload_n 0, 1, 0, 0, 0, [], []), (1, .getfield 12, 3, 6, 0, 0, [], [154]), (4, .aload_n 0, 1, 0, 0, 0, [], []), (5, .invokevirtual 65, 3, 64, 0, 0, [], [403, 404, 43, 406, 405]), (8, .iload_n 1, 1, 0, 0, 0, [], []), (9, .invokevirtual 69, 3, 25, 1, 0, [], [478, 479, 45, 481, 480]), (12, .invokevirtual 73, 3, 4, 1, 0, [], [605, 606, 44, 608, 607]), (15, .ireturn, 1, 0, 0, 0, [], [])]
def az_m66 : List az_E := [(0, .aload_n 0, 1, 0, 0, 0, [], []), (1, .getfield 33, 3, 6, 3, 0, [], [158]), (4, .iload_n 1, 1, 0, 0, 0, [], []), (5, .invokevirtual 76, 3, 14, 1, 0, [], [469, 470, 46, 472, 471]), (8, .ifCond .eq 14, 3, 10, 0, 0, [], []), (11, .aload_n 0, 1, 0, 0, 0, [], []), (12, .getfield 33, 3, 6, 3, 0, [], [158]), (15, .iload_n 1, 1, 0, 0, 0, [], []), (16, .invokevirtual 80, 3, 13, 1, 0, [], [443, 260, 46, 262, 261]), (19, .goto 8, 3, 13, 0, 0, [], []), (22, .aload_n 0, 1, 0, 0, 0, [], []), (23, .iload_n 1, 1, 0, 0, 0, [], []), (24, .invokevirtual 83, 3, 65, 1, 0, [], [617, 602, 43, 604, 603]), (27, .ireturn, 1, 0, 0, 0, [], [])]
def az_m67 : List az_E := [(0, .aload_n 0, 1, 0, 0, 0, [], []), (1, .invokevirtual 65, 3, 64, 0, 0, [], [403, 404, 43, 406, 405]), (4, .iload_n 1, 1, 0, 0, 0, [], []), (5, .invokevirtual 86, 3, 27, 1, 0, [], [411, 412, 45, 414, 413]), (8, .bipush (-5), 2, 0, 0, (-5), [], []), (10, .if_icmp .ne 31, 3, 19, 0, 0, [], []), (13, .aload_n 0, 1, 0, 0, 0, [], []), (14, .getfield 47, 3, 6, 5, 0, [], [162]), (17, .iload_n 1, 1, 0, 0, 0, [], []), (18, .invokevirtual 89, 3, 52, 1, 0, [], [415, 416, 48, 418, 417]), (21, .ifCond .ne 20, 3, 19, 0, 0, [], []), (24, .aload_n 0, 1, 0, 0, 0, [], []), (25, .getfield 40, 3, 6, 4, 0, [], [160]), (28, .iload_n 1, 1, 0, 0, 0, [], []), (29, .invokevirtual 92, 3, 91, 1, 0, [], [420, 421, 47, 423, 422]), (32, .bipush (-5), 2, 0, 0, (-5), [], []), (34, .if_icmp .ne 7, 3, 19, 0, 0, [], []), (37, .iconst 1, 1, 0, 0, 1, [], []), (38, .goto 4, 3, 20, 0, 0, [], []), (41, .iconst 0, 1, 0, 0, 0, [], []), (42, .ireturn, 1, 0, 0, 0, [], [])]
def az_m68 : List az_E := [(0, .iconst 0, 1, 0, 0, 0, [], []), (1, .istore_n 1, 1, 0, 0, 0, [], []), (2, .iconst 0, 1, 0, 0, 0, [], []), (3, .istore_n 2, 1, 0, 0, 0, [], []), (4, .iload_n 2, 1, 0, 0, 0, [], []), (5, .bipush 24, 2, 0, 0, 24, [], []), (7, .if_icmp .ge 20, 3, 14, 0, 0, [], []), (10, .aload_n 0, 1, 0, 0, 0, [], []), (11, .iload_n 2, 1, 0, 0, 0, [], []), (12, .invokevirtual 95, 3, 67, 1, 0, [], [399, 400, 43, 402, 401]), (15, .ifCond .eq 6, 3, 12, 0, 0, [], []), (18, .iinc 1 1, 3, 0, 0, 1, [], []), (21, .iinc 2 1, 3, 0, 0, 1, [], []), (24, .goto (-20), 3, 4, 0, 0, [], []), (27, .iload_n 1, 1, 0, 0, 0, [], []), (28, .ireturn, 1, 0, 0, 0, [], [])]
def az_m69 : List az_E := [(0, .iconst 0, 1, 0, 0, 0, [], []), (1, .istore_n 1, 1, 0, 0, 0, [], []), (2, .iconst 0, 1, 0, 0, 0, [], []), (3, .istore_n 2, 1, 0, 0, 0, [], []), (4, .iload_n 2, 1, 0, 0, 0, [], []), (5, .bipush 24, 2, 0, 0, 24, [], []), (7, .if_icmp .ge 49, 3, 27, 0, 0, [], []), (10, .aload_n 0, 1, 0, 0, 0, [], []), (11, .getfield 47, 3, 6, 5, 0, [], [162]), (14, .iload_n 2, 1, 0, 0, 0, [], []), (15, .invokevirtual 89, 3, 52, 1, 0, [], [415, 416, 48, 418, 417]), (18, .ifCond .le 32, 3, 25, 0, 0, [], []), (21, .aload_n 0, 1, 0, 0, 0, [], []), (22, .invokevirtual 65, 3, 64, 0, 0, [], [403, 404, 43, 406, 405]), (25, .iload_n 2, 1, 0, 0, 0, [], []), (26, .invokevirtual 86, 3, 27, 1, 0, [], [411, 412, 45, 414, 413]), (29, .bipush (-5), 2, 0, 0, (-5), [], []), (31, .if_icmp .ne 19, 3, 25, 0, 0, [], []), (34, .aload_n 0, 1, 0, 0, 0, [], []), (35, .getfield 40, 3, 6, 4, 0, [], [160]), (38, .iload_n 2, 1, 0, 0, 0, [], []), (39, .invokevirtual 92, 3, 91, 1, 0, [], [420, 421, 47, 423, 422]), (42, .bipush (-5), 2, 0, 0, (-5), [], []), (44, .if_icmp .ne 6, 3, 25, 0, 0, [], []), (47, .iinc 1 1, 3, 0, 0, 1, [], []), (50, .iinc 2 1, 3, 0, 0, 1, [], []), (53, .goto (-49), 3, 4, 0, 0, [], []), (56, .iload_n 1, 1, 0, 0, 0, [], []), (57, .ireturn, 1, 0, 0, 0, [], [])]
def az_m70 : List az_E := [(0, .bipush (-5), 2, 0, 0, (-5), [], []), (2, .istore_n 1, 1, 0, 0, 0, [], []), (3, .iconst 0, 1, 0, 0, 0, [], []), (4, .istore_n 2, 1, 0, 0, 0, [], []), (5, .iload_n 2, 1, 0, 0, 0, [], []), (6, .bipush 24, 2, 0, 0, 24, [], []), (8, .if_icmp .ge 44, 3, 27, 0, 0, [], []), (11, .aload_n 0, 1, 0, 0, 0, [], []), (12, .iload_n 2, 1, 0, 0, 0, [], []), (13, .invokevirtual 95, 3, 67, 1, 0, [], [399, 400, 43, 402, 401]), (16, .ifCond .eq 30, 3, 25, 0, 0, [], []), (19, .iload_n 1, 1, 0, 0, 0, [], []), (20, .bipush (-5), 2, 0, 0, (-5), [], []), (22, .if_icmp .eq 22, 3, 23, 0, 0, [], []), (25, .aload_n 0, 1, 0, 0, 0, [], []), (26, .getfield 12, 3, 6, 0, 0, [], [154]), (29, .iload_n 2, 1, 0, 0, 0, [], []), (30, .invokevirtual 98, 3, 6, 1, 0, [], [424, 425, 44, 427, 426]), (33, .aload_n 0, 1, 0, 0, 0, [], []), (34, .getfield 12, 3, 6, 0, 0, [], [154]), (37, .iload_n 1, 1, 0, 0, 0, [], []), (38, .invokevirtual 98, 3, 6, 1, 0, [], [424, 425, 44, 427, 426]), (41, .if_icmp .ge 5, 3, 25, 0, 0, [], []), (44, .iload_n 2, 1, 0, 0, 0, [], []), (45, .istore_n 1, 1, 0, 0, 0, [], []), (46, .iinc 2 1, 3, 0, 0, 1, [], []), (49, .goto (-44), 3, 4, 0, 0, [], []), (52, .iload_n 1, 1, 0, 0, 0, [], []), (53, .ireturn, 1, 0, 0, 0, [], [])]
def az_m71 : List az_E := [(0, .aload_n 0, 1, 0, 0, 0, [], []), (1, .getfield 40, 3, 6, 4, 0, [], [160]), (4, .invokevirtual 101, 3, 84, 0, 0, [], [369, 256, 47, 258, 257]), (7, .ifCond .eq 23, 3, 14, 0, 0, [], []), (10, .aload_n 0, 1, 0, 0, 0, [], []), (11, .getfield 33, 3, 6, 3, 0, [], [158]), (14, .invokevirtual 105, 3, 18, 0, 0, [], [370, 371, 46, 373, 372]), (17, .iconst 2, 1, 0, 0, 2, [], []), (18, .iadd, 1, 0, 0, 0, [], []), (19, .aload_n 0, 1, 0, 0, 0, [], []), (20, .getfield 40, 3, 6, 4, 0, [], [160]), (23, .invokevirtual 109, 3, 85, 0, 0, [], [374, 375, 47, 377, 376]), (26, .isub, 1, 0, 0, 0, [], []), (27, .goto 4, 3, 15, 0, 0, [], []), (30, .iconst 0, 1, 0, 0, 0, [], []), (31, .ireturn, 1, 0, 0, 0, [], [])]
def az_m72 : List az_E := [(0, .aload_n 0, 1, 0, 0, 0, [], []), (1, .invokevirtual 112, 3, 71, 0, 0, [], [394, 366, 43, 368, 367]), (4, .iconst 2, 1, 0, 0, 2, [], []), (5, .isub, 1, 0, 0, 0, [], []), (6, .istore_n 1, 1, 0, 0, 0, [], []), (7, .iload_n 1, 1, 0, 0, 0, [], []), (8, .ifCond .le 7, 3, 9, 0, 0, [], []), (11, .iload_n 1, 1, 0, 0, 0, [], []), (12, .goto 4, 3, 10, 0, 0, [], []), (15, .iconst 0, 1, 0, 0, 0, [], []), (16, .ireturn, 1, 0, 0, 0, [], [])]
def az_m73 : List az_E := [(0, .iload_n 1, 1, 0, 0, 0, [], []), (1, .aload_n 0, 1, 0, 0, 0, [], []), (2, .invokevirtual 115, 3, 72, 0, 0, [], [390, 391, 43, 393, 392]), (5, .if_icmp .ge 5, 3, 6, 0, 0, [], []), (8, .iconst 0, 1, 0, 0, 0, [], []), (9, .ireturn, 1, 0, 0, 0, [], []), (10, .iload_n 1, 1, 0, 0, 0, [], []), (11, .aload_n 0, 1, 0, 0, 0, [], []), (12, .invokevirtual 112, 3, 71, 0, 0, [], [394, 366, 43, 368, 367]), (15, .iconst 1, 1, 0, 0, 1, [], []), (16, .isub, 1, 0, 0, 0, [], []), (17, .if_icmp .ne 7, 3, 14, 0, 0, [], []), (20, .iconst 2, 1, 0, 0, 2, [], []), (21, .goto 4, 3, 15, 0, 0, [], []), (24, .iconst 1, 1, 0, 0, 1, [], []), (25, .ireturn, 1, 0, 0, 0, [], [])]
def az_m74 : List az_E := [(0, .aload_n 0, 1, 0, 0, 0, [], []), (1, .iload_n 1, 1, 0, 0, 0, [], []), (2, .invokevirtual 118, 3, 73, 1, 0, [], [386, 387, 43, 389, 388]), (5, .ifCond .eq 6, 3, 6, 0, 0, [], []), (8, .bipush (-5), 2, 0, 0, (-5), [], []), (10, .ireturn, 1, 0, 0, 0, [], []), (11, .aload_n 0, 1, 0, 0, 0, [], []), (12, .getfield 33, 3, 6, 3, 0, [], [158]), (15, .aload_n 0, 1, 0, 0, 0, [], []), (16, .getfield 40, 3, 6, 4, 0, [], [160]), (19, .invokevirtual 109, 3, 85, 0, 0, [], [374, 375, 47, 377, 376]), (22, .iload_n 1, 1, 0, 0, 0, [], []), (23, .iadd, 1, 0, 0, 0, [], []), (24, .invokevirtual 121, 3, 19, 1, 0, [], [439, 440, 46, 442, 441]), (27, .ireturn, 1, 0, 0, 0, [], [])]
def az_m75 : List az_E := [(0, .aload_n 0, 1, 0, 0, 0, [], []), (1, .getfield 40, 3, 6, 4, 0, [], [160]), (4, .invokevirtual 101, 3, 84, 0, 0, [], [369, 256, 47, 258, 257]), (7, .ifCond .eq 24, 3, 14, 0, 0, [], []), (10, .aload_n 0, 1, 0, 0, 0, [], []), (11, .iconst 0, 1, 0, 0, 0, [], []), (12, .invokevirtual 118, 3, 73, 1, 0, [], [386, 387, 43, 389, 388]), (15, .ifCond .ne 12, 3, 12, 0, 0, [], []), (18, .aload_n 0, 1, 0, 0, 0, [], []), (19, .invokevirtual 124, 3, 70, 0, 0, [], [395, 397, 43, 398, 4]), (22, .bipush (-5), 2, 0, 0, (-5), [], []), (24, .if_icmp .eq 7, 3, 14, 0, 0, [], []), (27, .iconst 1, 1, 0, 0, 1, [], []), (28, .goto 4, 3, 15, 0, 0, [], []), (31, .iconst 0, 1, 0, 0, 0, [], []), (32, .ireturn, 1, 0, 0, 0, [], [])]
def az_m76 : List az_E := [(0, .aload_n 0, 1, 0, 0, 0, [], []), (1, .iconst 0, 1, 0, 0, 0, [], []), (2, .invokevirtual 118, 3, 73, 1, 0, [], [386, 387, 43, 389, 388]), (5, .lookupswitch 49 #[(0, 27), (1, 34)], 27, 14, 0, 0, [4, 7], []), (32, .aload_n 0, 1, 0, 0, 0, [], []), (33, .invokevirtual 127, 3, 77, 0, 0, [], [435, 437, 43, 438, 5]), (36, .goto 22, 3, 16, 0, 0, [], []), (39, .aload_n 0, 1, 0, 0, 0, [], []), (40, .iconst 0, 1, 0, 0, 0, [], []), (41, .invokevirtual 130, 3, 78, 1, 0, [], [457, 459, 43, 460, 6]), (44, .aload_n 0, 1, 0, 0, 0, [], []), (45, .getfield 40, 3, 6, 4, 0, [], [160]), (48, .invokevirtual 134, 3, 88, 0, 0, [], [453, 454, 47, 456, 455]), (51, .goto 7, 3, 16, 0, 0, [], []), (54, .aload_n 0, 1, 0, 0, 0, [], []), (55, .invokevirtual 137, 3, 79, 0, 0, [], [487, 489, 43, 490, 7]), (58, .return_, 1, 0, 0, 0, [], [])]
def az_m77 : List az_E := [(0, .aload_n 0, 1, 0, 0, 0, [], []), (1, .getfield 33, 3, 6, 3, 0, [], [158]), (4, .aload_n 0, 1, 0, 0, 0, [], []), (5, .getfield 40, 3, 6, 4, 0, [], [160]), (8, .invokevirtual 109, 3, 85, 0, 0, [], [374, 375, 47, 377, 376]), (11, .invokevirtual 121, 3, 19, 1, 0, [], [439, 440, 46, 442, 441]), (14, .istore_n 1, 1, 0, 0, 0, [], []), (15, .aload_n 0, 1, 0, 0, 0, [], []), (16, .invokevirtual 124, 3, 70, 0, 0, [], [395, 397, 43, 398, 4]), (19, .istore_n 2, 1, 0, 0, 0, [], []), (20, .aload_n 0, 1, 0, 0, 0, [], []), (21, .getfield 12, 3, 6, 0, 0, [], [154]), (24, .iload_n 2, 1, 0, 0, 0, [], []), (25, .aload_n 0, 1, 0, 0, 0, [], []), (26, .getfield 33, 3, 6, 3, 0, [], [158]), (29, .iload_n 1, 1, 0, 0, 0, [], []), (30, .invokevirtual 80, 3, 13, 1, 0, [], [443, 260, 46, 262, 261]), (33, .iconst 0, 1, 0, 0, 0, [], []), (34, .invokevirtual 140, 3, 3, 3, 0, [], [444, 445, 44, 447, 446]), (37, .aload_n 0, 1, 0, 0, 0, [], []), (38, .getfield 40, 3, 6, 4, 0, [], [160]), (41, .iload_n 1, 1, 0, 0, 0, [], []), (42, .iload_n 2, 1, 0, 0, 0, [], []), (43, .invokevirtual 144, 3, 89, 2, 0, [], [448, 449, 47, 451, 450]), (46, .aload_n 0, 1, 0, 0, 0, [], []), (47, .getfield 40, 3, 6, 4, 0, [], [160]), (50, .invokevirtual 134, 3, 88, 0, 0, [], [453, 454, 47, 456, 455]), (53, .return_, 1, 0, 0, 0, [], [])]
def az_m78 : List az_E := [(0, .aload_n 0, 1, 0, 0, 0, [], []), (1, .invokevirtual 65, 3, 64, 0, 0, [], [403, 404, 43, 406, 405]), (4, .astore_n 2, 1, 0, 0, 0, [], []), (5, .aload_n 0, 1, 0, 0, 0, [], []), (6, .iconst 1, 1, 0, 0, 1, [], []), (7, .aload_n 0, 1, 0, 0, 0, [], []), (8, .getfield 51, 3, 6, 6, 0, [], [164]), (11, .isub, 1, 0, 0, 0, [], []), (12, .invokevirtual 61, 3, 63, 1, 0, [], [407, 408, 43, 410, 409]), (15, .astore_n 3, 1, 0, 0, 0, [], []), (16, .aload_n 3, 1, 0, 0, 0, [], []), (17, .aload_n 2, 1, 0, 0, 0, [], []), (18, .invokevirtual 148, 3, 22, 0, 0, [], [461, 462, 45, 464, 463]), (21, .iconst 1, 1, 0, 0, 1, [], []), (22, .iadd, 1, 0, 0, 0, [], []), (23, .iload_n 1, 1, 0, 0, 0, [], []), (24, .invokevirtual 151, 3, 24, 2, 0, [], [465, 466, 45, 468, 467]), (27, .iconst 0, 1, 0, 0, 0, [], []), (28, .istore 4, 2, 0, 0, 0, [], []), (30, .iload 4, 2, 0, 0, 0, [], []), (32, .bipush 8, 2, 0, 0, 8, [], []), (34, .if_icmp .ge 45, 3, 40, 0, 0, [], []), (37, .aload_n 3, 1, 0, 0, 0, [], []), (38, .iload 4, 2, 0, 0, 0, [], []), (40, .aload_n 0, 1, 0, 0, 0, [], []), (41, .getfield 33, 3, 6, 3, 0, [], [158]), (44, .iload 4, 2, 0, 0, 0, [], []), (46, .invokevirtual 76, 3, 14, 1, 0, [], [469, 470, 46, 472, 471]), (49, .ifCond .eq 15, 3, 34, 0, 0, [], []), (52, .aload_n 0, 1, 0, 0, 0, [], []), (53, .getfield 40, 3, 6, 4, 0, [], [160]), (56, .iload 4, 2, 0, 0, 0, [], []), (58, .invokevirtual 155, 3, 90, 1, 0, [], [474, 475, 47, 477, 476]), (61, .goto 9, 3, 37, 0, 0, [], []), (64, .aload_n 2, 1, 0, 0, 0, [], []), (65, .iload 4, 2, 0, 0, 0, [], []), (67, .invokevirtual 69, 3, 25, 1, 0, [], [478, 479, 45, 481, 480]), (70, .invokevirtual 158, 3, 26, 2, 0, [], [483, 484, 45, 486, 485]), (73, .iinc 4 1, 3, 0, 0, 1, [], []), (76, .goto (-46), 3, 19, 0, 0, [], []), (79, .return_, 1, 0, 0, 0, [], [])]
def az_m79 : List az_E := [(0, .aload_n 0, 1, 0, 0, 0, [], []), (1, .iconst 1, 1, 0, 0, 1, [], []), (2, .aload_n 0, 1, 0, 0, 0, [], []), (3, .getfield 51, 3, 6, 6, 0, [], [164]), (6, .isub, 1, 0, 0, 0, [], []), (7, .putfield 51, 3, 6, 6, 0, [], [164]), (10, .aload_n 0, 1, 0, 0, 0, [], []), (11, .dup, 1, 0, 0, 0, [], []), (12, .getfield 58, 3, 6, 8, 0, [], [166]), (15, .iconst 1, 1, 0, 0, 1, [], []), (16, .iadd, 1, 0, 0, 0, [], []), (17, .putfield 58, 3, 6, 8, 0, [], [166]), (20, .aload_n 0, 1, 0, 0, 0, [], []), (21, .getfield 33, 3, 6, 3, 0, [], [158]), (24, .invokevirtual 161, 3, 16, 0, 0, [], [491, 354, 46, 356, 355]), (27, .aload_n 0, 1, 0, 0, 0, [], []), (28, .getfield 40, 3, 6, 4, 0, [], [160]), (31, .invokevirtual 164, 3, 87, 0, 0, [], [492, 493, 47, 495, 494]), (34, .return_, 1, 0, 0, 0, [], [])]
def az_m80 : List az_E := [(0, .aload_n 0, 1, 0, 0, 0, [], []), (1, .getfield 40, 3, 6, 4, 0, [], [160]), (4, .invokevirtual 101, 3, 84, 0, 0, [], [369, 256, 47, 258, 257]), (7, .ifCond .ne 4, 3, 5, 0, 0, [], []), (10, .return_, 1, 0, 0, 0, [], []), (11, .aload_n 0, 1, 0, 0, 0, [], []), (12, .iconst 0, 1, 0, 0, 0, [], []), (13, .invokevirtual 118, 3, 73, 1, 0, [], [386, 387, 43, 389, 388]), (16, .istore_n 1, 1, 0, 0, 0, [], []), (17, .iload_n 1, 1, 0, 0, 0, [], []), (18, .ifCond .ne 41, 3, 29, 0, 0, [], []), (21, .aload_n 0, 1, 0, 0, 0, [], []), (22, .getfield 33, 3, 6, 3, 0, [], [158]), (25, .aload_n 0, 1, 0, 0, 0, [], []), (26, .getfield 40, 3, 6, 4, 0, [], [160]), (29, .invokevirtual 109, 3, 85, 0, 0, [], [374, 375, 47, 377, 376]), (32, .invokevirtual 121, 3, 19, 1, 0, [], [439, 440, 46, 442, 441]), (35, .istore_n 2, 1, 0, 0, 0, [], []), (36, .aload_n 0, 1, 0, 0, 0, [], []), (37, .getfield 12, 3, 6, 0, 0, [], [154]), (40, .aload_n 0, 1, 0, 0, 0, [], []), (41, .invokevirtual 124, 3, 70, 0, 0, [], [395, 397, 43, 398, 4]), (44, .aload_n 0, 1, 0, 0, 0, [], []), (45, .getfield 33, 3, 6, 3, 0, [], [158]), (48, .iload_n 2, 1, 0, 0, 0, [], []), (49, .invokevirtual 80, 3, 13, 1, 0, [], [443, 260, 46, 262, 261]), (52, .iconst 1, 1, 0, 0, 1, [], []), (53, .invokevirtual 140, 3, 3, 3, 0, [], [444, 445, 44, 447, 446]), (56, .goto 13, 3, 35, 0, 0, [], []), (59, .iload_n 1, 1, 0, 0, 0, [], []), (60, .iconst 1, 1, 0, 0, 1, [], []), (61, .if_icmp .ne 8, 3, 35, 0, 0, [], []), (64, .aload_n 0, 1, 0, 0, 0, [], []), (65, .iconst 1, 1, 0, 0, 1, [], []), (66, .invokevirtual 130, 3, 78, 1, 0, [], [457, 459, 43, 460, 6]), (69, .return_, 1, 0, 0, 0, [], [])]
def az_m81 : List az_E := [(0, .aload_n 0, 1, 0, 0, 0, [], []), (1, .getfield 33, 3, 6, 3, 0, [], [158]), (4, .invokevirtual 161, 3, 16, 0, 0, [], [491, 354, 46, 356, 355]), (7, .aload_n 0, 1, 0, 0, 0, [], []), (8, .getfield 40, 3, 6, 4, 0, [], [160]), (11, .invokevirtual 164, 3, 87, 0, 0, [], [492, 493, 47, 495, 494]), (14, .aload_n 0, 1, 0, 0, 0, [], []), (15, .getfield 47, 3, 6, 5, 0, [], [162]), (18, .invokevirtual 167, 3, 55, 0, 0, [], [518, 519, 48, 521, 520]), (21, .aload_n 0, 1, 0, 0, 0, [], []), (22, .dup, 1, 0, 0, 0, [], []), (23, .getfield 55, 3, 6, 7, 0, [], [165]), (26, .iconst 1, 1, 0, 0, 1, [], []), (27, .iadd, 1, 0, 0, 0, [], []), (28, .putfield 55, 3, 6, 7, 0, [], [165]), (31, .return_, 1, 0, 0, 0, [], [])]
def az_m82 : List az_E := [(0, .aload_n 0, 1, 0, 0, 0, [], []), (1, .getfield 12, 3, 6, 0, 0, [], [154]), (4, .aload_n 1, 1, 0, 0, 0, [], []), (5, .getfield 12, 3, 6, 0, 0, [], [154]), (8, .invokevirtual 170, 3, 11, 1, 0, [], [275, 276, 44, 278, 277]), (11, .aload_n 0, 1, 0, 0, 0, [], []), (12, .getfield 23, 3, 6, 1, 0, [], [156]), (15, .aload_n 1, 1, 0, 0, 0, [], []), (16, .getfield 23, 3, 6, 1, 0, [], [156]), (19, .invokevirtual 174, 3, 30, 1, 0, [], [282, 283, 45, 285, 284]), (22, .aload_n 0, 1, 0, 0, 0, [], []), (23, .getfield 27, 3, 6, 2, 0, [], [157]), (26, .aload_n 1, 1, 0, 0, 0, [], []), (27, .getfield 27, 3, 6, 2, 0, [], [157]), (30, .invokevirtual 174, 3, 30, 1, 0, [], [282, 283, 45, 285, 284]), (33, .aload_n 0, 1, 0, 0, 0, [], []), (34, .getfield 33, 3, 6, 3, 0, [], [158]), (37, .aload_n 1, 1, 0, 0, 0, [], []), (38, .getfield 33, 3, 6, 3, 0, [], [158]), (41, .invokevirtual 177, 3, 20, 1, 0, [], [287, 288, 46, 290, 289]), (44, .aload_n 0, 1, 0, 0, 0, [], []), (45, .getfield 40, 3, 6, 4, 0, [], [160]), (48, .aload_n 1, 1, 0, 0, 0, [], []), (49, .getfield 40, 3, 6, 4, 0, [], [160]), (52, .invokevirtual 180, 3, 92, 1, 0, [], [292, 293, 47, 295, 294]), (55, .aload_n 0, 1, 0, 0, 0, [], []), (56, .getfield 47, 3, 6, 5, 0, [], [162]), (59, .aload_n 1, 1, 0, 0, 0, [], []), (60, .getfield 47, 3, 6, 5, 0, [], [162]), (63, .invokevirtual 183, 3, 58, 1, 0, [], [297, 298, 48, 300, 299]), (66, .aload_n 0, 1, 0, 0, 0, [], []), (67, .aload_n 1, 1, 0, 0, 0, [], []), (68, .getfield 51, 3, 6, 6, 0, [], [164]), (71, .putfield 51, 3, 6, 6, 0, [], [164]), (74, .aload_n 0, 1, 0, 0, 0, [], []), (75, .aload_n 1, 1, 0, 0, 0, [], []), (76, .getfield 55, 3, 6, 7, 0, [], [165]), (79, .putfield 55, 3, 6, 7, 0, [], [165]), (82, .aload_n 0, 1, 0, 0, 0, [], []), (83, .aload_n 1, 1, 0, 0, 0, [], []), (84, .getfield 58, 3, 6, 8, 0, [], [166]), (87, .putfield 58, 3, 6, 8, 0, [], [166]), (90, .return_, 1, 0, 0, 0, [], [])]
def az_m83 : List az_E := [(0, .aload_n 0, 1, 0, 0, 0, [], []), (1, .invokespecial 3, 3, 196, 0, 2, [], [125, 61, 62]), (4, .aload_n 0, 1, 0, 0, 0, [], []), (5, .bipush 8, 2, 0, 0, 8, [], []), (7, .newarray .int, 2, 0, 0, 0, [], [91]), (9, .putfield 9, 3, 7, 2, 0, [], [129]), (12, .aload_n 0, 1, 0, 0, 0, [], []), (13, .iconst 0, 1, 0, 0, 0, [], []), (14, .putfield 15, 3, 7, 0, 0, [], [127]), (17, .aload_n 0, 1, 0, 0, 0, [], []), (18, .iconst 0, 1, 0, 0, 0, [], []), (19, .putfield 19, 3, 7, 1, 0, [], [128]), (22, .aload_n 0, 1, 0, 0, 0, [], []), (23, .getfield 9, 3, 7, 2, 0, [], [129]), (26, .bipush (-5), 2, 0, 0, (-5), [], []), (28, .invokestatic 23, 3, 124, 2, 1, [], [126, 79, 42, 80]), (31, .return_, 1, 0, 0, 0, [], [])]
def az_m84 : List az_E := [(0, .aload_n 0, 1, 0, 0, 0, [], []), (1, .getfield 15, 3, 7, 0, 0, [], [127]), (4, .ireturn, 1, 0, 0, 0, [], [])]
def az_m85 : List az_E := [(0, .aload_n 0, 1, 0, 0, 0, [], []), (1, .getfield 19, 3, 7, 1, 0, [], [128]), (4, .ireturn, 1, 0, 0, 0, [], [])]
def az_m86 : List az_E := [(0, .aload_n 0, 1, 0, 0, 0, [], []), (1, .iconst 1, 1, 0, 0, 1, [], []), (2, .putfield 15, 3, 7, 0, 0, [], [127]), (5, .return_, 1, 0, 0, 0, [], [])]
def az_m87 : List az_E := [(0, .aload_n 0, 1, 0, 0, 0, [], []), (1, .iconst 0, 1, 0, 0, 0, [], []), (2, .putfield 15, 3, 7, 0, 0, [], [127]), (5, .aload_n 0, 1, 0, 0, 0, [], []), (6, .iconst 0, 1, 0, 0, 0, [], []), (7, .putfield 19, 3, 7, 1, 0, [], [128]), (10, .aload_n 0, 1, 0, 0, 0, [], []), (11, .getfield 9, 3, 7, 2, 0, [], [129]), (14, .bipush (-5), 2, 0, 0, (-5), [], []), (16, .invokestatic 23, 3, 124, 2, 1, [], [126, 79, 42, 80]), (19, .return_, 1, 0, 0, 0, [], [])]
def az_m88 : List az_E := [(0, .aload_n 0, 1, 0, 0, 0, [], []), (1, .dup, 1, 0, 0, 0, [], []), (2, .getfield 19, 3, 7, 1, 0, [], [128]), (5, .iconst 1, 1, 0, 0, 1, [], []), (6, .iadd, 1, 0, 0, 0, [], []), (7, .putfield 19, 3, 7, 1, 0, [], [128]), (10, .return_, 1, 0, 0, 0, [], [])]
def az_m89 : List az_E := [(0, .iload_n 1, 1, 0, 0, 0, [], []), (1, .invokestatic 27, 3, 121, 1, 1, [], [452, 249, 42, 250]), (4, .ifCond .eq 10, 3, 8, 0, 0, [], []), (7, .aload_n 0, 1, 0, 0, 0, [], []), (8, .getfield 9, 3, 7, 2, 0, [], [129]), (11, .iload_n 1, 1, 0, 0, 0, [], []), (12, .iload_n 2, 1, 0, 0, 0, [], []), (13, .iastore, 1, 0, 0, 0, [], []), (14, .return_, 1, 0, 0, 0, [], [])]
def az_m90 : List az_E := [(0, .iload_n 1, 1, 0, 0, 0, [], []), (1, .invokestatic 27, 3, 121, 1, 1, [], [452, 249, 42, 250]), (4, .ifCond .eq 12, 3, 8, 0, 0, [], []), (7, .aload_n 0, 1, 0, 0, 0, [], []), (8, .getfield 9, 3, 7, 2, 0, [], [129]), (11, .iload_n 1, 1, 0, 0, 0, [], []), (12, .iaload, 1, 0, 0, 0, [], []), (13, .goto 5, 3, 9, 0, 0, [], []), (16, .bipush (-5), 2, 0, 0, (-5), [], []), (18, .ireturn, 1, 0, 0, 0, [], [])]
def az_m91 : List az_E := [(0, .iconst 0, 1, 0, 0, 0, [], []), (1, .istore_n 2, 1, 0, 0, 0, [], []), (2, .iload_n 2, 1, 0, 0, 0, [], []), (3, .bipush 8, 2, 0, 0, 8, [], []), (5, .if_icmp .ge 21, 3, 15, 0, 0, [], []), (8, .aload_n 0, 1, 0, 0, 0, [], []), (9, .getfield 9, 3, 7, 2, 0, [], [129]), (12, .iload_n 2, 1, 0, 0, 0, [], []), (13, .iaload, 1, 0, 0, 0, [], []), (14, .iload_n 1, 1, 0, 0, 0, [], []), (15, .if_icmp .ne 5, 3, 13, 0, 0, [], []), (18, .iload_n 2, 1, 0, 0, 0, [], []), (19, .ireturn, 1, 0, 0, 0, [], []), (20, .iinc 2 1, 3, 0, 0, 1, [], []), (23, .goto (-21), 3, 2, 0, 0, [], []), (26, .bipush (-5), 2, 0, 0, (-5), [], []), (28, .ireturn, 1, 0, 0, 0, [], [])]
def az_m92 : List az_E := [(0, .aload_n 0, 1, 0, 0, 0, [], []), (1, .aload_n 1, 1, 0, 0, 0, [], []), (2, .getfield 15, 3, 7, 0, 0, [], [127]), (5, .putfield 15, 3, 7, 0, 0, [], [127]), (8, .aload_n 0, 1, 0, 0, 0, [], []), (9, .aload_n 1, 1, 0, 0, 0, [], []), (10, .getfield 19, 3, 7, 1, 0, [], [128]), (13, .putfield 19, 3, 7, 1, 0, [], [128]), (16, .aload_n 1, 1, 0, 0, 0, [], []), (17, .getfield 9, 3, 7, 2, 0, [], [129]), (20, .aload_n 0, 1, 0, 0, 0, [], []), (21, .getfield 9, 3, 7, 2, 0, [], [129]), (24, .invokestatic 31, 3, 125, 2, 1, [], [296, 280, 42, 281]), (27, .return_, 1, 0, 0, 0, [], [])]
def az_m93 : List az_E := [(0, .aload_n 0, 1, 0, 0, 0, [], []), (1, .invokespecial 3, 3, 196, 0, 2, [], [60, 61, 62]), (4, .aload_n 0, 1, 0, 0, 0, [], []), (5, .new 9, 3, 6, 9, 0, [], [63, 64, 43]), (8, .dup, 1, 0, 0, 0, [], []), (9, .invokespecial 11, 3, 59, 0, 0, [], [65, 66, 43, 67]), (12, .putfield 12, 3, 8, 0, 0, [], [228]), (15, .aload_n 0, 1, 0, 0, 0, [], []), (16, .new 9, 3, 6, 9, 0, [], [63, 64, 43]), (19, .dup, 1, 0, 0, 0, [], []), (20, .invokespecial 11, 3, 59, 0, 0, [], [65, 66, 43, 67]), (23, .putfield 16, 3, 8, 1, 0, [], [229]), (26, .aload_n 0, 1, 0, 0, 0, [], []), (27, .new 19, 3, 3, 3, 0, [], [186, 187, 49]), (30, .dup, 1, 0, 0, 0, [], []), (31, .invokespecial 21, 3, 31, 0, 0, [], [188, 189, 49, 190]), (34, .putfield 22, 3, 8, 2, 0, [], [230]), (37, .aload_n 0, 1, 0, 0, 0, [], []), (38, .new 26, 3, 4, 5, 0, [], [205, 206, 50]), (41, .dup, 1, 0, 0, 0, [], []), (42, .invokespecial 28, 3, 35, 0, 0, [], [207, 208, 50, 209]), (45, .putfield 29, 3, 8, 3, 0, [], [231]), (48, .aload_n 0, 1, 0, 0, 0, [], []), (49, .iconst 0, 1, 0, 0, 0, [], []), (50, .putfield 33, 3, 8, 4, 0, [], [232]), (53, .return_, 1, 0, 0, 0, [], [])]
def az_m94 : List az_E := [(0, .iload_n 1, 1, 0, 0, 0, [], []), (1, .invokestatic 37, 3, 121, 1, 0, [], [248, 249, 42, 250]), (4, .ifCond .ne 5, 3, 5, 0, 0, [], []), (7, .iconst (-1), 1, 0, 0, (-1), [], []), (8, .ireturn, 1, 0, 0, 0, [], []), (9, .iload_n 2, 1, 0, 0, 0, [], []), (10, .ifCond .lt 10, 3, 10, 0, 0, [], []), (13, .iload_n 2, 1, 0, 0, 0, [], []), (14, .sipush 999, 3, 0, 0, 999, [], []), (17, .if_icmp .le 6, 3, 12, 0, 0, [], []), (20, .bipush (-2), 2, 0, 0, (-2), [], []), (22, .ireturn, 1, 0, 0, 0, [], []), (23, .aload_n 0, 1, 0, 0, 0, [], []), (24, .iload_n 1, 1, 0, 0, 0, [], []), (25, .iload_n 2, 1, 0, 0, 0, [], []), (26, .invokevirtual 41, 3, 96, 2, 0, [], [251, 253, 42, 254, 0]), (29, .ireturn, 1, 0, 0, 0, [], [])]
def az_m95 : List az_E := [(0, .iload_n 1, 1, 0, 0, 0, [], []), (1, .invokestatic 37, 3, 121, 1, 0, [], [248, 249, 42, 250]), (4, .ifCond .ne 5, 3, 5, 0, 0, [], []), (7, .iconst (-1), 1, 0, 0, (-1), [], []), (8, .ireturn, 1, 0, 0, 0, [], []), (9, .aload_n 0, 1, 0, 0, 0, [], []), (10, .iload_n 1, 1, 0, 0, 0, [], []), (11, .bipush (-5), 2, 0, 0, (-5), [], []), (13, .invokevirtual 41, 3, 96, 2, 0, [], [251, 253, 42, 254, 0]), (16, .ireturn, 1, 0, 0, 0, [], [])]
def az_m96 : List az_E := [(0, .aload_n 0, 1, 0, 0, 0, [], []), (1, .getfield 12, 3, 8, 0, 0, [], [228]), (4, .getfield 47, 3, 6, 4, 1, [], [161]), (7, .invokevirtual 51, 3, 84, 0, 0, [], [255, 256, 47, 258, 257]), (10, .ifCond .eq 6, 3, 7, 0, 0, [], []), (13, .bipush (-4), 2, 0, 0, (-4), [], []), (15, .ireturn, 1, 0, 0, 0, [], []), (16, .aload_n 0, 1, 0, 0, 0, [], []), (17, .getfield 12, 3, 8, 0, 0, [], [228]), (20, .getfield 57, 3, 6, 3, 1, [], [159]), (23, .iload_n 1, 1, 0, 0, 0, [], []), (24, .invokevirtual 61, 3, 13, 1, 0, [], [259, 260, 46, 262, 261]), (27, .iload_n 2, 1, 0, 0, 0, [], []), (28, .if_icmp .ne 6, 3, 16, 0, 0, [], []), (31, .bipush (-5), 2, 0, 0, (-5), [], []), (33, .ireturn, 1, 0, 0, 0, [], []), (34, .aload_n 0, 1, 0, 0, 0, [], []), (35, .getfield 22, 3, 8, 2, 0, [], [230]), (38, .aload_n 0, 1, 0, 0, 0, [], []), (39, .getfield 12, 3, 8, 0, 0, [], [228]), (42, .invokevirtual 65, 3, 33, 1, 0, [], [264, 265, 49, 267, 266]), (45, .aload_n 0, 1, 0, 0, 0, [], []), (46, .getfield 12, 3, 8, 0, 0, [], [228]), (49, .getfield 57, 3, 6, 3, 1, [], [159]), (52, .iload_n 1, 1, 0, 0, 0, [], []), (53, .iload_n 2, 1, 0, 0, 0, [], []), (54, .invokevirtual 69, 3, 15, 2, 0, [], [302, 303, 46, 305, 304]), (57, .aload_n 0, 1, 0, 0, 0, [], []), (58, .getfield 12, 3, 8, 0, 0, [], [228]), (61, .getfield 57, 3, 6, 3, 1, [], [159]), (64, .invokevirtual 73, 3, 17, 0, 0, [], [306, 307, 46, 309, 308]), (67, .ireturn, 1, 0, 0, 0, [], [])]
def az_m97 : List az_E := [(0, .aload_n 0, 1, 0, 0, 0, [], []), (1, .getfield 29, 3, 8, 3, 0, [], [231]), (4, .invokevirtual 77, 3, 43, 0, 0, [], [318, 319, 50, 321, 320]), (7, .istore_n 1, 1, 0, 0, 0, [], []), (8, .iload_n 1, 1, 0, 0, 0, [], []), (9, .iconst (-1), 1, 0, 0, (-1), [], []), (10, .if_icmp .eq 8, 3, 11, 0, 0, [], []), (13, .bipush (-100), 2, 0, 0, (-100), [], []), (15, .iload_n 1, 1, 0, 0, 0, [], []), (16, .isub, 1, 0, 0, 0, [], []), (17, .ireturn, 1, 0, 0, 0, [], []), (18, .aload_n 0, 1, 0, 0, 0, [], []), (19, .getfield 12, 3, 8, 0, 0, [], [228]), (22, .getfield 47, 3, 6, 4, 1, [], [161]), (25, .invokevirtual 51, 3, 84, 0, 0, [], [255, 256, 47, 258, 257]), (28, .ifCond .eq 6, 3, 18, 0, 0, [], []), (31, .bipush (-4), 2, 0, 0, (-4), [], []), (33, .ireturn, 1, 0, 0, 0, [], []), (34, .aload_n 0, 1, 0, 0, 0, [], []), (35, .getfield 22, 3, 8, 2, 0, [], [230]), (38, .aload_n 0, 1, 0, 0, 0, [], []), (39, .getfield 12, 3, 8, 0, 0, [], [228]), (42, .invokevirtual 65, 3, 33, 1, 0, [], [264, 265, 49, 267, 266]), (45, .aload_n 0, 1, 0, 0, 0, [], []), (46, .getfield 29, 3, 8, 3, 0, [], [231]), (49, .invokevirtual 80, 3, 40, 0, 0, [], [337, 338, 50, 340, 339]), (52, .istore_n 2, 1, 0, 0, 0, [], []), (53, .iconst 0, 1, 0, 0, 0, [], []), (54, .istore_n 3, 1, 0, 0, 0, [], []), (55, .iload_n 3, 1, 0, 0, 0, [], []), (56, .iload_n 2, 1, 0, 0, 0, [], []), (57, .if_icmp .ge 35, 3, 46, 0, 0, [], []), (60, .aload_n 0, 1, 0, 0, 0, [], []), (61, .getfield 12, 3, 8, 0, 0, [], [228]), (64, .getfield 57, 3, 6, 3, 1, [], [159]), (67, .aload_n 0, 1, 0, 0, 0, [], []), (68, .getfield 29, 3, 8, 3, 0, [], [231]), (71, .iload_n 3, 1, 0, 0, 0, [], []), (72, .invokevirtual 83, 3, 41, 1, 0, [], [341, 342, 50, 344, 343]), (75, .aload_n 0, 1, 0, 0, 0, [], []), (76, .getfield 29, 3, 8, 3, 0, [], [231]), (79, .iload_n 3, 1, 0, 0, 0, [], []), (80, .invokevirtual 86, 3, 42, 1, 0, [], [345, 346, 50, 348, 347]), (83, .invokevirtual 69, 3, 15, 2, 0, [], [302, 303, 46, 305, 304]), (86, .iinc 3 1, 3, 0, 0, 1, [], []), (89, .goto (-34), 3, 29, 0, 0, [], []), (92, .iload_n 2, 1, 0, 0, 0, [], []), (93, .ireturn, 1, 0, 0, 0, [], [])]
def az_m98 : List az_E := [(0, .aload_n 0, 1, 0, 0, 0, [], []), (1, .getfield 12, 3, 8, 0, 0, [], [228]), (4, .getfield 47, 3, 6, 4, 1, [], [161]), (7, .invokevirtual 51, 3, 84, 0, 0, [], [255, 256, 47, 258, 257]), (10, .ifCond .eq 6, 3, 7, 0, 0, [], []), (13, .bipush (-4), 2, 0, 0, (-4), [], []), (15, .ireturn, 1, 0, 0, 0, [], []), (16, .aload_n 0, 1, 0, 0, 0, [], []), (17, .getfield 12, 3, 8, 0, 0, [], [228]), (20, .getfield 57, 3, 6, 3, 1, [], [159]), (23, .invokevirtual 73, 3, 17, 0, 0, [], [306, 307, 46, 309, 308]), (26, .istore_n 1, 1, 0, 0, 0, [], []), (27, .iload_n 1, 1, 0, 0, 0, [], []), (28, .ifCond .ne 6, 3, 16, 0, 0, [], []), (31, .bipush (-5), 2, 0, 0, (-5), [], []), (33, .ireturn, 1, 0, 0, 0, [], []), (34, .aload_n 0, 1, 0, 0, 0, [], []), (35, .getfield 22, 3, 8, 2, 0, [], [230]), (38, .aload_n 0, 1, 0, 0, 0, [], []), (39, .getfield 12, 3, 8, 0, 0, [], [228]), (42, .invokevirtual 65, 3, 33, 1, 0, [], [264, 265, 49, 267, 266]), (45, .aload_n 0, 1, 0, 0, 0, [], []), (46, .getfield 12, 3, 8, 0, 0, [], [228]), (49, .getfield 57, 3, 6, 3, 1, [], [159]), (52, .invokevirtual 89, 3, 16, 0, 0, [], [353, 354, 46, 356, 355]), (55, .iload_n 1, 1, 0, 0, 0, [], []), (56, .ireturn, 1, 0, 0, 0, [], [])]
def az_m99 : List az_E := [(0, .aload_n 0, 1, 0, 0, 0, [], []), (1, .getfield 12, 3, 8, 0, 0, [], [228]), (4, .getfield 47, 3, 6, 4, 1, [], [161]), (7, .invokevirtual 51, 3, 84, 0, 0, [], [255, 256, 47, 258, 257]), (10, .ifCond .eq 6, 3, 7, 0, 0, [], []), (13, .bipush (-4), 2, 0, 0, (-4), [], []), (15, .ireturn, 1, 0, 0, 0, [], []), (16, .aload_n 0, 1, 0, 0, 0, [], []), (17, .getfield 12, 3, 8, 0, 0, [], [228]), (20, .getfield 57, 3, 6, 3, 1, [], [159]), (23, .invokevirtual 73, 3, 17, 0, 0, [], [306, 307, 46, 309, 308]), (26, .ifCond .ne 6, 3, 14, 0, 0, [], []), (29, .bipush (-5), 2, 0, 0, (-5), [], []), (31, .ireturn, 1, 0, 0, 0, [], []), (32, .aload_n 0, 1, 0, 0, 0, [], []), (33, .getfield 22, 3, 8, 2, 0, [], [230]), (36, .aload_n 0, 1, 0, 0, 0, [], []), (37, .getfield 12, 3, 8, 0, 0, [], [228]), (40, .invokevirtual 65, 3, 33, 1, 0, [], [264, 265, 49, 267, 266]), (43, .aload_n 0, 1, 0, 0, 0, [], []), (44, .getfield 12, 3, 8, 0, 0, [], [228]), (47, .getfield 47, 3, 6, 4, 1, [], [161]), (50, .invokevirtual 92, 3, 86, 0, 0, [], [361, 362, 47, 364, 363]), (53, .aload_n 0, 1, 0, 0, 0, [], []), (54, .getfield 12, 3, 8, 0, 0, [], [228]), (57, .invokevirtual 95, 3, 71, 0, 0, [], [365, 366, 43, 368, 367]), (60, .ireturn, 1, 0, 0, 0, [], [])]
def az_m100 : List az_E := [(0, .aload_n 0, 1, 0, 0, 0, [], []), (1, .getfield 12, 3, 8, 0, 0, [], [228]), (4, .getfield 47, 3, 6, 4, 1, [], [161]), (7, .invokevirtual 51, 3, 84, 0, 0, [], [255, 256, 47, 258, 257]), (10, .ifCond .ne 6, 3, 7, 0, 0, [], []), (13, .bipush (-5), 2, 0, 0, (-5), [], []), (15, .ireturn, 1, 0, 0, 0, [], []), (16, .aload_n 0, 1, 0, 0, 0, [], []), (17, .getfield 12, 3, 8, 0, 0, [], [228]), (20, .invokevirtual 98, 3, 75, 0, 0, [], [382, 383, 43, 385, 384]), (23, .ifCond .ne 6, 3, 13, 0, 0, [], []), (26, .bipush (-3), 2, 0, 0, (-3), [], []), (28, .ireturn, 1, 0, 0, 0, [], []), (29, .aload_n 0, 1, 0, 0, 0, [], []), (30, .getfield 22, 3, 8, 2, 0, [], [230]), (33, .aload_n 0, 1, 0, 0, 0, [], []), (34, .getfield 12, 3, 8, 0, 0, [], [228]), (37, .invokevirtual 65, 3, 33, 1, 0, [], [264, 265, 49, 267, 266]), (40, .aload_n 0, 1, 0, 0, 0, [], []), (41, .getfield 12, 3, 8, 0, 0, [], [228]), (44, .invokevirtual 101, 3, 76, 0, 0, [], [431, 432, 43, 434, 433]), (47, .aload_n 0, 1, 0, 0, 0, [], []), (48, .getfield 12, 3, 8, 0, 0, [], [228]), (51, .invokevirtual 95, 3, 71, 0, 0, [], [365, 366, 43, 368, 367]), (54, .ireturn, 1, 0, 0, 0, [], [])]
def az_m101 : List az_E := [(0, .aload_n 0, 1, 0, 0, 0, [], []), (1, .getfield 12, 3, 8, 0, 0, [], [228]), (4, .getfield 47, 3, 6, 4, 1, [], [161]), (7, .invokevirtual 51, 3, 84, 0, 0, [], [255, 256, 47, 258, 257]), (10, .ifCond .ne 6, 3, 7, 0, 0, [], []), (13, .bipush (-5), 2, 0, 0, (-5), [], []), (15, .ireturn, 1, 0, 0, 0, [], []), (16, .aload_n 0, 1, 0, 0, 0, [], []), (17, .getfield 12, 3, 8, 0, 0, [], [228]), (20, .invokevirtual 98, 3, 75, 0, 0, [], [382, 383, 43, 385, 384]), (23, .ifCond .ne 6, 3, 13, 0, 0, [], []), (26, .bipush (-3), 2, 0, 0, (-3), [], []), (28, .ireturn, 1, 0, 0, 0, [], []), (29, .aload_n 0, 1, 0, 0, 0, [], []), (30, .getfield 22, 3, 8, 2, 0, [], [230]), (33, .aload_n 0, 1, 0, 0, 0, [], []), (34, .getfield 12, 3, 8, 0, 0, [], [228]), (37, .invokevirtual 65, 3, 33, 1, 0, [], [264, 265, 49, 267, 266]), (40, .aload_n 0, 1, 0, 0, 0, [], []), (41, .getfield 12, 3, 8, 0, 0, [], [228]), (44, .invokevirtual 95, 3, 71, 0, 0, [], [365, 366, 43, 368, 367]), (47, .istore_n 1, 1, 0, 0, 0, [], []), (48, .iconst 0, 1, 0, 0, 0, [], []), (49, .istore_n 2, 1, 0, 0, 0, [], []), (50, .iload_n 2, 1, 0, 0, 0, [], []), (51, .iload_n 1, 1, 0, 0, 0, [], []), (52, .if_icmp .ge 26, 3, 36, 0, 0, [], []), (55, .aload_n 0, 1, 0, 0, 0, [], []), (56, .getfield 12, 3, 8, 0, 0, [], [228]), (59, .invokevirtual 98, 3, 75, 0, 0, [], [382, 383, 43, 385, 384]), (62, .ifCond .eq 16, 3, 36, 0, 0, [], []), (65, .aload_n 0, 1, 0, 0, 0, [], []), (66, .getfield 12, 3, 8, 0, 0, [], [228]), (69, .invokevirtual 101, 3, 76, 0, 0, [], [431, 432, 43, 434, 433]), (72, .iinc 2 1, 3, 0, 0, 1, [], []), (75, .goto (-25), 3, 24, 0, 0, [], []), (78, .aload_n 0, 1, 0, 0, 0, [], []), (79, .getfield 12, 3, 8, 0, 0, [], [228]), (82, .invokevirtual 95, 3, 71, 0, 0, [], [365, 366, 43, 368, 367]), (85, .ireturn, 1, 0, 0, 0, [], [])]
def az_m102 : List az_E := [(0, .aload_n 0, 1, 0, 0, 0, [], []), (1, .getfield 12, 3, 8, 0, 0, [], [228]), (4, .getfield 47, 3, 6, 4, 1, [], [161]), (7, .invokevirtual 51, 3, 84, 0, 0, [], [255, 256, 47, 258, 257]), (10, .ifCond .ne 6, 3, 7, 0, 0, [], []), (13, .bipush (-5), 2, 0, 0, (-5), [], []), (15, .ireturn, 1, 0, 0, 0, [], []), (16, .aload_n 0, 1, 0, 0, 0, [], []), (17, .getfield 22, 3, 8, 2, 0, [], [230]), (20, .aload_n 0, 1, 0, 0, 0, [], []), (21, .getfield 12, 3, 8, 0, 0, [], [228]), (24, .invokevirtual 65, 3, 33, 1, 0, [], [264, 265, 49, 267, 266]), (27, .aload_n 0, 1, 0, 0, 0, [], []), (28, .getfield 12, 3, 8, 0, 0, [], [228]), (31, .getfield 47, 3, 6, 4, 1, [], [161]), (34, .invokevirtual 104, 3, 85, 0, 0, [], [504, 375, 47, 377, 376]), (37, .istore_n 1, 1, 0, 0, 0, [], []), (38, .aload_n 0, 1, 0, 0, 0, [], []), (39, .getfield 12, 3, 8, 0, 0, [], [228]), (42, .getfield 47, 3, 6, 4, 1, [], [161]), (45, .invokevirtual 107, 3, 87, 0, 0, [], [505, 493, 47, 495, 494]), (48, .iload_n 1, 1, 0, 0, 0, [], []), (49, .ireturn, 1, 0, 0, 0, [], [])]
def az_m103 : List az_E := [(0, .aload_n 0, 1, 0, 0, 0, [], []), (1, .getfield 22, 3, 8, 2, 0, [], [230]), (4, .aload_n 0, 1, 0, 0, 0, [], []), (5, .getfield 12, 3, 8, 0, 0, [], [228]), (8, .invokevirtual 65, 3, 33, 1, 0, [], [264, 265, 49, 267, 266]), (11, .iload_n 1, 1, 0, 0, 0, [], []), (12, .ifCond .eq 10, 3, 10, 0, 0, [], []), (15, .aload_n 0, 1, 0, 0, 0, [], []), (16, .getfield 12, 3, 8, 0, 0, [], [228]), (19, .invokevirtual 110, 3, 80, 0, 0, [], [510, 511, 43, 513, 512]), (22, .aload_n 0, 1, 0, 0, 0, [], []), (23, .getfield 12, 3, 8, 0, 0, [], [228]), (26, .invokevirtual 113, 3, 81, 0, 0, [], [514, 515, 43, 517, 516]), (29, .aload_n 0, 1, 0, 0, 0, [], []), (30, .getfield 12, 3, 8, 0, 0, [], [228]), (33, .invokevirtual 116, 3, 64, 0, 0, [], [522, 404, 43, 406, 405]), (36, .invokevirtual 120, 3, 22, 0, 0, [], [523, 462, 45, 464, 463]), (39, .ireturn, 1, 0, 0, 0, [], [])]
def az_m104 : List az_E := [(0, .aload_n 0, 1, 0, 0, 0, [], []), (1, .getfield 12, 3, 8, 0, 0, [], [228]), (4, .getfield 125, 3, 6, 5, 1, [], [163]), (7, .invokevirtual 129, 3, 50, 0, 0, [], [528, 529, 48, 531, 530]), (10, .istore_n 1, 1, 0, 0, 0, [], []), (11, .iload_n 1, 1, 0, 0, 0, [], []), (12, .bipush (-5), 2, 0, 0, (-5), [], []), (14, .if_icmp .ne 6, 3, 10, 0, 0, [], []), (17, .bipush (-3), 2, 0, 0, (-3), [], []), (19, .ireturn, 1, 0, 0, 0, [], []), (20, .aload_n 0, 1, 0, 0, 0, [], []), (21, .getfield 22, 3, 8, 2, 0, [], [230]), (24, .aload_n 0, 1, 0, 0, 0, [], []), (25, .getfield 12, 3, 8, 0, 0, [], [228]), (28, .invokevirtual 65, 3, 33, 1, 0, [], [264, 265, 49, 267, 266]), (31, .aload_n 0, 1, 0, 0, 0, [], []), (32, .getfield 12, 3, 8, 0, 0, [], [228]), (35, .getfield 125, 3, 6, 5, 1, [], [163]), (38, .iload_n 1, 1, 0, 0, 0, [], []), (39, .aload_n 0, 1, 0, 0, 0, [], []), (40, .getfield 12, 3, 8, 0, 0, [], [228]), (43, .invokevirtual 116, 3, 64, 0, 0, [], [522, 404, 43, 406, 405]), (46, .invokevirtual 134, 3, 53, 2, 0, [], [532, 533, 48, 535, 534]), (49, .iload_n 1, 1, 0, 0, 0, [], []), (50, .ireturn, 1, 0, 0, 0, [], [])]
def az_m105 : List az_E := [(0, .aload_n 0, 1, 0, 0, 0, [], []), (1, .getfield 12, 3, 8, 0, 0, [], [228]), (4, .getfield 125, 3, 6, 5, 1, [], [163]), (7, .iload_n 1, 1, 0, 0, 0, [], []), (8, .invokevirtual 138, 3, 49, 1, 0, [], [540, 541, 48, 543, 542]), (11, .ifCond .ne 5, 3, 8, 0, 0, [], []), (14, .iconst (-1), 1, 0, 0, (-1), [], []), (15, .ireturn, 1, 0, 0, 0, [], []), (16, .aload_n 0, 1, 0, 0, 0, [], []), (17, .getfield 22, 3, 8, 2, 0, [], [230]), (20, .aload_n 0, 1, 0, 0, 0, [], []), (21, .getfield 12, 3, 8, 0, 0, [], [228]), (24, .invokevirtual 65, 3, 33, 1, 0, [], [264, 265, 49, 267, 266]), (27, .aload_n 0, 1, 0, 0, 0, [], []), (28, .getfield 12, 3, 8, 0, 0, [], [228]), (31, .getfield 125, 3, 6, 5, 1, [], [163]), (34, .iload_n 1, 1, 0, 0, 0, [], []), (35, .invokevirtual 141, 3, 54, 1, 0, [], [544, 545, 48, 547, 546]), (38, .aload_n 0, 1, 0, 0, 0, [], []), (39, .getfield 12, 3, 8, 0, 0, [], [228]), (42, .getfield 125, 3, 6, 5, 1, [], [163]), (45, .invokevirtual 145, 3, 51, 0, 0, [], [548, 549, 48, 551, 550]), (48, .ireturn, 1, 0, 0, 0, [], [])]
def az_m106 : List az_E := [(0, .aload_n 0, 1, 0, 0, 0, [], []), (1, .getfield 29, 3, 8, 3, 0, [], [231]), (4, .invokevirtual 148, 3, 37, 0, 0, [], [556, 557, 50, 559, 558]), (7, .ifCond .eq 6, 3, 6, 0, 0, [], []), (10, .bipush (-3), 2, 0, 0, (-3), [], []), (12, .ireturn, 1, 0, 0, 0, [], []), (13, .aload_n 0, 1, 0, 0, 0, [], []), (14, .getfield 29, 3, 8, 3, 0, [], [231]), (17, .iload_n 1, 1, 0, 0, 0, [], []), (18, .invokevirtual 151, 3, 38, 1, 0, [], [560, 561, 50, 563, 562]), (21, .aload_n 0, 1, 0, 0, 0, [], []), (22, .getfield 29, 3, 8, 3, 0, [], [231]), (25, .invokevirtual 155, 3, 36, 0, 0, [], [564, 565, 50, 567, 566]), (28, .ireturn, 1, 0, 0, 0, [], [])]
def az_m107 : List az_E := [(0, .aload_n 0, 1, 0, 0, 0, [], []), (1, .getfield 29, 3, 8, 3, 0, [], [231]), (4, .invokevirtual 155, 3, 36, 0, 0, [], [564, 565, 50, 567, 566]), (7, .istore_n 1, 1, 0, 0, 0, [], []), (8, .aload_n 0, 1, 0, 0, 0, [], []), (9, .getfield 29, 3, 8, 3, 0, [], [231]), (12, .invokevirtual 158, 3, 39, 0, 0, [], [572, 573, 50, 575, 574]), (15, .iload_n 1, 1, 0, 0, 0, [], []), (16, .ireturn, 1, 0, 0, 0, [], [])]
def az_m108 : List az_E := [(0, .aload_n 0, 1, 0, 0, 0, [], []), (1, .getfield 22, 3, 8, 2, 0, [], [230]), (4, .invokevirtual 159, 3, 32, 0, 0, [], [580, 581, 49, 583, 582]), (7, .ifCond .ne 6, 3, 6, 0, 0, [], []), (10, .bipush (-5), 2, 0, 0, (-5), [], []), (12, .ireturn, 1, 0, 0, 0, [], []), (13, .aload_n 0, 1, 0, 0, 0, [], []), (14, .getfield 22, 3, 8, 2, 0, [], [230]), (17, .aload_n 0, 1, 0, 0, 0, [], []), (18, .getfield 12, 3, 8, 0, 0, [], [228]), (21, .invokevirtual 162, 3, 34, 1, 0, [], [584, 585, 49, 587, 586]), (24, .aload_n 0, 1, 0, 0, 0, [], []), (25, .getfield 22, 3, 8, 2, 0, [], [230]), (28, .invokevirtual 159, 3, 32, 0, 0, [], [580, 581, 49, 583, 582]), (31, .ireturn, 1, 0, 0, 0, [], [])]
def az_m109 : List az_E := [(0, .aload_n 0, 1, 0, 0, 0, [], []), (1, .getfield 16, 3, 8, 1, 0, [], [229]), (4, .aload_n 0, 1, 0, 0, 0, [], []), (5, .getfield 12, 3, 8, 0, 0, [], [228]), (8, .invokevirtual 165, 3, 82, 1, 0, [], [592, 272, 43, 274, 273]), (11, .aload_n 0, 1, 0, 0, 0, [], []), (12, .iconst 1, 1, 0, 0, 1, [], []), (13, .putfield 33, 3, 8, 4, 0, [], [232]), (16, .aload_n 0, 1, 0, 0, 0, [], []), (17, .getfield 12, 3, 8, 0, 0, [], [228]), (20, .invokevirtual 116, 3, 64, 0, 0, [], [522, 404, 43, 406, 405]), (23, .invokevirtual 120, 3, 22, 0, 0, [], [523, 462, 45, 464, 463]), (26, .ireturn, 1, 0, 0, 0, [], [])]
def az_m110 : List az_E := [(0, .aload_n 0, 1, 0, 0, 0, [], []), (1, .getfield 33, 3, 8, 4, 0, [], [232]), (4, .ifCond .ne 6, 3, 5, 0, 0, [], []), (7, .bipush (-5), 2, 0, 0, (-5), [], []), (9, .ireturn, 1, 0, 0, 0, [], []), (10, .aload_n 0, 1, 0, 0, 0, [], []), (11, .getfield 22, 3, 8, 2, 0, [], [230]), (14, .aload_n 0, 1, 0, 0, 0, [], []), (15, .getfield 12, 3, 8, 0, 0, [], [228]), (18, .invokevirtual 65, 3, 33, 1, 0, [], [264, 265, 49, 267, 266]), (21, .aload_n 0, 1, 0, 0, 0, [], []), (22, .getfield 12, 3, 8, 0, 0, [], [228]), (25, .aload_n 0, 1, 0, 0, 0, [], []), (26, .getfield 16, 3, 8, 1, 0, [], [229]), (29, .invokevirtual 165, 3, 82, 1, 0, [], [592, 272, 43, 274, 273]), (32, .aload_n 0, 1, 0, 0, 0, [], []), (33, .getfield 12, 3, 8, 0, 0, [], [228]), (36, .invokevirtual 116, 3, 64, 0, 0, [], [522, 404, 43, 406, 405]), (39, .invokevirtual 120, 3, 22, 0, 0, [], [523, 462, 45, 464, 463]), (42, .ireturn, 1, 0, 0, 0, [], [])]
def az_m111 : List az_E := [(0, .iload_n 1, 1, 0, 0, 0, [], []), (1, .invokestatic 37, 3, 121, 1, 0, [], [248, 249, 42, 250]), (4, .ifCond .ne 5, 3, 5, 0, 0, [], []), (7, .iconst (-1), 1, 0, 0, (-1), [], []), (8, .ireturn, 1, 0, 0, 0, [], []), (9, .aload_n 0, 1, 0, 0, 0, [], []), (10, .getfield 12, 3, 8, 0, 0, [], [228]), (13, .iload_n 1, 1, 0, 0, 0, [], []), (14, .invokevirtual 168, 3, 65, 1, 0, [], [601, 602, 43, 604, 603]), (17, .ireturn, 1, 0, 0, 0, [], [])]
def az_m112 : List az_E := [(0, .iload_n 1, 1, 0, 0, 0, [], []), (1, .invokestatic 37, 3, 121, 1, 0, [], [248, 249, 42, 250]), (4, .ifCond .ne 5, 3, 5, 0, 0, [], []), (7, .iconst (-1), 1, 0, 0, (-1), [], []), (8, .ireturn, 1, 0, 0, 0, [], []), (9, .aload_n 0, 1, 0, 0, 0, [], []), (10, .getfield 12, 3, 8, 0, 0, [], [228]), (13, .iload_n 1, 1, 0, 0, 0, [], []), (14, .invokevirtual 171, 3, 66, 1, 0, [], [613, 614, 43, 616, 615]), (17, .ireturn, 1, 0, 0, 0, [], [])]
def az_m113 : List az_E := [(0, .aload_n 0, 1, 0, 0, 0, [], []), (1, .getfield 12, 3, 8, 0, 0, [], [228]), (4, .getfield 125, 3, 6, 5, 1, [], [163]), (7, .iload_n 1, 1, 0, 0, 0, [], []), (8, .invokevirtual 138, 3, 49, 1, 0, [], [540, 541, 48, 543, 542]), (11, .ifCond .eq 10, 3, 9, 0, 0, [], []), (14, .iload_n 2, 1, 0, 0, 0, [], []), (15, .invokestatic 37, 3, 121, 1, 0, [], [248, 249, 42, 250]), (18, .ifCond .ne 5, 3, 11, 0, 0, [], []), (21, .iconst (-1), 1, 0, 0, (-1), [], []), (22, .ireturn, 1, 0, 0, 0, [], []), (23, .aload_n 0, 1, 0, 0, 0, [], []), (24, .getfield 12, 3, 8, 0, 0, [], [228]), (27, .getfield 174, 3, 6, 0, 1, [], [155]), (30, .aload_n 0, 1, 0, 0, 0, [], []), (31, .getfield 12, 3, 8, 0, 0, [], [228]), (34, .getfield 125, 3, 6, 5, 1, [], [163]), (37, .iload_n 1, 1, 0, 0, 0, [], []), (38, .iload_n 2, 1, 0, 0, 0, [], []), (39, .invokevirtual 178, 3, 57, 2, 0, [], [622, 623, 48, 625, 624]), (42, .invokevirtual 181, 3, 4, 1, 0, [], [628, 606, 44, 608, 607]), (45, .ireturn, 1, 0, 0, 0, [], [])]
def az_m114 : List az_E := [(0, .iload_n 1, 1, 0, 0, 0, [], []), (1, .invokestatic 186, 3, 122, 1, 0, [], [633, 429, 42, 430]), (4, .ifCond .ne 5, 3, 5, 0, 0, [], []), (7, .iconst (-1), 1, 0, 0, (-1), [], []), (8, .ireturn, 1, 0, 0, 0, [], []), (9, .iload_n 2, 1, 0, 0, 0, [], []), (10, .tableswitch 145 0 7 #[46, 58, 70, 85, 97, 109, 121, 133], 46, 56, 0, 0, [7, 13, 19, 26, 32, 38, 44, 50], []), (56, .aload_n 0, 1, 0, 0, 0, [], []), (57, .getfield 12, 3, 8, 0, 0, [], [228]), (60, .getfield 174, 3, 6, 0, 1, [], [155]), (63, .iload_n 1, 1, 0, 0, 0, [], []), (64, .invokevirtual 181, 3, 4, 1, 0, [], [628, 606, 44, 608, 607]), (67, .ireturn, 1, 0, 0, 0, [], []), (68, .aload_n 0, 1, 0, 0, 0, [], []), (69, .getfield 12, 3, 8, 0, 0, [], [228]), (72, .getfield 174, 3, 6, 0, 1, [], [155]), (75, .iload_n 1, 1, 0, 0, 0, [], []), (76, .invokevirtual 189, 3, 5, 1, 0, [], [634, 635, 44, 637, 636]), (79, .ireturn, 1, 0, 0, 0, [], []), (80, .aload_n 0, 1, 0, 0, 0, [], []), (81, .getfield 12, 3, 8, 0, 0, [], [228]), (84, .getfield 174, 3, 6, 0, 1, [], [155]), (87, .iload_n 1, 1, 0, 0, 0, [], []), (88, .invokevirtual 192, 3, 7, 1, 0, [], [638, 639, 44, 641, 640]), (91, .invokestatic 195, 3, 123, 1, 0, [], [642, 643, 42, 644]), (94, .ireturn, 1, 0, 0, 0, [], []), (95, .aload_n 0, 1, 0, 0, 0, [], []), (96, .getfield 12, 3, 8, 0, 0, [], [228]), (99, .getfield 174, 3, 6, 0, 1, [], [155]), (102, .iload_n 1, 1, 0, 0, 0, [], []), (103, .invokevirtual 199, 3, 6, 1, 0, [], [645, 425, 44, 427, 426]), (106, .ireturn, 1, 0, 0, 0, [], []), (107, .aload_n 0, 1, 0, 0, 0, [], []), (108, .getfield 12, 3, 8, 0, 0, [], [228]), (111, .iload_n 1, 1, 0, 0, 0, [], []), (112, .invokevirtual 202, 3, 67, 1, 0, [], [646, 400, 43, 402, 401]), (115, .invokestatic 195, 3, 123, 1, 0, [], [642, 643, 42, 644]), (118, .ireturn, 1, 0, 0, 0, [], []), (119, .aload_n 0, 1, 0, 0, 0, [], []), (120, .getfield 12, 3, 8, 0, 0, [], [228]), (123, .invokevirtual 116, 3, 64, 0, 0, [], [522, 404, 43, 406, 405]), (126, .iload_n 1, 1, 0, 0, 0, [], []), (127, .invokevirtual 205, 3, 27, 1, 0, [], [647, 412, 45, 414, 413]), (130, .ireturn, 1, 0, 0, 0, [], []), (131, .aload_n 0, 1, 0, 0, 0, [], []), (132, .getfield 12, 3, 8, 0, 0, [], [228]), (135, .getfield 125, 3, 6, 5, 1, [], [163]), (138, .iload_n 1, 1, 0, 0, 0, [], []), (139, .invokevirtual 208, 3, 52, 1, 0, [], [648, 416, 48, 418, 417]), (142, .ireturn, 1, 0, 0, 0, [], []), (143, .aload_n 0, 1, 0, 0, 0, [], []), (144, .getfield 12, 3, 8, 0, 0, [], [228]), (147, .getfield 47, 3, 6, 4, 1, [], [161]), (150, .iload_n 1, 1, 0, 0, 0, [], []), (151, .invokevirtual 211, 3, 91, 1, 0, [], [649, 421, 47, 423, 422]), (154, .ireturn, 1, 0, 0, 0, [], []), (155, .bipush (-2), 2, 0, 0, (-2), [], []), (157, .ireturn, 1, 0, 0, 0, [], [])]
def az_m115 : List az_E := [(0, .iload_n 1, 1, 0, 0, 0, [], []), (1, .ifCond .eq 10, 3, 7, 0, 0, [], []), (4, .iload_n 1, 1, 0, 0, 0, [], []), (5, .iconst 1, 1, 0, 0, 1, [], []), (6, .if_icmp .eq 5, 3, 7, 0, 0, [], []), (9, .iconst (-1), 1, 0, 0, (-1), [], []), (10, .ireturn, 1, 0, 0, 0, [], []), (11, .aload_n 0, 1, 0, 0, 0, [], []), (12, .getfield 12, 3, 8, 0, 0, [], [228]), (15, .iload_n 1, 1, 0, 0, 0, [], []), (16, .invokevirtual 214, 3, 63, 1, 0, [], [654, 408, 43, 410, 409]), (19, .astore_n 3, 1, 0, 0, 0, [], []), (20, .iload_n 2, 1, 0, 0, 0, [], []), (21, .tableswitch 69 0 3 #[31, 36, 44, 64], 31, 34, 0, 0, [14, 17, 21, 31], []), (52, .aload_n 3, 1, 0, 0, 0, [], []), (53, .invokevirtual 120, 3, 22, 0, 0, [], [523, 462, 45, 464, 463]), (56, .ireturn, 1, 0, 0, 0, [], []), (57, .aload_n 3, 1, 0, 0, 0, [], []), (58, .invokevirtual 218, 3, 23, 0, 0, [], [655, 656, 45, 658, 657]), (61, .invokestatic 195, 3, 123, 1, 0, [], [642, 643, 42, 644]), (64, .ireturn, 1, 0, 0, 0, [], []), (65, .iload_n 1, 1, 0, 0, 0, [], []), (66, .aload_n 0, 1, 0, 0, 0, [], []), (67, .getfield 12, 3, 8, 0, 0, [], [228]), (70, .invokevirtual 220, 3, 60, 0, 0, [], [659, 660, 43, 662, 661]), (73, .if_icmp .ne 7, 3, 28, 0, 0, [], []), (76, .iconst 1, 1, 0, 0, 1, [], []), (77, .goto 4, 3, 29, 0, 0, [], []), (80, .iconst 0, 1, 0, 0, 0, [], []), (81, .invokestatic 195, 3, 123, 1, 0, [], [642, 643, 42, 644]), (84, .ireturn, 1, 0, 0, 0, [], []), (85, .aload_n 3, 1, 0, 0, 0, [], []), (86, .invokevirtual 223, 3, 28, 0, 0, [], [663, 664, 45, 666, 665]), (89, .ireturn, 1, 0, 0, 0, [], []), (90, .iload_n 2, 1, 0, 0, 0, [], []), (91, .bipush 10, 2, 0, 0, 10, [], []), (93, .if_icmp .lt 9, 3, 40, 0, 0, [], []), (96, .iload_n 2, 1, 0, 0, 0, [], []), (97, .bipush 18, 2, 0, 0, 18, [], []), (99, .if_icmp .lt 6, 3, 42, 0, 0, [], []), (102, .bipush (-2), 2, 0, 0, (-2), [], []), (104, .ireturn, 1, 0, 0, 0, [], []), (105, .aload_n 3, 1, 0, 0, 0, [], []), (106, .iload_n 2, 1, 0, 0, 0, [], []), (107, .bipush 10, 2, 0, 0, 10, [], []), (109, .isub, 1, 0, 0, 0, [], []), (110, .invokevirtual 226, 3, 25, 1, 0, [], [667, 479, 45, 481, 480]), (113, .ireturn, 1, 0, 0, 0, [], [])]
def az_m116 : List az_E := [(0, .iload_n 1, 1, 0, 0, 0, [], []), (1, .ifCond .lt 12, 3, 7, 0, 0, [], []), (4, .iload_n 2, 1, 0, 0, 0, [], []), (5, .ifCond .lt 8, 3, 7, 0, 0, [], []), (8, .iload_n 2, 1, 0, 0, 0, [], []), (9, .iconst 1, 1, 0, 0, 1, [], []), (10, .if_icmp .le 6, 3, 9, 0, 0, [], []), (13, .bipush (-2), 2, 0, 0, (-2), [], []), (15, .ireturn, 1, 0, 0, 0, [], []), (16, .iload_n 1, 1, 0, 0, 0, [], []), (17, .aload_n 0, 1, 0, 0, 0, [], []), (18, .getfield 12, 3, 8, 0, 0, [], [228]), (21, .invokevirtual 95, 3, 71, 0, 0, [], [365, 366, 43, 368, 367]), (24, .if_icmp .lt 6, 3, 16, 0, 0, [], []), (27, .bipush (-5), 2, 0, 0, (-5), [], []), (29, .ireturn, 1, 0, 0, 0, [], []), (30, .iload_n 2, 1, 0, 0, 0, [], []), (31, .ifCond .ne 14, 3, 23, 0, 0, [], []), (34, .aload_n 0, 1, 0, 0, 0, [], []), (35, .getfield 12, 3, 8, 0, 0, [], [228]), (38, .iload_n 1, 1, 0, 0, 0, [], []), (39, .invokevirtual 228, 3, 73, 1, 0, [], [672, 387, 43, 389, 388]), (42, .goto 11, 3, 27, 0, 0, [], []), (45, .aload_n 0, 1, 0, 0, 0, [], []), (46, .getfield 12, 3, 8, 0, 0, [], [228]), (49, .iload_n 1, 1, 0, 0, 0, [], []), (50, .invokevirtual 231, 3, 74, 1, 0, [], [673, 674, 43, 676, 675]), (53, .ireturn, 1, 0, 0, 0, [], [])]
def az_m117 : List az_E := [(0, .aload_n 0, 1, 0, 0, 0, [], []), (1, .getfield 12, 3, 8, 0, 0, [], [228]), (4, .getfield 125, 3, 6, 5, 1, [], [163]), (7, .iload_n 1, 1, 0, 0, 0, [], []), (8, .invokevirtual 138, 3, 49, 1, 0, [], [540, 541, 48, 543, 542]), (11, .ifCond .ne 5, 3, 8, 0, 0, [], []), (14, .iconst (-1), 1, 0, 0, (-1), [], []), (15, .ireturn, 1, 0, 0, 0, [], []), (16, .aload_n 0, 1, 0, 0, 0, [], []), (17, .getfield 12, 3, 8, 0, 0, [], [228]), (20, .getfield 125, 3, 6, 5, 1, [], [163]), (23, .iload_n 1, 1, 0, 0, 0, [], []), (24, .invokevirtual 234, 3, 56, 1, 0, [], [681, 682, 48, 684, 683]), (27, .ireturn, 1, 0, 0, 0, [], [])]
def az_m118 : List az_E := [(0, .aload_n 0, 1, 0, 0, 0, [], []), (1, .getfield 12, 3, 8, 0, 0, [], [228]), (4, .getfield 174, 3, 6, 0, 1, [], [155]), (7, .invokevirtual 237, 3, 9, 0, 0, [], [690, 691, 44, 693, 692]), (10, .i2d, 1, 0, 0, 0, [], []), (11, .aload_n 0, 1, 0, 0, 0, [], []), (12, .getfield 12, 3, 8, 0, 0, [], [228]), (15, .getfield 174, 3, 6, 0, 1, [], [155]), (18, .invokevirtual 240, 3, 10, 0, 0, [], [694, 695, 44, 697, 696]), (21, .i2d, 1, 0, 0, 0, [], []), (22, .ldc2_w 243, 3, 4627448617123184640, 2, 0, [], [698]), (25, .ddiv, 1, 0, 0, 0, [], []), (26, .dsub, 1, 0, 0, 0, [], []), (27, .dreturn, 1, 0, 0, 0, [], [])]
def az_m119 : List az_E := [(0, .aload_n 0, 1, 0, 0, 0, [], []), (1, .invokevirtual 245, 3, 118, 0, 0, [], [703, 687, 42, 689, 688]), (4, .d2f, 1, 0, 0, 0, [], []), (5, .invokestatic 249, 3, 126, 1, 0, [], [704, 705, 42, 706]), (8, .ireturn, 1, 0, 0, 0, [], [])]
def az_m120 : List az_E := [(0, .iload_n 1, 1, 0, 0, 0, [], []), (1, .tableswitch 243 0 16 #[83, 94, 102, 113, 124, 132, 143, 151, 162, 173, 181, 192, 203, 211, 219, 227, 235], 83, 78, 0, 0, [2, 7, 11, 16, 21, 25, 30, 34, 39, 44, 48, 53, 58, 62, 66, 70, 74], []), (84, .aload_n 0, 1, 0, 0, 0, [], []), (85, .getfield 12, 3, 8, 0, 0, [], [228]), (88, .invokevirtual 116, 3, 64, 0, 0, [], [522, 404, 43, 406, 405]), (91, .invokevirtual 120, 3, 22, 0, 0, [], [523, 462, 45, 464, 463]), (94, .ireturn, 1, 0, 0, 0, [], []), (95, .aload_n 0, 1, 0, 0, 0, [], []), (96, .getfield 12, 3, 8, 0, 0, [], [228]), (99, .invokevirtual 220, 3, 60, 0, 0, [], [659, 660, 43, 662, 661]), (102, .ireturn, 1, 0, 0, 0, [], []), (103, .aload_n 0, 1, 0, 0, 0, [], []), (104, .getfield 12, 3, 8, 0, 0, [], [228]), (107, .invokevirtual 116, 3, 64, 0, 0, [], [522, 404, 43, 406, 405]), (110, .invokevirtual 253, 3, 29, 0, 0, [], [712, 713, 45, 715, 714]), (113, .ireturn, 1, 0, 0, 0, [], []), (114, .aload_n 0, 1, 0, 0, 0, [], []), (115, .getfield 12, 3, 8, 0, 0, [], [228]), (118, .getfield 57, 3, 6, 3, 1, [], [159]), (121, .invokevirtual 73, 3, 17, 0, 0, [], [306, 307, 46, 309, 308]), (124, .ireturn, 1, 0, 0, 0, [], []), (125, .aload_n 0, 1, 0, 0, 0, [], []), (126, .getfield 12, 3, 8, 0, 0, [], [228]), (129, .invokevirtual 95, 3, 71, 0, 0, [], [365, 366, 43, 368, 367]), (132, .ireturn, 1, 0, 0, 0, [], []), (133, .aload_n 0, 1, 0, 0, 0, [], []), (134, .getfield 12, 3, 8, 0, 0, [], [228]), (137, .getfield 47, 3, 6, 4, 1, [], [161]), (140, .invokevirtual 104, 3, 85, 0, 0, [], [504, 375, 47, 377, 376]), (143, .ireturn, 1, 0, 0, 0, [], []), (144, .aload_n 0, 1, 0, 0, 0, [], []), (145, .getfield 12, 3, 8, 0, 0, [], [228]), (148, .invokevirtual 256, 3, 68, 0, 0, [], [723, 724, 43, 726, 725]), (151, .ireturn, 1, 0, 0, 0, [], []), (152, .aload_n 0, 1, 0, 0, 0, [], []), (153, .getfield 12, 3, 8, 0, 0, [], [228]), (156, .getfield 174, 3, 6, 0, 1, [], [155]), (159, .invokevirtual 259, 3, 8, 0, 0, [], [727, 728, 44, 730, 729]), (162, .ireturn, 1, 0, 0, 0, [], []), (163, .aload_n 0, 1, 0, 0, 0, [], []), (164, .getfield 12, 3, 8, 0, 0, [], [228]), (167, .getfield 125, 3, 6, 5, 1, [], [163]), (170, .invokevirtual 145, 3, 51, 0, 0, [], [548, 549, 48, 551, 550]), (173, .ireturn, 1, 0, 0, 0, [], []), (174, .aload_n 0, 1, 0, 0, 0, [], []), (175, .getfield 12, 3, 8, 0, 0, [], [228]), (178, .invokevirtual 262, 3, 61, 0, 0, [], [732, 733, 43, 735, 734]), (181, .ireturn, 1, 0, 0, 0, [], []), (182, .aload_n 0, 1, 0, 0, 0, [], []), (183, .getfield 12, 3, 8, 0, 0, [], [228]), (186, .getfield 174, 3, 6, 0, 1, [], [155]), (189, .invokevirtual 237, 3, 9, 0, 0, [], [690, 691, 44, 693, 692]), (192, .ireturn, 1, 0, 0, 0, [], []), (193, .aload_n 0, 1, 0, 0, 0, [], []), (194, .getfield 12, 3, 8, 0, 0, [], [228]), (197, .getfield 174, 3, 6, 0, 1, [], [155]), (200, .invokevirtual 240, 3, 10, 0, 0, [], [694, 695, 44, 697, 696]), (203, .ireturn, 1, 0, 0, 0, [], []), (204, .aload_n 0, 1, 0, 0, 0, [], []), (205, .getfield 12, 3, 8, 0, 0, [], [228]), (208, .invokevirtual 265, 3, 69, 0, 0, [], [736, 737, 43, 739, 738]), (211, .ireturn, 1, 0, 0, 0, [], []), (212, .aload_n 0, 1, 0, 0, 0, [], []), (213, .getfield 12, 3, 8, 0, 0, [], [228]), (216, .invokevirtual 268, 3, 62, 0, 0, [], [740, 741, 43, 743, 742]), (219, .ireturn, 1, 0, 0, 0, [], []), (220, .aload_n 0, 1, 0, 0, 0, [], []), (221, .getfield 22, 3, 8, 2, 0, [], [230]), (224, .invokevirtual 159, 3, 32, 0, 0, [], [580, 581, 49, 583, 582]), (227, .ireturn, 1, 0, 0, 0, [], []), (228, .aload_n 0, 1, 0, 0, 0, [], []), (229, .getfield 29, 3, 8, 3, 0, [], [231]), (232, .invokevirtual 155, 3, 36, 0, 0, [], [564, 565, 50, 567, 566]), (235, .ireturn, 1, 0, 0, 0, [], []), (236, .aload_n 0, 1, 0, 0, 0, [], []), (237, .getfield 12, 3, 8, 0, 0, [], [228]), (240, .invokevirtual 271, 3, 72, 0, 0, [], [744, 391, 43, 393, 392]), (243, .ireturn, 1, 0, 0, 0, [], []), (244, .bipush (-2), 2, 0, 0, (-2), [], []), (246, .ireturn, 1, 0, 0, 0, [], [])]
def az_m121 : List az_E := [(0, .iload_n 0, 1, 0, 0, 0, [], []), (1, .ifCond .lt 13, 3, 7, 0, 0, [], []), (4, .iload_n 0, 1, 0, 0, 0, [], []), (5, .bipush 8, 2, 0, 0, 8, [], []), (7, .if_icmp .ge 7, 3, 7, 0, 0, [], []), (10, .iconst 1, 1, 0, 0, 1, [], []), (11, .goto 4, 3, 8, 0, 0, [], []), (14, .iconst 0, 1, 0, 0, 0, [], []), (15, .ireturn, 1, 0, 0, 0, [], [])]
def az_m122 : List az_E := [(0, .iload_n 0, 1, 0, 0, 0, [], []), (1, .ifCond .lt 13, 3, 7, 0, 0, [], []), (4, .iload_n 0, 1, 0, 0, 0, [], []), (5, .bipush 24, 2, 0, 0, 24, [], []), (7, .if_icmp .ge 7, 3, 7, 0, 0, [], []), (10, .iconst 1, 1, 0, 0, 1, [], []), (11, .goto 4, 3, 8, 0, 0, [], []), (14, .iconst 0, 1, 0, 0, 0, [], []), (15, .ireturn, 1, 0, 0, 0, [], [])]
def az_m123 : List az_E := [(0, .iload_n 0, 1, 0, 0, 0, [], []), (1, .ifCond .eq 7, 3, 4, 0, 0, [], []), (4, .iconst 1, 1, 0, 0, 1, [], []), (5, .goto 4, 3, 5, 0, 0, [], []), (8, .iconst 0, 1, 0, 0, 0, [], []), (9, .ireturn, 1, 0, 0, 0, [], [])]
def az_m124 : List az_E := [(0, .iconst 0, 1, 0, 0, 0, [], []), (1, .istore_n 2, 1, 0, 0, 0, [], []), (2, .iload_n 2, 1, 0, 0, 0, [], []), (3, .aload_n 0, 1, 0, 0, 0, [], []), (4, .arraylength, 1, 0, 0, 0, [], []), (5, .if_icmp .ge 13, 3, 12, 0, 0, [], []), (8, .aload_n 0, 1, 0, 0, 0, [], []), (9, .iload_n 2, 1, 0, 0, 0, [], []), (10, .iload_n 1, 1, 0, 0, 0, [], []), (11, .iastore, 1, 0, 0, 0, [], []), (12, .iinc 2 1, 3, 0, 0, 1, [], []), (15, .goto (-13), 3, 2, 0, 0, [], []), (18, .return_, 1, 0, 0, 0, [], [])]
def az_m125 : List az_E := [(0, .iconst 0, 1, 0, 0, 0, [], []), (1, .istore_n 2, 1, 0, 0, 0, [], []), (2, .iload_n 2, 1, 0, 0, 0, [], []), (3, .aload_n 0, 1, 0, 0, 0, [], []), (4, .arraylength, 1, 0, 0, 0, [], []), (5, .if_icmp .ge 21, 3, 18, 0, 0, [], []), (8, .iload_n 2, 1, 0, 0, 0, [], []), (9, .aload_n 1, 1, 0, 0, 0, [], []), (10, .arraylength, 1, 0, 0, 0, [], []), (11, .if_icmp .ge 15, 3, 18, 0, 0, [], []), (14, .aload_n 1, 1, 0, 0, 0, [], []), (15, .iload_n 2, 1, 0, 0, 0, [], []), (16, .aload_n 0, 1, 0, 0, 0, [], []), (17, .iload_n 2, 1, 0, 0, 0, [], []), (18, .iaload, 1, 0, 0, 0, [], []), (19, .iastore, 1, 0, 0, 0, [], []), (20, .iinc 2 1, 3, 0, 0, 1, [], []), (23, .goto (-21), 3, 2, 0, 0, [], []), (26, .return_, 1, 0, 0, 0, [], [])]
def az_m126 : List az_E := [(0, .fload_n 0, 1, 0, 0, 0, [], []), (1, .fconst 0, 1, 0, 0, 0, [], []), (2, .fcmp .l, 1, 0, 0, 0, [], []), (3, .ifCond .gt 5, 3, 6, 0, 0, [], []), (6, .iconst 0, 1, 0, 0, 0, [], []), (7, .ireturn, 1, 0, 0, 0, [], []), (8, .fload_n 0, 1, 0, 0, 0, [], []), (9, .fstore_n 1, 1, 0, 0, 0, [], []), (10, .bipush 127, 2, 0, 0, 127, [], []), (12, .istore_n 2, 1, 0, 0, 0, [], []), (13, .fload_n 1, 1, 0, 0, 0, [], []), (14, .fconst 2, 1, 0, 0, 0, [], []), (15, .fcmp .l, 1, 0, 0, 0, [], []), (16, .ifCond .lt 20, 3, 23, 0, 0, [], []), (19, .iload_n 2, 1, 0, 0, 0, [], []), (20, .sipush 254, 3, 0, 0, 254, [], []), (23, .if_icmp .ge 13, 3, 23, 0, 0, [], []), (26, .fload_n 1, 1, 0, 0, 0, [], []), (27, .fconst 2, 1, 0, 0, 0, [], []), (28, .fdiv, 1, 0, 0, 0, [], []), (29, .fstore_n 1, 1, 0, 0, 0, [], []), (30, .iinc 2 1, 3, 0, 0, 1, [], []), (33, .goto (-20), 3, 10, 0, 0, [], []), (36, .fload_n 1, 1, 0, 0, 0, [], []), (37, .fconst 1, 1, 0, 0, 0, [], []), (38, .fcmp .g, 1, 0, 0, 0, [], []), (39, .ifCond .ge 18, 3, 36, 0, 0, [], []), (42, .iload_n 2, 1, 0, 0, 0, [], []), (43, .iconst 1, 1, 0, 0, 1, [], []), (44, .if_icmp .le 13, 3, 36, 0, 0, [], []), (47, .fload_n 1, 1, 0, 0, 0, [], []), (48, .fconst 2, 1, 0, 0, 0, [], []), (49, .fmul, 1, 0, 0, 0, [], []), (50, .fstore_n 1, 1, 0, 0, 0, [], []), (51, .iinc 2 (-1), 3, 0, 0, (-1), [], []), (54, .goto (-18), 3, 23, 0, 0, [], []), (57, .fload_n 1, 1, 0, 0, 0, [], []), (58, .fconst 1, 1, 0, 0, 0, [], []), (59, .fsub, 1, 0, 0, 0, [], []), (60, .ldc_w 274, 3, 1258291200, 1, 0, [], [707]), (63, .fmul, 1, 0, 0, 0, [], []), (64, .f2i, 1, 0, 0, 0, [], []), (65, .istore_n 3, 1, 0, 0, 0, [], []), (66, .iload_n 2, 1, 0, 0, 0, [], []), (67, .bipush 23, 2, 0, 0, 23, [], []), (69, .ishl, 1, 0, 0, 0, [], []), (70, .iload_n 3, 1, 0, 0, 0, [], []), (71, .ior, 1, 0, 0, 0, [], []), (72, .ireturn, 1, 0, 0, 0, [], [])]
def az_m127 : List az_E := [(0, .aload_n 0, 1, 0, 0, 0, [], []), (1, .invokespecial 1, 3, 196, 0, 2, [], [750, 61, 62]), (4, .aload_n 0, 1, 0, 0, 0, [], []), (5, .sipush 153, 3, 0, 0, 153, [], []), (8, .newarray .int, 2, 0, 0, 0, [], [91]), (10, .putfield 7, 3, 9, 0, 0, [], [751]), (13, .aload_n 0, 1, 0, 0, 0, [], []), (14, .sipush 612, 3, 0, 0, 612, [], []), (17, .newarray .int, 2, 0, 0, 0, [], [91]), (19, .putfield 13, 3, 9, 1, 0, [], [752]), (22, .aload_n 0, 1, 0, 0, 0, [], []), (23, .sipush 153, 3, 0, 0, 153, [], []), (26, .newarray .int, 2, 0, 0, 0, [], [91]), (28, .putfield 16, 3, 9, 3, 0, [], [754]), (31, .aload_n 0, 1, 0, 0, 0, [], []), (32, .bipush 60, 2, 0, 0, 60, [], []), (34, .newarray .char, 2, 0, 1, 0, [], [227]), (36, .putfield 19, 3, 9, 5, 0, [], [756]), (39, .aload_n 0, 1, 0, 0, 0, [], []), (40, .bipush 42, 2, 0, 0, 42, [], []), (42, .newarray .int, 2, 0, 0, 0, [], [91]), (44, .putfield 23, 3, 9, 8, 0, [], [759]), (47, .iconst 0, 1, 0, 0, 0, [], []), (48, .istore_n 1, 1, 0, 0, 0, [], []), (49, .iload_n 1, 1, 0, 0, 0, [], []), (50, .bipush 24, 2, 0, 0, 24, [], []), (52, .if_icmp .ge 20, 3, 36, 0, 0, [], []), (55, .aload_n 0, 1, 0, 0, 0, [], []), (56, .getfield 7, 3, 9, 0, 0, [], [751]), (59, .bipush 24, 2, 0, 0, 24, [], []), (61, .iload_n 1, 1, 0, 0, 0, [], []), (62, .iadd, 1, 0, 0, 0, [], []), (63, .bipush 11, 2, 0, 0, 11, [], []), (65, .iastore, 1, 0, 0, 0, [], []), (66, .iinc 1 1, 3, 0, 0, 1, [], []), (69, .goto (-20), 3, 24, 0, 0, [], []), (72, .aload_n 0, 1, 0, 0, 0, [], []), (73, .getfield 7, 3, 9, 0, 0, [], [751]), (76, .bipush 72, 2, 0, 0, 72, [], []), (78, .iconst 1, 1, 0, 0, 1, [], []), (79, .iastore, 1, 0, 0, 0, [], []), (80, .iconst 0, 1, 0, 0, 0, [], []), (81, .istore_n 1, 1, 0, 0, 0, [], []), (82, .iload_n 1, 1, 0, 0, 0, [], []), (83, .bipush 8, 2, 0, 0, 8, [], []), (85, .if_icmp .ge 53, 3, 76, 0, 0, [], []), (88, .aload_n 0, 1, 0, 0, 0, [], []), (89, .getfield 7, 3, 9, 0, 0, [], [751]), (92, .bipush 74, 2, 0, 0, 74, [], []), (94, .iload_n 1, 1, 0, 0, 0, [], []), (95, .iadd, 1, 0, 0, 0, [], []), (96, .bipush (-5), 2, 0, 0, (-5), [], []), (98, .iastore, 1, 0, 0, 0, [], []), (99, .aload_n 0, 1, 0, 0, 0, [], []), (100, .getfield 7, 3, 9, 0, 0, [], [751]), (103, .bipush 84, 2, 0, 0, 84, [], []), (105, .iload_n 1, 1, 0, 0, 0, [], []), (106, .iadd, 1, 0, 0, 0, [], []), (107, .bipush (-5), 2, 0, 0, (-5), [], []), (109, .iastore, 1, 0, 0, 0, [], []), (110, .aload_n 0, 1, 0, 0, 0, [], []), (111, .getfield 7, 3, 9, 0, 0, [], [751]), (114, .bipush 93, 2, 0, 0, 93, [], []), (116, .iload_n 1, 1, 0, 0, 0, [], []), (117, .iadd, 1, 0, 0, 0, [], []), (118, .bipush (-5), 2, 0, 0, (-5), [], []), (120, .iastore, 1, 0, 0, 0, [], []), (121, .aload_n 0, 1, 0, 0, 0, [], []), (122, .getfield 7, 3, 9, 0, 0, [], [751]), (125, .bipush 103, 2, 0, 0, 103, [], []), (127, .iload_n 1, 1, 0, 0, 0, [], []), (128, .iadd, 1, 0, 0, 0, [], []), (129, .bipush (-5), 2, 0, 0, (-5), [], []), (131, .iastore, 1, 0, 0, 0, [], []), (132, .iinc 1 1, 3, 0, 0, 1, [], []), (135, .goto (-53), 3, 43, 0, 0, [], []), (138, .return_, 1, 0, 0, 0, [], [])]
def az_m128 : List az_E := [(0, .iload_n 0, 1, 0, 0, 0, [], []), (1, .iload_n 1, 1, 0, 0, 0, [], []), (2, .if_icmp .lt 12, 3, 8, 0, 0, [], []), (5, .iload_n 0, 1, 0, 0, 0, [], []), (6, .iload_n 2, 1, 0, 0, 0, [], []), (7, .if_icmp .gt 7, 3, 8, 0, 0, [], []), (10, .iconst 1, 1, 0, 0, 1, [], []), (11, .goto 4, 3, 9, 0, 0, [], []), (14, .iconst 0, 1, 0, 0, 0, [], []), (15, .ireturn, 1, 0, 0, 0, [], [])]
def az_m129 : List az_E := [(0, .iload_n 0, 1, 0, 0, 0, [], []), (1, .iconst 0, 1, 0, 0, 0, [], []), (2, .bipush 7, 2, 0, 0, 7, [], []), (4, .invokestatic 26, 3, 128, 3, 0, [], [789, 790, 51, 791]), (7, .ireturn, 1, 0, 0, 0, [], [])]
def az_m130 : List az_E := [(0, .iconst 0, 1, 0, 0, 0, [], []), (1, .istore 4, 2, 0, 0, 0, [], []), (3, .iload 4, 2, 0, 0, 0, [], []), (5, .sipush 153, 3, 0, 0, 153, [], []), (8, .if_icmp .ge 21, 3, 17, 0, 0, [], []), (11, .aload_n 2, 1, 0, 0, 0, [], []), (12, .iload_n 3, 1, 0, 0, 0, [], []), (13, .iload 4, 2, 0, 0, 0, [], []), (15, .iadd, 1, 0, 0, 0, [], []), (16, .aload_n 0, 1, 0, 0, 0, [], []), (17, .iload_n 1, 1, 0, 0, 0, [], []), (18, .iload 4, 2, 0, 0, 0, [], []), (20, .iadd, 1, 0, 0, 0, [], []), (21, .iaload, 1, 0, 0, 0, [], []), (22, .iastore, 1, 0, 0, 0, [], []), (23, .iinc 4 1, 3, 0, 0, 1, [], []), (26, .goto (-23), 3, 2, 0, 0, [], []), (29, .return_, 1, 0, 0, 0, [], [])]
def az_m131 : List az_E := [(0, .aload_n 0, 1, 0, 0, 0, [], []), (1, .getfield 30, 3, 9, 2, 0, [], [753]), (4, .iconst 4, 1, 0, 0, 4, [], []), (5, .if_icmp .ne 44, 3, 27, 0, 0, [], []), (8, .iconst 0, 1, 0, 0, 0, [], []), (9, .istore_n 1, 1, 0, 0, 0, [], []), (10, .iload_n 1, 1, 0, 0, 0, [], []), (11, .sipush 459, 3, 0, 0, 459, [], []), (14, .if_icmp .ge 25, 3, 21, 0, 0, [], []), (17, .aload_n 0, 1, 0, 0, 0, [], []), (18, .getfield 13, 3, 9, 1, 0, [], [752]), (21, .iload_n 1, 1, 0, 0, 0, [], []), (22, .aload_n 0, 1, 0, 0, 0, [], []), (23, .getfield 13, 3, 9, 1, 0, [], [752]), (26, .iload_n 1, 1, 0, 0, 0, [], []), (27, .sipush 153, 3, 0, 0, 153, [], []), (30, .iadd, 1, 0, 0, 0, [], []), (31, .iaload, 1, 0, 0, 0, [], []), (32, .iastore, 1, 0, 0, 0, [], []), (33, .iinc 1 1, 3, 0, 0, 1, [], []), (36, .goto (-26), 3, 6, 0, 0, [], []), (39, .aload_n 0, 1, 0, 0, 0, [], []), (40, .dup, 1, 0, 0, 0, [], []), (41, .getfield 30, 3, 9, 2, 0, [], [753]), (44, .iconst 1, 1, 0, 0, 1, [], []), (45, .isub, 1, 0, 0, 0, [], []), (46, .putfield 30, 3, 9, 2, 0, [], [753]), (49, .aload_n 0, 1, 0, 0, 0, [], []), (50, .getfield 7, 3, 9, 0, 0, [], [751]), (53, .iconst 0, 1, 0, 0, 0, [], []), (54, .aload_n 0, 1, 0, 0, 0, [], []), (55, .getfield 13, 3, 9, 1, 0, [], [752]), (58, .sipush 153, 3, 0, 0, 153, [], []), (61, .aload_n 0, 1, 0, 0, 0, [], []), (62, .getfield 30, 3, 9, 2, 0, [], [753]), (65, .imul, 1, 0, 0, 0, [], []), (66, .invokestatic 34, 3, 130, 4, 0, [], [800, 801, 51, 802]), (69, .aload_n 0, 1, 0, 0, 0, [], []), (70, .dup, 1, 0, 0, 0, [], []), (71, .getfield 30, 3, 9, 2, 0, [], [753]), (74, .iconst 1, 1, 0, 0, 1, [], []), (75, .iadd, 1, 0, 0, 0, [], []), (76, .putfield 30, 3, 9, 2, 0, [], [753]), (79, .return_, 1, 0, 0, 0, [], [])]
def az_m132 : List az_E := [(0, .iload_n 0, 1, 0, 0, 0, [], []), (1, .bipush 37, 2, 0, 0, 37, [], []), (3, .imul, 1, 0, 0, 0, [], []), (4, .bipush 11, 2, 0, 0, 11, [], []), (6, .iadd, 1, 0, 0, 0, [], []), (7, .bipush 101, 2, 0, 0, 101, [], []), (9, .irem, 1, 0, 0, 0, [], []), (10, .ireturn, 1, 0, 0, 0, [], [])]
def az_m133 : List az_E := [(0, .aload_n 0, 1, 0, 0, 0, [], []), (1, .getfield 7, 3, 9, 0, 0, [], [751]), (4, .bipush 72, 2, 0, 0, 72, [], []), (6, .bipush 10, 2, 0, 0, 10, [], []), (8, .aload_n 0, 1, 0, 0, 0, [], []), (9, .getfield 7, 3, 9, 0, 0, [], [751]), (12, .bipush 92, 2, 0, 0, 92, [], []), (14, .iaload, 1, 0, 0, 0, [], []), (15, .imul, 1, 0, 0, 0, [], []), (16, .iadd, 1, 0, 0, 0, [], []), (17, .iload_n 1, 1, 0, 0, 0, [], []), (18, .iadd, 1, 0, 0, 0, [], []), (19, .iaload, 1, 0, 0, 0, [], []), (20, .ireturn, 1, 0, 0, 0, [], [])]
def az_m134 : List az_E := [(0, .iload_n 1, 1, 0, 0, 0, [], []), (1, .iconst 0, 1, 0, 0, 0, [], []), (2, .iconst 3, 1, 0, 0, 3, [], []), (3, .invokestatic 26, 3, 128, 3, 0, [], [789, 790, 51, 791]), (6, .ifCond .eq 23, 3, 17, 0, 0, [], []), (9, .aload_n 0, 1, 0, 0, 0, [], []), (10, .getfield 7, 3, 9, 0, 0, [], [751]), (13, .bipush 111, 2, 0, 0, 111, [], []), (15, .bipush 10, 2, 0, 0, 10, [], []), (17, .iload_n 1, 1, 0, 0, 0, [], []), (18, .imul, 1, 0, 0, 0, [], []), (19, .iadd, 1, 0, 0, 0, [], []), (20, .iaload, 1, 0, 0, 0, [], []), (21, .iconst 1, 1, 0, 0, 1, [], []), (22, .if_icmp .ne 7, 3, 17, 0, 0, [], []), (25, .iconst 1, 1, 0, 0, 1, [], []), (26, .goto 4, 3, 18, 0, 0, [], []), (29, .iconst 0, 1, 0, 0, 0, [], []), (30, .ireturn, 1, 0, 0, 0, [], [])]
def az_m135 : List az_E := [(0, .bipush (-5), 2, 0, 0, (-5), [], []), (2, .istore_n 2, 1, 0, 0, 0, [], []), (3, .iconst 0, 1, 0, 0, 0, [], []), (4, .istore_n 3, 1, 0, 0, 0, [], []), (5, .iload_n 3, 1, 0, 0, 0, [], []), (6, .bipush 8, 2, 0, 0, 8, [], []), (8, .if_icmp .ge 26, 3, 20, 0, 0, [], []), (11, .aload_n 0, 1, 0, 0, 0, [], []), (12, .iconst 2, 1, 0, 0, 2, [], []), (13, .iload_n 3, 1, 0, 0, 0, [], []), (14, .iadd, 1, 0, 0, 0, [], []), (15, .invokevirtual 38, 3, 133, 1, 0, [], [875, 877, 51, 878, 23]), (18, .iload_n 1, 1, 0, 0, 0, [], []), (19, .if_icmp .ne 7, 3, 16, 0, 0, [], []), (22, .iload_n 3, 1, 0, 0, 0, [], []), (23, .goto 4, 3, 17, 0, 0, [], []), (26, .iload_n 2, 1, 0, 0, 0, [], []), (27, .istore_n 2, 1, 0, 0, 0, [], []), (28, .iinc 3 1, 3, 0, 0, 1, [], []), (31, .goto (-26), 3, 4, 0, 0, [], []), (34, .iload_n 2, 1, 0, 0, 0, [], []), (35, .ireturn, 1, 0, 0, 0, [], [])]
def az_m136 : List az_E := [(0, .iconst 0, 1, 0, 0, 0, [], []), (1, .istore_n 3, 1, 0, 0, 0, [], []), (2, .iconst 0, 1, 0, 0, 0, [], []), (3, .istore 4, 2, 0, 0, 0, [], []), (5, .iload 4, 2, 0, 0, 0, [], []), (7, .bipush 8, 2, 0, 0, 8, [], []), (9, .if_icmp .ge 48, 3, 33, 0, 0, [], []), (12, .aload_n 0, 1, 0, 0, 0, [], []), (13, .iload_n 1, 1, 0, 0, 0, [], []), (14, .invokevirtual 42, 3, 134, 1, 0, [], [887, 889, 51, 890, 26]), (17, .ifCond .eq 40, 3, 33, 0, 0, [], []), (20, .iload_n 3, 1, 0, 0, 0, [], []), (21, .ifCond .ne 24, 3, 27, 0, 0, [], []), (24, .aload_n 0, 1, 0, 0, 0, [], []), (25, .getfield 7, 3, 9, 0, 0, [], [751]), (28, .bipush 111, 2, 0, 0, 111, [], []), (30, .bipush 10, 2, 0, 0, 10, [], []), (32, .iload_n 1, 1, 0, 0, 0, [], []), (33, .imul, 1, 0, 0, 0, [], []), (34, .iadd, 1, 0, 0, 0, [], []), (35, .iconst 2, 1, 0, 0, 2, [], []), (36, .iadd, 1, 0, 0, 0, [], []), (37, .iload 4, 2, 0, 0, 0, [], []), (39, .iadd, 1, 0, 0, 0, [], []), (40, .iaload, 1, 0, 0, 0, [], []), (41, .iload_n 2, 1, 0, 0, 0, [], []), (42, .if_icmp .ne 7, 3, 29, 0, 0, [], []), (45, .iconst 1, 1, 0, 0, 1, [], []), (46, .goto 4, 3, 30, 0, 0, [], []), (49, .iconst 0, 1, 0, 0, 0, [], []), (50, .istore_n 3, 1, 0, 0, 0, [], []), (51, .iinc 4 1, 3, 0, 0, 1, [], []), (54, .goto (-49), 3, 4, 0, 0, [], []), (57, .iload_n 3, 1, 0, 0, 0, [], []), (58, .ireturn, 1, 0, 0, 0, [], [])]
def az_m137 : List az_E := [(0, .iconst 0, 1, 0, 0, 0, [], []), (1, .istore_n 2, 1, 0, 0, 0, [], []), (2, .iconst 0, 1, 0, 0, 0, [], []), (3, .istore_n 3, 1, 0, 0, 0, [], []), (4, .iload_n 3, 1, 0, 0, 0, [], []), (5, .iconst 4, 1, 0, 0, 4, [], []), (6, .if_icmp .ge 26, 3, 20, 0, 0, [], []), (9, .iload_n 2, 1, 0, 0, 0, [], []), (10, .aload_n 0, 1, 0, 0, 0, [], []), (11, .iload_n 3, 1, 0, 0, 0, [], []), (12, .iload_n 1, 1, 0, 0, 0, [], []), (13, .invokevirtual 46, 3, 136, 2, 0, [], [883, 885, 51, 886, 25]), (16, .ifCond .eq 7, 3, 15, 0, 0, [], []), (19, .iconst 1, 1, 0, 0, 1, [], []), (20, .goto 4, 3, 16, 0, 0, [], []), (23, .iconst 0, 1, 0, 0, 0, [], []), (24, .iadd, 1, 0, 0, 0, [], []), (25, .istore_n 2, 1, 0, 0, 0, [], []), (26, .iinc 3 1, 3, 0, 0, 1, [], []), (29, .goto (-25), 3, 4, 0, 0, [], []), (32, .iload_n 2, 1, 0, 0, 0, [], []), (33, .ireturn, 1, 0, 0, 0, [], [])]
def az_m138 : List az_E := [(0, .bipush (-5), 2, 0, 0, (-5), [], []), (2, .istore_n 2, 1, 0, 0, 0, [], []), (3, .iconst 0, 1, 0, 0, 0, [], []), (4, .istore_n 3, 1, 0, 0, 0, [], []), (5, .iload_n 3, 1, 0, 0, 0, [], []), (6, .bipush 8, 2, 0, 0, 8, [], []), (8, .if_icmp .ge 28, 3, 21, 0, 0, [], []), (11, .aload_n 0, 1, 0, 0, 0, [], []), (12, .getfield 7, 3, 9, 0, 0, [], [751]), (15, .bipush 103, 2, 0, 0, 103, [], []), (17, .iload_n 3, 1, 0, 0, 0, [], []), (18, .iadd, 1, 0, 0, 0, [], []), (19, .iaload, 1, 0, 0, 0, [], []), (20, .iload_n 1, 1, 0, 0, 0, [], []), (21, .if_icmp .ne 7, 3, 17, 0, 0, [], []), (24, .iload_n 3, 1, 0, 0, 0, [], []), (25, .goto 4, 3, 18, 0, 0, [], []), (28, .iload_n 2, 1, 0, 0, 0, [], []), (29, .istore_n 2, 1, 0, 0, 0, [], []), (30, .iinc 3 1, 3, 0, 0, 1, [], []), (33, .goto (-28), 3, 4, 0, 0, [], []), (36, .iload_n 2, 1, 0, 0, 0, [], []), (37, .ireturn, 1, 0, 0, 0, [], [])]
def az_m139 : List az_E := [(0, .aload_n 0, 1, 0, 0, 0, [], []), (1, .iload_n 1, 1, 0, 0, 0, [], []), (2, .invokevirtual 50, 3, 135, 1, 0, [], [871, 873, 51, 874, 22]), (5, .bipush (-5), 2, 0, 0, (-5), [], []), (7, .if_icmp .ne 25, 3, 16, 0, 0, [], []), (10, .aload_n 0, 1, 0, 0, 0, [], []), (11, .iload_n 1, 1, 0, 0, 0, [], []), (12, .invokevirtual 53, 3, 137, 1, 0, [], [879, 881, 51, 882, 24]), (15, .ifCond .ne 17, 3, 16, 0, 0, [], []), (18, .aload_n 0, 1, 0, 0, 0, [], []), (19, .iload_n 1, 1, 0, 0, 0, [], []), (20, .invokevirtual 56, 3, 138, 1, 0, [], [891, 893, 51, 894, 27]), (23, .bipush (-5), 2, 0, 0, (-5), [], []), (25, .if_icmp .ne 7, 3, 16, 0, 0, [], []), (28, .iconst 1, 1, 0, 0, 1, [], []), (29, .goto 4, 3, 17, 0, 0, [], []), (32, .iconst 0, 1, 0, 0, 0, [], []), (33, .ireturn, 1, 0, 0, 0, [], [])]
def az_m140 : List az_E := [(0, .aload_n 0, 1, 0, 0, 0, [], []), (1, .getfield 7, 3, 9, 0, 0, [], [751]), (4, .bipush 24, 2, 0, 0, 24, [], []), (6, .iload_n 1, 1, 0, 0, 0, [], []), (7, .iadd, 1, 0, 0, 0, [], []), (8, .iaload, 1, 0, 0, 0, [], []), (9, .aload_n 0, 1, 0, 0, 0, [], []), (10, .getfield 7, 3, 9, 0, 0, [], [751]), (13, .iconst 0, 1, 0, 0, 0, [], []), (14, .iload_n 1, 1, 0, 0, 0, [], []), (15, .iadd, 1, 0, 0, 0, [], []), (16, .iaload, 1, 0, 0, 0, [], []), (17, .invokestatic 59, 3, 132, 1, 0, [], [903, 904, 51, 905]), (20, .if_icmp .eq 7, 3, 16, 0, 0, [], []), (23, .iconst 1, 1, 0, 0, 1, [], []), (24, .goto 4, 3, 17, 0, 0, [], []), (27, .iconst 0, 1, 0, 0, 0, [], []), (28, .ireturn, 1, 0, 0, 0, [], [])]
def az_m141 : List az_E := [(0, .bipush (-5), 2, 0, 0, (-5), [], []), (2, .istore_n 1, 1, 0, 0, 0, [], []), (3, .iconst 0, 1, 0, 0, 0, [], []), (4, .istore_n 2, 1, 0, 0, 0, [], []), (5, .iload_n 2, 1, 0, 0, 0, [], []), (6, .bipush 24, 2, 0, 0, 24, [], []), (8, .if_icmp .ge 50, 3, 33, 0, 0, [], []), (11, .aload_n 0, 1, 0, 0, 0, [], []), (12, .iload_n 2, 1, 0, 0, 0, [], []), (13, .invokevirtual 62, 3, 139, 1, 0, [], [867, 869, 51, 870, 21]), (16, .ifCond .eq 34, 3, 29, 0, 0, [], []), (19, .iload_n 1, 1, 0, 0, 0, [], []), (20, .bipush (-5), 2, 0, 0, (-5), [], []), (22, .if_icmp .eq 24, 3, 27, 0, 0, [], []), (25, .aload_n 0, 1, 0, 0, 0, [], []), (26, .getfield 7, 3, 9, 0, 0, [], [751]), (29, .bipush 48, 2, 0, 0, 48, [], []), (31, .iload_n 2, 1, 0, 0, 0, [], []), (32, .iadd, 1, 0, 0, 0, [], []), (33, .iaload, 1, 0, 0, 0, [], []), (34, .aload_n 0, 1, 0, 0, 0, [], []), (35, .getfield 7, 3, 9, 0, 0, [], [751]), (38, .bipush 48, 2, 0, 0, 48, [], []), (40, .iload_n 1, 1, 0, 0, 0, [], []), (41, .iadd, 1, 0, 0, 0, [], []), (42, .iaload, 1, 0, 0, 0, [], []), (43, .if_icmp .ge 7, 3, 29, 0, 0, [], []), (46, .iload_n 2, 1, 0, 0, 0, [], []), (47, .goto 4, 3, 30, 0, 0, [], []), (50, .iload_n 1, 1, 0, 0, 0, [], []), (51, .istore_n 1, 1, 0, 0, 0, [], []), (52, .iinc 2 1, 3, 0, 0, 1, [], []), (55, .goto (-50), 3, 4, 0, 0, [], []), (58, .iload_n 1, 1, 0, 0, 0, [], []), (59, .ireturn, 1, 0, 0, 0, [], [])]
def az_m142 : List az_E := [(0, .aload_n 0, 1, 0, 0, 0, [], []), (1, .getfield 7, 3, 9, 0, 0, [], [751]), (4, .iconst 0, 1, 0, 0, 0, [], []), (5, .iload_n 1, 1, 0, 0, 0, [], []), (6, .iadd, 1, 0, 0, 0, [], []), (7, .iload_n 2, 1, 0, 0, 0, [], []), (8, .iastore, 1, 0, 0, 0, [], []), (9, .aload_n 0, 1, 0, 0, 0, [], []), (10, .getfield 7, 3, 9, 0, 0, [], [751]), (13, .bipush 24, 2, 0, 0, 24, [], []), (15, .iload_n 1, 1, 0, 0, 0, [], []), (16, .iadd, 1, 0, 0, 0, [], []), (17, .iload_n 2, 1, 0, 0, 0, [], []), (18, .invokestatic 59, 3, 132, 1, 0, [], [903, 904, 51, 905]), (21, .iload_n 3, 1, 0, 0, 0, [], []), (22, .iadd, 1, 0, 0, 0, [], []), (23, .bipush 101, 2, 0, 0, 101, [], []), (25, .irem, 1, 0, 0, 0, [], []), (26, .iastore, 1, 0, 0, 0, [], []), (27, .aload_n 0, 1, 0, 0, 0, [], []), (28, .getfield 7, 3, 9, 0, 0, [], [751]), (31, .bipush 48, 2, 0, 0, 48, [], []), (33, .iload_n 1, 1, 0, 0, 0, [], []), (34, .iadd, 1, 0, 0, 0, [], []), (35, .dup2, 1, 0, 0, 0, [], []), (36, .iaload, 1, 0, 0, 0, [], []), (37, .iconst 1, 1, 0, 0, 1, [], []), (38, .iadd, 1, 0, 0, 0, [], []), (39, .iastore, 1, 0, 0, 0, [], []), (40, .return_, 1, 0, 0, 0, [], [])]
def az_m143 : List az_E := [(0, .iconst 0, 1, 0, 0, 0, [], []), (1, .istore_n 1, 1, 0, 0, 0, [], []), (2, .iconst 0, 1, 0, 0, 0, [], []), (3, .istore_n 2, 1, 0, 0, 0, [], []), (4, .iload_n 2, 1, 0, 0, 0, [], []), (5, .bipush 8, 2, 0, 0, 8, [], []), (7, .if_icmp .ge 31, 3, 23, 0, 0, [], []), (10, .iload_n 1, 1, 0, 0, 0, [], []), (11, .aload_n 0, 1, 0, 0, 0, [], []), (12, .getfield 7, 3, 9, 0, 0, [], [751]), (15, .bipush 93, 2, 0, 0, 93, [], []), (17, .iload_n 2, 1, 0, 0, 0, [], []), (18, .iadd, 1, 0, 0, 0, [], []), (19, .iaload, 1, 0, 0, 0, [], []), (20, .bipush (-5), 2, 0, 0, (-5), [], []), (22, .if_icmp .eq 7, 3, 18, 0, 0, [], []), (25, .iconst 1, 1, 0, 0, 1, [], []), (26, .goto 4, 3, 19, 0, 0, [], []), (29, .iconst 0, 1, 0, 0, 0, [], []), (30, .iadd, 1, 0, 0, 0, [], []), (31, .istore_n 1, 1, 0, 0, 0, [], []), (32, .iinc 2 1, 3, 0, 0, 1, [], []), (35, .goto (-31), 3, 4, 0, 0, [], []), (38, .iload_n 1, 1, 0, 0, 0, [], []), (39, .ireturn, 1, 0, 0, 0, [], [])]
def az_m144 : List az_E := [(0, .iconst 0, 1, 0, 0, 0, [], []), (1, .istore_n 1, 1, 0, 0, 0, [], []), (2, .iload_n 1, 1, 0, 0, 0, [], []), (3, .bipush 8, 2, 0, 0, 8, [], []), (5, .if_icmp .ge 20, 3, 14, 0, 0, [], []), (8, .aload_n 0, 1, 0, 0, 0, [], []), (9, .getfield 7, 3, 9, 0, 0, [], [751]), (12, .bipush 93, 2, 0, 0, 93, [], []), (14, .iload_n 1, 1, 0, 0, 0, [], []), (15, .iadd, 1, 0, 0, 0, [], []), (16, .bipush (-5), 2, 0, 0, (-5), [], []), (18, .iastore, 1, 0, 0, 0, [], []), (19, .iinc 1 1, 3, 0, 0, 1, [], []), (22, .goto (-20), 3, 2, 0, 0, [], []), (25, .return_, 1, 0, 0, 0, [], [])]
def az_m145 : List az_E := [(0, .aload_n 0, 1, 0, 0, 0, [], []), (1, .getfield 7, 3, 9, 0, 0, [], [751]), (4, .bipush 93, 2, 0, 0, 93, [], []), (6, .iload_n 1, 1, 0, 0, 0, [], []), (7, .iadd, 1, 0, 0, 0, [], []), (8, .iaload, 1, 0, 0, 0, [], []), (9, .iload_n 2, 1, 0, 0, 0, [], []), (10, .if_icmp .ne 6, 3, 10, 0, 0, [], []), (13, .bipush (-5), 2, 0, 0, (-5), [], []), (15, .ireturn, 1, 0, 0, 0, [], []), (16, .aload_n 0, 1, 0, 0, 0, [], []), (17, .invokevirtual 65, 3, 131, 0, 0, [], [796, 798, 51, 799, 9]), (20, .aload_n 0, 1, 0, 0, 0, [], []), (21, .getfield 7, 3, 9, 0, 0, [], [751]), (24, .bipush 93, 2, 0, 0, 93, [], []), (26, .iload_n 1, 1, 0, 0, 0, [], []), (27, .iadd, 1, 0, 0, 0, [], []), (28, .iload_n 2, 1, 0, 0, 0, [], []), (29, .iastore, 1, 0, 0, 0, [], []), (30, .aload_n 0, 1, 0, 0, 0, [], []), (31, .invokevirtual 68, 3, 143, 0, 0, [], [803, 805, 51, 806, 10]), (34, .ireturn, 1, 0, 0, 0, [], [])]
def az_m146 : List az_E := [(0, .iload_n 1, 1, 0, 0, 0, [], []), (1, .invokestatic 72, 3, 129, 1, 0, [], [786, 787, 51, 788]), (4, .ifCond .ne 5, 3, 5, 0, 0, [], []), (7, .iconst (-1), 1, 0, 0, (-1), [], []), (8, .ireturn, 1, 0, 0, 0, [], []), (9, .iload_n 2, 1, 0, 0, 0, [], []), (10, .iconst 0, 1, 0, 0, 0, [], []), (11, .sipush 999, 3, 0, 0, 999, [], []), (14, .invokestatic 26, 3, 128, 3, 0, [], [789, 790, 51, 791]), (17, .ifCond .ne 6, 3, 12, 0, 0, [], []), (20, .bipush (-2), 2, 0, 0, (-2), [], []), (22, .ireturn, 1, 0, 0, 0, [], []), (23, .aload_n 0, 1, 0, 0, 0, [], []), (24, .getfield 7, 3, 9, 0, 0, [], [751]), (27, .bipush 101, 2, 0, 0, 101, [], []), (29, .iaload, 1, 0, 0, 0, [], []), (30, .iconst 1, 1, 0, 0, 1, [], []), (31, .if_icmp .ne 8, 3, 20, 0, 0, [], []), (34, .bipush (-4), 2, 0, 0, (-4), [], []), (36, .goto 9, 3, 24, 0, 0, [], []), (39, .aload_n 0, 1, 0, 0, 0, [], []), (40, .iload_n 1, 1, 0, 0, 0, [], []), (41, .iload_n 2, 1, 0, 0, 0, [], []), (42, .invokevirtual 75, 3, 145, 2, 0, [], [792, 794, 51, 795, 8]), (45, .ireturn, 1, 0, 0, 0, [], [])]
def az_m147 : List az_E := [(0, .iload_n 1, 1, 0, 0, 0, [], []), (1, .invokestatic 72, 3, 129, 1, 0, [], [786, 787, 51, 788]), (4, .ifCond .ne 5, 3, 5, 0, 0, [], []), (7, .iconst (-1), 1, 0, 0, (-1), [], []), (8, .ireturn, 1, 0, 0, 0, [], []), (9, .aload_n 0, 1, 0, 0, 0, [], []), (10, .getfield 7, 3, 9, 0, 0, [], [751]), (13, .bipush 101, 2, 0, 0, 101, [], []), (15, .iaload, 1, 0, 0, 0, [], []), (16, .iconst 1, 1, 0, 0, 1, [], []), (17, .if_icmp .ne 8, 3, 13, 0, 0, [], []), (20, .bipush (-4), 2, 0, 0, (-4), [], []), (22, .goto 10, 3, 17, 0, 0, [], []), (25, .aload_n 0, 1, 0, 0, 0, [], []), (26, .iload_n 1, 1, 0, 0, 0, [], []), (27, .bipush (-6), 2, 0, 0, (-6), [], []), (29, .invokevirtual 75, 3, 145, 2, 0, [], [792, 794, 51, 795, 8]), (32, .ireturn, 1, 0, 0, 0, [], [])]
def az_m148 : List az_E := [(0, .aload_n 0, 1, 0, 0, 0, [], []), (1, .invokevirtual 79, 3, 171, 0, 0, [], [815, 817, 51, 818, 11]), (4, .istore_n 1, 1, 0, 0, 0, [], []), (5, .iload_n 1, 1, 0, 0, 0, [], []), (6, .bipush (-5), 2, 0, 0, (-5), [], []), (8, .if_icmp .eq 8, 3, 10, 0, 0, [], []), (11, .bipush (-100), 2, 0, 0, (-100), [], []), (13, .iload_n 1, 1, 0, 0, 0, [], []), (14, .isub, 1, 0, 0, 0, [], []), (15, .ireturn, 1, 0, 0, 0, [], []), (16, .aload_n 0, 1, 0, 0, 0, [], []), (17, .getfield 7, 3, 9, 0, 0, [], [751]), (20, .bipush 101, 2, 0, 0, 101, [], []), (22, .iaload, 1, 0, 0, 0, [], []), (23, .iconst 1, 1, 0, 0, 1, [], []), (24, .if_icmp .ne 6, 3, 18, 0, 0, [], []), (27, .bipush (-4), 2, 0, 0, (-4), [], []), (29, .ireturn, 1, 0, 0, 0, [], []), (30, .aload_n 0, 1, 0, 0, 0, [], []), (31, .invokevirtual 65, 3, 131, 0, 0, [], [796, 798, 51, 799, 9]), (34, .iconst 0, 1, 0, 0, 0, [], []), (35, .istore_n 2, 1, 0, 0, 0, [], []), (36, .iload_n 2, 1, 0, 0, 0, [], []), (37, .aload_n 0, 1, 0, 0, 0, [], []), (38, .getfield 82, 3, 9, 9, 0, [], [760]), (41, .if_icmp .ge 35, 3, 47, 0, 0, [], []), (44, .aload_n 0, 1, 0, 0, 0, [], []), (45, .getfield 7, 3, 9, 0, 0, [], [751]), (48, .bipush 93, 2, 0, 0, 93, [], []), (50, .aload_n 0, 1, 0, 0, 0, [], []), (51, .getfield 23, 3, 9, 8, 0, [], [759]), (54, .iconst 2, 1, 0, 0, 2, [], []), (55, .iload_n 2, 1, 0, 0, 0, [], []), (56, .imul, 1, 0, 0, 0, [], []), (57, .iaload, 1, 0, 0, 0, [], []), (58, .iadd, 1, 0, 0, 0, [], []), (59, .aload_n 0, 1, 0, 0, 0, [], []), (60, .getfield 23, 3, 9, 8, 0, [], [759]), (63, .iconst 2, 1, 0, 0, 2, [], []), (64, .iload_n 2, 1, 0, 0, 0, [], []), (65, .imul, 1, 0, 0, 0, [], []), (66, .iconst 1, 1, 0, 0, 1, [], []), (67, .iadd, 1, 0, 0, 0, [], []), (68, .iaload, 1, 0, 0, 0, [], []), (69, .iastore, 1, 0, 0, 0, [], []), (70, .iinc 2 1, 3, 0, 0, 1, [], []), (73, .goto (-37), 3, 22, 0, 0, [], []), (76, .aload_n 0, 1, 0, 0, 0, [], []), (77, .getfield 82, 3, 9, 9, 0, [], [760]), (80, .ireturn, 1, 0, 0, 0, [], [])]
def az_m149 : List az_E := [(0, .aload_n 0, 1, 0, 0, 0, [], []), (1, .getfield 7, 3, 9, 0, 0, [], [751]), (4, .bipush 101, 2, 0, 0, 101, [], []), (6, .iaload, 1, 0, 0, 0, [], []), (7, .iconst 1, 1, 0, 0, 1, [], []), (8, .if_icmp .ne 6, 3, 8, 0, 0, [], []), (11, .bipush (-4), 2, 0, 0, (-4), [], []), (13, .ireturn, 1, 0, 0, 0, [], []), (14, .aload_n 0, 1, 0, 0, 0, [], []), (15, .invokevirtual 68, 3, 143, 0, 0, [], [803, 805, 51, 806, 10]), (18, .istore_n 1, 1, 0, 0, 0, [], []), (19, .iload_n 1, 1, 0, 0, 0, [], []), (20, .ifCond .ne 6, 3, 15, 0, 0, [], []), (23, .bipush (-5), 2, 0, 0, (-5), [], []), (25, .ireturn, 1, 0, 0, 0, [], []), (26, .aload_n 0, 1, 0, 0, 0, [], []), (27, .invokevirtual 65, 3, 131, 0, 0, [], [796, 798, 51, 799, 9]), (30, .aload_n 0, 1, 0, 0, 0, [], []), (31, .invokevirtual 85, 3, 144, 0, 0, [], [835, 837, 51, 838, 15]), (34, .iload_n 1, 1, 0, 0, 0, [], []), (35, .ireturn, 1, 0, 0, 0, [], [])]
def az_m150 : List az_E := [(0, .iconst 0, 1, 0, 0, 0, [], []), (1, .istore_n 1, 1, 0, 0, 0, [], []), (2, .iconst 0, 1, 0, 0, 0, [], []), (3, .istore_n 2, 1, 0, 0, 0, [], []), (4, .iload_n 2, 1, 0, 0, 0, [], []), (5, .bipush 8, 2, 0, 0, 8, [], []), (7, .if_icmp .ge 29, 3, 22, 0, 0, [], []), (10, .iload_n 1, 1, 0, 0, 0, [], []), (11, .aload_n 0, 1, 0, 0, 0, [], []), (12, .getfield 7, 3, 9, 0, 0, [], [751]), (15, .bipush 93, 2, 0, 0, 93, [], []), (17, .iload_n 2, 1, 0, 0, 0, [], []), (18, .iadd, 1, 0, 0, 0, [], []), (19, .iaload, 1, 0, 0, 0, [], []), (20, .ifCond .lt 7, 3, 17, 0, 0, [], []), (23, .iconst 1, 1, 0, 0, 1, [], []), (24, .goto 4, 3, 18, 0, 0, [], []), (27, .iconst 0, 1, 0, 0, 0, [], []), (28, .iadd, 1, 0, 0, 0, [], []), (29, .istore_n 1, 1, 0, 0, 0, [], []), (30, .iinc 2 1, 3, 0, 0, 1, [], []), (33, .goto (-29), 3, 4, 0, 0, [], []), (36, .iload_n 1, 1, 0, 0, 0, [], []), (37, .ireturn, 1, 0, 0, 0, [], [])]
def az_m151 : List az_E := [(0, .aload_n 0, 1, 0, 0, 0, [], []), (1, .getfield 7, 3, 9, 0, 0, [], [751]), (4, .bipush 101, 2, 0, 0, 101, [], []), (6, .iaload, 1, 0, 0, 0, [], []), (7, .iconst 1, 1, 0, 0, 1, [], []), (8, .if_icmp .ne 20, 3, 16, 0, 0, [], []), (11, .aload_n 0, 1, 0, 0, 0, [], []), (12, .invokevirtual 88, 3, 150, 0, 0, [], [847, 849, 51, 850, 17]), (15, .iconst 2, 1, 0, 0, 2, [], []), (16, .iadd, 1, 0, 0, 0, [], []), (17, .aload_n 0, 1, 0, 0, 0, [], []), (18, .getfield 7, 3, 9, 0, 0, [], [751]), (21, .bipush 102, 2, 0, 0, 102, [], []), (23, .iaload, 1, 0, 0, 0, [], []), (24, .isub, 1, 0, 0, 0, [], []), (25, .goto 4, 3, 17, 0, 0, [], []), (28, .iconst 0, 1, 0, 0, 0, [], []), (29, .ireturn, 1, 0, 0, 0, [], [])]
def az_m152 : List az_E := [(0, .iload_n 1, 1, 0, 0, 0, [], []), (1, .istore_n 2, 1, 0, 0, 0, [], []), (2, .iconst 0, 1, 0, 0, 0, [], []), (3, .istore_n 3, 1, 0, 0, 0, [], []), (4, .iload_n 3, 1, 0, 0, 0, [], []), (5, .bipush 8, 2, 0, 0, 8, [], []), (7, .if_icmp .ge 30, 3, 21, 0, 0, [], []), (10, .aload_n 0, 1, 0, 0, 0, [], []), (11, .getfield 7, 3, 9, 0, 0, [], [751]), (14, .bipush 93, 2, 0, 0, 93, [], []), (16, .iload_n 3, 1, 0, 0, 0, [], []), (17, .iadd, 1, 0, 0, 0, [], []), (18, .iaload, 1, 0, 0, 0, [], []), (19, .ifCond .lt 12, 3, 19, 0, 0, [], []), (22, .iload_n 2, 1, 0, 0, 0, [], []), (23, .ifCond .ne 5, 3, 18, 0, 0, [], []), (26, .iload_n 3, 1, 0, 0, 0, [], []), (27, .ireturn, 1, 0, 0, 0, [], []), (28, .iinc 2 (-1), 3, 0, 0, (-1), [], []), (31, .iinc 3 1, 3, 0, 0, 1, [], []), (34, .goto (-30), 3, 4, 0, 0, [], []), (37, .bipush (-5), 2, 0, 0, (-5), [], []), (39, .ireturn, 1, 0, 0, 0, [], [])]
def az_m153 : List az_E := [(0, .aload_n 0, 1, 0, 0, 0, [], []), (1, .getfield 7, 3, 9, 0, 0, [], [751]), (4, .bipush 101, 2, 0, 0, 101, [], []), (6, .iconst 0, 1, 0, 0, 0, [], []), (7, .iastore, 1, 0, 0, 0, [], []), (8, .aload_n 0, 1, 0, 0, 0, [], []), (9, .getfield 7, 3, 9, 0, 0, [], [751]), (12, .bipush 102, 2, 0, 0, 102, [], []), (14, .iconst 0, 1, 0, 0, 0, [], []), (15, .iastore, 1, 0, 0, 0, [], []), (16, .iconst 0, 1, 0, 0, 0, [], []), (17, .istore_n 1, 1, 0, 0, 0, [], []), (18, .iload_n 1, 1, 0, 0, 0, [], []), (19, .bipush 8, 2, 0, 0, 8, [], []), (21, .if_icmp .ge 20, 3, 24, 0, 0, [], []), (24, .aload_n 0, 1, 0, 0, 0, [], []), (25, .getfield 7, 3, 9, 0, 0, [], [751]), (28, .bipush 103, 2, 0, 0, 103, [], []), (30, .iload_n 1, 1, 0, 0, 0, [], []), (31, .iadd, 1, 0, 0, 0, [], []), (32, .bipush (-5), 2, 0, 0, (-5), [], []), (34, .iastore, 1, 0, 0, 0, [], []), (35, .iinc 1 1, 3, 0, 0, 1, [], []), (38, .goto (-20), 3, 12, 0, 0, [], []), (41, .return_, 1, 0, 0, 0, [], [])]
def az_m154 : List az_E := [(0, .bipush 72, 2, 0, 0, 72, [], []), (2, .bipush 10, 2, 0, 0, 10, [], []), (4, .iconst 1, 1, 0, 0, 1, [], []), (5, .aload_n 0, 1, 0, 0, 0, [], []), (6, .getfield 7, 3, 9, 0, 0, [], [751]), (9, .bipush 92, 2, 0, 0, 92, [], []), (11, .iaload, 1, 0, 0, 0, [], []), (12, .isub, 1, 0, 0, 0, [], []), (13, .imul, 1, 0, 0, 0, [], []), (14, .iadd, 1, 0, 0, 0, [], []), (15, .istore_n 2, 1, 0, 0, 0, [], []), (16, .aload_n 0, 1, 0, 0, 0, [], []), (17, .getfield 7, 3, 9, 0, 0, [], [751]), (20, .iload_n 2, 1, 0, 0, 0, [], []), (21, .iconst 0, 1, 0, 0, 0, [], []), (22, .iadd, 1, 0, 0, 0, [], []), (23, .aload_n 0, 1, 0, 0, 0, [], []), (24, .iconst 0, 1, 0, 0, 0, [], []), (25, .invokevirtual 38, 3, 133, 1, 0, [], [875, 877, 51, 878, 23]), (28, .iconst 1, 1, 0, 0, 1, [], []), (29, .iadd, 1, 0, 0, 0, [], []), (30, .iastore, 1, 0, 0, 0, [], []), (31, .aload_n 0, 1, 0, 0, 0, [], []), (32, .getfield 7, 3, 9, 0, 0, [], [751]), (35, .iload_n 2, 1, 0, 0, 0, [], []), (36, .iconst 1, 1, 0, 0, 1, [], []), (37, .iadd, 1, 0, 0, 0, [], []), (38, .iload_n 1, 1, 0, 0, 0, [], []), (39, .iastore, 1, 0, 0, 0, [], []), (40, .iconst 0, 1, 0, 0, 0, [], []), (41, .istore_n 3, 1, 0, 0, 0, [], []), (42, .iload_n 3, 1, 0, 0, 0, [], []), (43, .bipush 8, 2, 0, 0, 8, [], []), (45, .if_icmp .ge 66, 3, 70, 0, 0, [], []), (48, .aload_n 0, 1, 0, 0, 0, [], []), (49, .getfield 7, 3, 9, 0, 0, [], [751]), (52, .bipush 93, 2, 0, 0, 93, [], []), (54, .iload_n 3, 1, 0, 0, 0, [], []), (55, .iadd, 1, 0, 0, 0, [], []), (56, .iaload, 1, 0, 0, 0, [], []), (57, .istore 4, 2, 0, 0, 0, [], []), (59, .aload_n 0, 1, 0, 0, 0, [], []), (60, .getfield 7, 3, 9, 0, 0, [], [751]), (63, .iload_n 2, 1, 0, 0, 0, [], []), (64, .iconst 2, 1, 0, 0, 2, [], []), (65, .iadd, 1, 0, 0, 0, [], []), (66, .iload_n 3, 1, 0, 0, 0, [], []), (67, .iadd, 1, 0, 0, 0, [], []), (68, .iload 4, 2, 0, 0, 0, [], []), (70, .ifCond .lt 15, 3, 57, 0, 0, [], []), (73, .aload_n 0, 1, 0, 0, 0, [], []), (74, .getfield 7, 3, 9, 0, 0, [], [751]), (77, .bipush 103, 2, 0, 0, 103, [], []), (79, .iload_n 3, 1, 0, 0, 0, [], []), (80, .iadd, 1, 0, 0, 0, [], []), (81, .iaload, 1, 0, 0, 0, [], []), (82, .goto 22, 3, 67, 0, 0, [], []), (85, .iload 4, 2, 0, 0, 0, [], []), (87, .bipush (-6), 2, 0, 0, (-6), [], []), (89, .if_icmp .ne 8, 3, 62, 0, 0, [], []), (92, .bipush (-5), 2, 0, 0, (-5), [], []), (94, .goto 10, 3, 67, 0, 0, [], []), (97, .aload_n 0, 1, 0, 0, 0, [], []), (98, .iconst 2, 1, 0, 0, 2, [], []), (99, .iload_n 3, 1, 0, 0, 0, [], []), (100, .iadd, 1, 0, 0, 0, [], []), (101, .invokevirtual 38, 3, 133, 1, 0, [], [875, 877, 51, 878, 23]), (104, .iastore, 1, 0, 0, 0, [], []), (105, .iinc 3 1, 3, 0, 0, 1, [], []), (108, .goto (-66), 3, 31, 0, 0, [], []), (111, .return_, 1, 0, 0, 0, [], [])]
def az_m155 : List az_E := [(0, .aload_n 0, 1, 0, 0, 0, [], []), (1, .aload_n 0, 1, 0, 0, 0, [], []), (2, .getfield 7, 3, 9, 0, 0, [], [751]), (5, .bipush 102, 2, 0, 0, 102, [], []), (7, .iaload, 1, 0, 0, 0, [], []), (8, .invokevirtual 91, 3, 152, 1, 0, [], [859, 861, 51, 862, 19]), (11, .bipush (-5), 2, 0, 0, (-5), [], []), (13, .if_icmp .eq 12, 3, 12, 0, 0, [], []), (16, .aload_n 0, 1, 0, 0, 0, [], []), (17, .invokevirtual 94, 3, 141, 0, 0, [], [863, 865, 51, 866, 20]), (20, .bipush (-5), 2, 0, 0, (-5), [], []), (22, .if_icmp .eq 7, 3, 14, 0, 0, [], []), (25, .iconst 1, 1, 0, 0, 1, [], []), (26, .goto 4, 3, 15, 0, 0, [], []), (29, .iconst 0, 1, 0, 0, 0, [], []), (30, .ireturn, 1, 0, 0, 0, [], [])]
def az_m156 : List az_E := [(0, .aload_n 0, 1, 0, 0, 0, [], []), (1, .aload_n 0, 1, 0, 0, 0, [], []), (2, .getfield 7, 3, 9, 0, 0, [], [751]), (5, .bipush 102, 2, 0, 0, 102, [], []), (7, .iaload, 1, 0, 0, 0, [], []), (8, .invokevirtual 91, 3, 152, 1, 0, [], [859, 861, 51, 862, 19]), (11, .istore_n 1, 1, 0, 0, 0, [], []), (12, .iload_n 1, 1, 0, 0, 0, [], []), (13, .bipush (-5), 2, 0, 0, (-5), [], []), (15, .if_icmp .eq 47, 3, 39, 0, 0, [], []), (18, .aload_n 0, 1, 0, 0, 0, [], []), (19, .invokevirtual 94, 3, 141, 0, 0, [], [863, 865, 51, 866, 20]), (22, .istore_n 2, 1, 0, 0, 0, [], []), (23, .aload_n 0, 1, 0, 0, 0, [], []), (24, .iload_n 2, 1, 0, 0, 0, [], []), (25, .aload_n 0, 1, 0, 0, 0, [], []), (26, .getfield 7, 3, 9, 0, 0, [], [751]), (29, .bipush 93, 2, 0, 0, 93, [], []), (31, .iload_n 1, 1, 0, 0, 0, [], []), (32, .iadd, 1, 0, 0, 0, [], []), (33, .iaload, 1, 0, 0, 0, [], []), (34, .iconst 0, 1, 0, 0, 0, [], []), (35, .invokevirtual 97, 3, 142, 3, 0, [], [899, 901, 51, 902, 29]), (38, .aload_n 0, 1, 0, 0, 0, [], []), (39, .getfield 7, 3, 9, 0, 0, [], [751]), (42, .bipush 103, 2, 0, 0, 103, [], []), (44, .iload_n 1, 1, 0, 0, 0, [], []), (45, .iadd, 1, 0, 0, 0, [], []), (46, .iload_n 2, 1, 0, 0, 0, [], []), (47, .iastore, 1, 0, 0, 0, [], []), (48, .aload_n 0, 1, 0, 0, 0, [], []), (49, .getfield 7, 3, 9, 0, 0, [], [751]), (52, .bipush 102, 2, 0, 0, 102, [], []), (54, .dup2, 1, 0, 0, 0, [], []), (55, .iaload, 1, 0, 0, 0, [], []), (56, .iconst 1, 1, 0, 0, 1, [], []), (57, .iadd, 1, 0, 0, 0, [], []), (58, .iastore, 1, 0, 0, 0, [], []), (59, .goto 72, 3, 80, 0, 0, [], []), (62, .aload_n 0, 1, 0, 0, 0, [], []), (63, .getfield 7, 3, 9, 0, 0, [], [751]), (66, .bipush 102, 2, 0, 0, 102, [], []), (68, .iaload, 1, 0, 0, 0, [], []), (69, .aload_n 0, 1, 0, 0, 0, [], []), (70, .invokevirtual 88, 3, 150, 0, 0, [], [847, 849, 51, 850, 17]), (73, .if_icmp .ne 22, 3, 58, 0, 0, [], []), (76, .aload_n 0, 1, 0, 0, 0, [], []), (77, .iconst 0, 1, 0, 0, 0, [], []), (78, .invokevirtual 101, 3, 154, 1, 0, [], [906, 908, 51, 909, 30]), (81, .aload_n 0, 1, 0, 0, 0, [], []), (82, .getfield 7, 3, 9, 0, 0, [], [751]), (85, .bipush 102, 2, 0, 0, 102, [], []), (87, .dup2, 1, 0, 0, 0, [], []), (88, .iaload, 1, 0, 0, 0, [], []), (89, .iconst 1, 1, 0, 0, 1, [], []), (90, .iadd, 1, 0, 0, 0, [], []), (91, .iastore, 1, 0, 0, 0, [], []), (92, .goto 39, 3, 80, 0, 0, [], []), (95, .aload_n 0, 1, 0, 0, 0, [], []), (96, .getfield 7, 3, 9, 0, 0, [], [751]), (99, .bipush 92, 2, 0, 0, 92, [], []), (101, .iconst 1, 1, 0, 0, 1, [], []), (102, .aload_n 0, 1, 0, 0, 0, [], []), (103, .getfield 7, 3, 9, 0, 0, [], [751]), (106, .bipush 92, 2, 0, 0, 92, [], []), (108, .iaload, 1, 0, 0, 0, [], []), (109, .isub, 1, 0, 0, 0, [], []), (110, .iastore, 1, 0, 0, 0, [], []), (111, .aload_n 0, 1, 0, 0, 0, [], []), (112, .getfield 7, 3, 9, 0, 0, [], [751]), (115, .sipush 152, 3, 0, 0, 152, [], []), (118, .dup2, 1, 0, 0, 0, [], []), (119, .iaload, 1, 0, 0, 0, [], []), (120, .iconst 1, 1, 0, 0, 1, [], []), (121, .iadd, 1, 0, 0, 0, [], []), (122, .iastore, 1, 0, 0, 0, [], []), (123, .aload_n 0, 1, 0, 0, 0, [], []), (124, .invokevirtual 85, 3, 144, 0, 0, [], [835, 837, 51, 838, 15]), (127, .aload_n 0, 1, 0, 0, 0, [], []), (128, .invokevirtual 105, 3, 153, 0, 0, [], [910, 912, 51, 913, 31]), (131, .return_, 1, 0, 0, 0, [], [])]
def az_m157 : List az_E := [(0, .aload_n 0, 1, 0, 0, 0, [], []), (1, .getfield 7, 3, 9, 0, 0, [], [751]), (4, .bipush 101, 2, 0, 0, 101, [], []), (6, .iaload, 1, 0, 0, 0, [], []), (7, .iconst 1, 1, 0, 0, 1, [], []), (8, .if_icmp .ne 6, 3, 8, 0, 0, [], []), (11, .bipush (-4), 2, 0, 0, (-4), [], []), (13, .ireturn, 1, 0, 0, 0, [], []), (14, .aload_n 0, 1, 0, 0, 0, [], []), (15, .invokevirtual 68, 3, 143, 0, 0, [], [803, 805, 51, 806, 10]), (18, .ifCond .ne 6, 3, 13, 0, 0, [], []), (21, .bipush (-5), 2, 0, 0, (-5), [], []), (23, .ireturn, 1, 0, 0, 0, [], []), (24, .aload_n 0, 1, 0, 0, 0, [], []), (25, .invokevirtual 65, 3, 131, 0, 0, [], [796, 798, 51, 799, 9]), (28, .aload_n 0, 1, 0, 0, 0, [], []), (29, .getfield 7, 3, 9, 0, 0, [], [751]), (32, .bipush 101, 2, 0, 0, 101, [], []), (34, .iconst 1, 1, 0, 0, 1, [], []), (35, .iastore, 1, 0, 0, 0, [], []), (36, .aload_n 0, 1, 0, 0, 0, [], []), (37, .invokevirtual 108, 3, 151, 0, 0, [], [843, 845, 51, 846, 16]), (40, .ireturn, 1, 0, 0, 0, [], [])]
def az_m158 : List az_E := [(0, .aload_n 0, 1, 0, 0, 0, [], []), (1, .getfield 7, 3, 9, 0, 0, [], [751]), (4, .bipush 101, 2, 0, 0, 101, [], []), (6, .iaload, 1, 0, 0, 0, [], []), (7, .ifCond .ne 6, 3, 7, 0, 0, [], []), (10, .bipush (-5), 2, 0, 0, (-5), [], []), (12, .ireturn, 1, 0, 0, 0, [], []), (13, .aload_n 0, 1, 0, 0, 0, [], []), (14, .invokevirtual 111, 3, 155, 0, 0, [], [855, 857, 51, 858, 18]), (17, .ifCond .ne 6, 3, 12, 0, 0, [], []), (20, .bipush (-3), 2, 0, 0, (-3), [], []), (22, .ireturn, 1, 0, 0, 0, [], []), (23, .aload_n 0, 1, 0, 0, 0, [], []), (24, .invokevirtual 65, 3, 131, 0, 0, [], [796, 798, 51, 799, 9]), (27, .aload_n 0, 1, 0, 0, 0, [], []), (28, .invokevirtual 115, 3, 156, 0, 0, [], [895, 897, 51, 898, 28]), (31, .aload_n 0, 1, 0, 0, 0, [], []), (32, .invokevirtual 108, 3, 151, 0, 0, [], [843, 845, 51, 846, 16]), (35, .ireturn, 1, 0, 0, 0, [], [])]
def az_m159 : List az_E := [(0, .aload_n 0, 1, 0, 0, 0, [], []), (1, .getfield 7, 3, 9, 0, 0, [], [751]), (4, .bipush 101, 2, 0, 0, 101, [], []), (6, .iaload, 1, 0, 0, 0, [], []), (7, .ifCond .ne 6, 3, 7, 0, 0, [], []), (10, .bipush (-5), 2, 0, 0, (-5), [], []), (12, .ireturn, 1, 0, 0, 0, [], []), (13, .aload_n 0, 1, 0, 0, 0, [], []), (14, .invokevirtual 111, 3, 155, 0, 0, [], [855, 857, 51, 858, 18]), (17, .ifCond .ne 6, 3, 12, 0, 0, [], []), (20, .bipush (-3), 2, 0, 0, (-3), [], []), (22, .ireturn, 1, 0, 0, 0, [], []), (23, .aload_n 0, 1, 0, 0, 0, [], []), (24, .invokevirtual 65, 3, 131, 0, 0, [], [796, 798, 51, 799, 9]), (27, .aload_n 0, 1, 0, 0, 0, [], []), (28, .getfield 7, 3, 9, 0, 0, [], [751]), (31, .bipush 101, 2, 0, 0, 101, [], []), (33, .iaload, 1, 0, 0, 0, [], []), (34, .iconst 1, 1, 0, 0, 1, [], []), (35, .if_icmp .ne 17, 3, 26, 0, 0, [], []), (38, .aload_n 0, 1, 0, 0, 0, [], []), (39, .invokevirtual 111, 3, 155, 0, 0, [], [855, 857, 51, 858, 18]), (42, .ifCond .eq 10, 3, 26, 0, 0, [], []), (45, .aload_n 0, 1, 0, 0, 0, [], []), (46, .invokevirtual 115, 3, 156, 0, 0, [], [895, 897, 51, 898, 28]), (49, .goto (-22), 3, 14, 0, 0, [], []), (52, .aload_n 0, 1, 0, 0, 0, [], []), (53, .invokevirtual 108, 3, 151, 0, 0, [], [843, 845, 51, 846, 16]), (56, .ireturn, 1, 0, 0, 0, [], [])]
def az_m160 : List az_E := [(0, .aload_n 0, 1, 0, 0, 0, [], []), (1, .getfield 7, 3, 9, 0, 0, [], [751]), (4, .bipush 101, 2, 0, 0, 101, [], []), (6, .iaload, 1, 0, 0, 0, [], []), (7, .ifCond .ne 6, 3, 7, 0, 0, [], []), (10, .bipush (-5), 2, 0, 0, (-5), [], []), (12, .ireturn, 1, 0, 0, 0, [], []), (13, .aload_n 0, 1, 0, 0, 0, [], []), (14, .invokevirtual 65, 3, 131, 0, 0, [], [796, 798, 51, 799, 9]), (17, .aload_n 0, 1, 0, 0, 0, [], []), (18, .getfield 7, 3, 9, 0, 0, [], [751]), (21, .bipush 102, 2, 0, 0, 102, [], []), (23, .iaload, 1, 0, 0, 0, [], []), (24, .istore_n 1, 1, 0, 0, 0, [], []), (25, .aload_n 0, 1, 0, 0, 0, [], []), (26, .invokevirtual 105, 3, 153, 0, 0, [], [910, 912, 51, 913, 31]), (29, .iload_n 1, 1, 0, 0, 0, [], []), (30, .ireturn, 1, 0, 0, 0, [], [])]
def az_m161 : List az_E := [(0, .aload_n 0, 1, 0, 0, 0, [], []), (1, .aload_n 0, 1, 0, 0, 0, [], []), (2, .getfield 7, 3, 9, 0, 0, [], [751]), (5, .bipush 102, 2, 0, 0, 102, [], []), (7, .iaload, 1, 0, 0, 0, [], []), (8, .invokevirtual 91, 3, 152, 1, 0, [], [859, 861, 51, 862, 19]), (11, .istore_n 1, 1, 0, 0, 0, [], []), (12, .iload_n 1, 1, 0, 0, 0, [], []), (13, .bipush (-5), 2, 0, 0, (-5), [], []), (15, .if_icmp .ne 8, 3, 12, 0, 0, [], []), (18, .bipush (-5), 2, 0, 0, (-5), [], []), (20, .goto 7, 3, 14, 0, 0, [], []), (23, .aload_n 0, 1, 0, 0, 0, [], []), (24, .invokevirtual 94, 3, 141, 0, 0, [], [863, 865, 51, 866, 20]), (27, .istore_n 2, 1, 0, 0, 0, [], []), (28, .iload_n 2, 1, 0, 0, 0, [], []), (29, .bipush (-5), 2, 0, 0, (-5), [], []), (31, .if_icmp .eq 21, 3, 29, 0, 0, [], []), (34, .aload_n 0, 1, 0, 0, 0, [], []), (35, .iload_n 2, 1, 0, 0, 0, [], []), (36, .aload_n 0, 1, 0, 0, 0, [], []), (37, .getfield 7, 3, 9, 0, 0, [], [751]), (40, .bipush 93, 2, 0, 0, 93, [], []), (42, .iload_n 1, 1, 0, 0, 0, [], []), (43, .iadd, 1, 0, 0, 0, [], []), (44, .iaload, 1, 0, 0, 0, [], []), (45, .iconst 1, 1, 0, 0, 1, [], []), (46, .invokevirtual 97, 3, 142, 3, 0, [], [899, 901, 51, 902, 29]), (49, .goto 28, 3, 42, 0, 0, [], []), (52, .iload_n 1, 1, 0, 0, 0, [], []), (53, .bipush (-5), 2, 0, 0, (-5), [], []), (55, .if_icmp .ne 22, 3, 42, 0, 0, [], []), (58, .aload_n 0, 1, 0, 0, 0, [], []), (59, .getfield 7, 3, 9, 0, 0, [], [751]), (62, .bipush 102, 2, 0, 0, 102, [], []), (64, .iaload, 1, 0, 0, 0, [], []), (65, .aload_n 0, 1, 0, 0, 0, [], []), (66, .invokevirtual 88, 3, 150, 0, 0, [], [847, 849, 51, 850, 17]), (69, .if_icmp .ne 8, 3, 42, 0, 0, [], []), (72, .aload_n 0, 1, 0, 0, 0, [], []), (73, .iconst 1, 1, 0, 0, 1, [], []), (74, .invokevirtual 101, 3, 154, 1, 0, [], [906, 908, 51, 909, 30]), (77, .return_, 1, 0, 0, 0, [], [])]
def az_m162 : List az_E := [(0, .aload_n 0, 1, 0, 0, 0, [], []), (1, .invokevirtual 65, 3, 131, 0, 0, [], [796, 798, 51, 799, 9]), (4, .iload_n 1, 1, 0, 0, 0, [], []), (5, .ifCond .eq 18, 3, 12, 0, 0, [], []), (8, .aload_n 0, 1, 0, 0, 0, [], []), (9, .getfield 7, 3, 9, 0, 0, [], [751]), (12, .bipush 101, 2, 0, 0, 101, [], []), (14, .iaload, 1, 0, 0, 0, [], []), (15, .iconst 1, 1, 0, 0, 1, [], []), (16, .if_icmp .ne 7, 3, 12, 0, 0, [], []), (19, .aload_n 0, 1, 0, 0, 0, [], []), (20, .invokevirtual 118, 3, 161, 0, 0, [], [926, 928, 51, 929, 32]), (23, .aload_n 0, 1, 0, 0, 0, [], []), (24, .invokevirtual 85, 3, 144, 0, 0, [], [835, 837, 51, 838, 15]), (27, .aload_n 0, 1, 0, 0, 0, [], []), (28, .invokevirtual 105, 3, 153, 0, 0, [], [910, 912, 51, 913, 31]), (31, .bipush 111, 2, 0, 0, 111, [], []), (33, .istore_n 2, 1, 0, 0, 0, [], []), (34, .iload_n 2, 1, 0, 0, 0, [], []), (35, .sipush 151, 3, 0, 0, 151, [], []), (38, .if_icmp .ge 16, 3, 28, 0, 0, [], []), (41, .aload_n 0, 1, 0, 0, 0, [], []), (42, .getfield 7, 3, 9, 0, 0, [], [751]), (45, .iload_n 2, 1, 0, 0, 0, [], []), (46, .iconst 0, 1, 0, 0, 0, [], []), (47, .iastore, 1, 0, 0, 0, [], []), (48, .iinc 2 1, 3, 0, 0, 1, [], []), (51, .goto (-17), 3, 18, 0, 0, [], []), (54, .aload_n 0, 1, 0, 0, 0, [], []), (55, .getfield 7, 3, 9, 0, 0, [], [751]), (58, .sipush 151, 3, 0, 0, 151, [], []), (61, .dup2, 1, 0, 0, 0, [], []), (62, .iaload, 1, 0, 0, 0, [], []), (63, .iconst 1, 1, 0, 0, 1, [], []), (64, .iadd, 1, 0, 0, 0, [], []), (65, .iastore, 1, 0, 0, 0, [], []), (66, .aload_n 0, 1, 0, 0, 0, [], []), (67, .iconst 0, 1, 0, 0, 0, [], []), (68, .invokevirtual 38, 3, 133, 1, 0, [], [875, 877, 51, 878, 23]), (71, .ireturn, 1, 0, 0, 0, [], [])]
def az_m163 : List az_E := [(0, .iconst 0, 1, 0, 0, 0, [], []), (1, .istore_n 1, 1, 0, 0, 0, [], []), (2, .iconst 0, 1, 0, 0, 0, [], []), (3, .istore_n 2, 1, 0, 0, 0, [], []), (4, .iload_n 2, 1, 0, 0, 0, [], []), (5, .iconst 4, 1, 0, 0, 4, [], []), (6, .if_icmp .ge 25, 3, 19, 0, 0, [], []), (9, .iload_n 1, 1, 0, 0, 0, [], []), (10, .aload_n 0, 1, 0, 0, 0, [], []), (11, .iload_n 2, 1, 0, 0, 0, [], []), (12, .invokevirtual 42, 3, 134, 1, 0, [], [887, 889, 51, 890, 26]), (15, .ifCond .eq 7, 3, 14, 0, 0, [], []), (18, .iconst 1, 1, 0, 0, 1, [], []), (19, .goto 4, 3, 15, 0, 0, [], []), (22, .iconst 0, 1, 0, 0, 0, [], []), (23, .iadd, 1, 0, 0, 0, [], []), (24, .istore_n 1, 1, 0, 0, 0, [], []), (25, .iinc 2 1, 3, 0, 0, 1, [], []), (28, .goto (-24), 3, 4, 0, 0, [], []), (31, .iload_n 1, 1, 0, 0, 0, [], []), (32, .ireturn, 1, 0, 0, 0, [], [])]
def az_m164 : List az_E := [(0, .aload_n 0, 1, 0, 0, 0, [], []), (1, .invokevirtual 121, 3, 163, 0, 0, [], [934, 936, 51, 937, 33]), (4, .iconst 4, 1, 0, 0, 4, [], []), (5, .if_icmp .ne 6, 3, 6, 0, 0, [], []), (8, .bipush (-3), 2, 0, 0, (-3), [], []), (10, .ireturn, 1, 0, 0, 0, [], []), (11, .aload_n 0, 1, 0, 0, 0, [], []), (12, .invokevirtual 65, 3, 131, 0, 0, [], [796, 798, 51, 799, 9]), (15, .iconst 0, 1, 0, 0, 0, [], []), (16, .istore_n 1, 1, 0, 0, 0, [], []), (17, .aload_n 0, 1, 0, 0, 0, [], []), (18, .iload_n 1, 1, 0, 0, 0, [], []), (19, .invokevirtual 42, 3, 134, 1, 0, [], [887, 889, 51, 890, 26]), (22, .ifCond .eq 9, 3, 16, 0, 0, [], []), (25, .iinc 1 1, 3, 0, 0, 1, [], []), (28, .goto (-11), 3, 10, 0, 0, [], []), (31, .bipush 111, 2, 0, 0, 111, [], []), (33, .bipush 10, 2, 0, 0, 10, [], []), (35, .iload_n 1, 1, 0, 0, 0, [], []), (36, .imul, 1, 0, 0, 0, [], []), (37, .iadd, 1, 0, 0, 0, [], []), (38, .istore_n 2, 1, 0, 0, 0, [], []), (39, .aload_n 0, 1, 0, 0, 0, [], []), (40, .getfield 7, 3, 9, 0, 0, [], [751]), (43, .iload_n 2, 1, 0, 0, 0, [], []), (44, .iconst 1, 1, 0, 0, 1, [], []), (45, .iastore, 1, 0, 0, 0, [], []), (46, .aload_n 0, 1, 0, 0, 0, [], []), (47, .getfield 7, 3, 9, 0, 0, [], [751]), (50, .iload_n 2, 1, 0, 0, 0, [], []), (51, .iconst 1, 1, 0, 0, 1, [], []), (52, .iadd, 1, 0, 0, 0, [], []), (53, .aload_n 0, 1, 0, 0, 0, [], []), (54, .iconst 0, 1, 0, 0, 0, [], []), (55, .invokevirtual 38, 3, 133, 1, 0, [], [875, 877, 51, 878, 23]), (58, .iastore, 1, 0, 0, 0, [], []), (59, .iconst 0, 1, 0, 0, 0, [], []), (60, .istore_n 3, 1, 0, 0, 0, [], []), (61, .iload_n 3, 1, 0, 0, 0, [], []), (62, .bipush 8, 2, 0, 0, 8, [], []), (64, .if_icmp .ge 26, 3, 56, 0, 0, [], []), (67, .aload_n 0, 1, 0, 0, 0, [], []), (68, .getfield 7, 3, 9, 0, 0, [], [751]), (71, .iload_n 2, 1, 0, 0, 0, [], []), (72, .iconst 2, 1, 0, 0, 2, [], []), (73, .iadd, 1, 0, 0, 0, [], []), (74, .iload_n 3, 1, 0, 0, 0, [], []), (75, .iadd, 1, 0, 0, 0, [], []), (76, .aload_n 0, 1, 0, 0, 0, [], []), (77, .iconst 2, 1, 0, 0, 2, [], []), (78, .iload_n 3, 1, 0, 0, 0, [], []), (79, .iadd, 1, 0, 0, 0, [], []), (80, .invokevirtual 38, 3, 133, 1, 0, [], [875, 877, 51, 878, 23]), (83, .iastore, 1, 0, 0, 0, [], []), (84, .iinc 3 1, 3, 0, 0, 1, [], []), (87, .goto (-26), 3, 38, 0, 0, [], []), (90, .iload_n 1, 1, 0, 0, 0, [], []), (91, .ireturn, 1, 0, 0, 0, [], [])]
def az_m165 : List az_E := [(0, .aload_n 0, 1, 0, 0, 0, [], []), (1, .iload_n 1, 1, 0, 0, 0, [], []), (2, .invokevirtual 42, 3, 134, 1, 0, [], [887, 889, 51, 890, 26]), (5, .ifCond .ne 5, 3, 6, 0, 0, [], []), (8, .iconst (-1), 1, 0, 0, (-1), [], []), (9, .ireturn, 1, 0, 0, 0, [], []), (10, .aload_n 0, 1, 0, 0, 0, [], []), (11, .invokevirtual 65, 3, 131, 0, 0, [], [796, 798, 51, 799, 9]), (14, .iconst 0, 1, 0, 0, 0, [], []), (15, .istore_n 2, 1, 0, 0, 0, [], []), (16, .iload_n 2, 1, 0, 0, 0, [], []), (17, .bipush 10, 2, 0, 0, 10, [], []), (19, .if_icmp .ge 24, 3, 26, 0, 0, [], []), (22, .aload_n 0, 1, 0, 0, 0, [], []), (23, .getfield 7, 3, 9, 0, 0, [], [751]), (26, .bipush 111, 2, 0, 0, 111, [], []), (28, .bipush 10, 2, 0, 0, 10, [], []), (30, .iload_n 1, 1, 0, 0, 0, [], []), (31, .imul, 1, 0, 0, 0, [], []), (32, .iadd, 1, 0, 0, 0, [], []), (33, .iload_n 2, 1, 0, 0, 0, [], []), (34, .iadd, 1, 0, 0, 0, [], []), (35, .iconst 0, 1, 0, 0, 0, [], []), (36, .iastore, 1, 0, 0, 0, [], []), (37, .iinc 2 1, 3, 0, 0, 1, [], []), (40, .goto (-24), 3, 10, 0, 0, [], []), (43, .aload_n 0, 1, 0, 0, 0, [], []), (44, .invokevirtual 121, 3, 163, 0, 0, [], [934, 936, 51, 937, 33]), (47, .ireturn, 1, 0, 0, 0, [], [])]
def az_m166 : List az_E := [(0, .aload_n 0, 1, 0, 0, 0, [], []), (1, .getfield 124, 3, 9, 6, 0, [], [757]), (4, .bipush 60, 2, 0, 0, 60, [], []), (6, .if_icmp .ne 6, 3, 6, 0, 0, [], []), (9, .bipush (-3), 2, 0, 0, (-3), [], []), (11, .ireturn, 1, 0, 0, 0, [], []), (12, .aload_n 0, 1, 0, 0, 0, [], []), (13, .getfield 19, 3, 9, 5, 0, [], [756]), (16, .aload_n 0, 1, 0, 0, 0, [], []), (17, .getfield 124, 3, 9, 6, 0, [], [757]), (20, .iload_n 1, 1, 0, 0, 0, [], []), (21, .castore, 1, 0, 0, 0, [], []), (22, .aload_n 0, 1, 0, 0, 0, [], []), (23, .dup, 1, 0, 0, 0, [], []), (24, .getfield 124, 3, 9, 6, 0, [], [757]), (27, .iconst 1, 1, 0, 0, 1, [], []), (28, .iadd, 1, 0, 0, 0, [], []), (29, .putfield 124, 3, 9, 6, 0, [], [757]), (32, .aload_n 0, 1, 0, 0, 0, [], []), (33, .getfield 124, 3, 9, 6, 0, [], [757]), (36, .ireturn, 1, 0, 0, 0, [], [])]
def az_m167 : List az_E := [(0, .aload_n 0, 1, 0, 0, 0, [], []), (1, .getfield 124, 3, 9, 6, 0, [], [757]), (4, .istore_n 1, 1, 0, 0, 0, [], []), (5, .aload_n 0, 1, 0, 0, 0, [], []), (6, .iconst 0, 1, 0, 0, 0, [], []), (7, .putfield 124, 3, 9, 6, 0, [], [757]), (10, .iload_n 1, 1, 0, 0, 0, [], []), (11, .ireturn, 1, 0, 0, 0, [], [])]
def az_m168 : List az_E := [(0, .aload_n 0, 1, 0, 0, 0, [], []), (1, .getfield 127, 3, 9, 7, 0, [], [758]), (4, .aload_n 0, 1, 0, 0, 0, [], []), (5, .getfield 124, 3, 9, 6, 0, [], [757]), (8, .if_icmp .ge 24, 3, 16, 0, 0, [], []), (11, .aload_n 0, 1, 0, 0, 0, [], []), (12, .getfield 19, 3, 9, 5, 0, [], [756]), (15, .aload_n 0, 1, 0, 0, 0, [], []), (16, .getfield 127, 3, 9, 7, 0, [], [758]), (19, .caload, 1, 0, 0, 0, [], []), (20, .iload_n 1, 1, 0, 0, 0, [], []), (21, .iload_n 2, 1, 0, 0, 0, [], []), (22, .invokestatic 26, 3, 128, 3, 0, [], [789, 790, 51, 791]), (25, .ifCond .eq 7, 3, 16, 0, 0, [], []), (28, .iconst 1, 1, 0, 0, 1, [], []), (29, .goto 4, 3, 17, 0, 0, [], []), (32, .iconst 0, 1, 0, 0, 0, [], []), (33, .ireturn, 1, 0, 0, 0, [], [])]
def az_m169 : List az_E := [(0, .aload_n 0, 1, 0, 0, 0, [], []), (1, .iload_n 1, 1, 0, 0, 0, [], []), (2, .iload_n 1, 1, 0, 0, 0, [], []), (3, .invokevirtual 130, 3, 168, 2, 0, [], [823, 825, 51, 826, 13]), (6, .istore_n 2, 1, 0, 0, 0, [], []), (7, .aload_n 0, 1, 0, 0, 0, [], []), (8, .dup, 1, 0, 0, 0, [], []), (9, .getfield 127, 3, 9, 7, 0, [], [758]), (12, .iload_n 2, 1, 0, 0, 0, [], []), (13, .ifCond .eq 7, 3, 12, 0, 0, [], []), (16, .iconst 1, 1, 0, 0, 1, [], []), (17, .goto 4, 3, 13, 0, 0, [], []), (20, .iconst 0, 1, 0, 0, 0, [], []), (21, .iadd, 1, 0, 0, 0, [], []), (22, .putfield 127, 3, 9, 7, 0, [], [758]), (25, .iload_n 2, 1, 0, 0, 0, [], []), (26, .ireturn, 1, 0, 0, 0, [], [])]
def az_m170 : List az_E := [(0, .aload_n 0, 1, 0, 0, 0, [], []), (1, .bipush 48, 2, 0, 0, 48, [], []), (3, .bipush 55, 2, 0, 0, 55, [], []), (5, .invokevirtual 130, 3, 168, 2, 0, [], [823, 825, 51, 826, 13]), (8, .ifCond .ne 5, 3, 7, 0, 0, [], []), (11, .iconst 0, 1, 0, 0, 0, [], []), (12, .ireturn, 1, 0, 0, 0, [], []), (13, .aload_n 0, 1, 0, 0, 0, [], []), (14, .getfield 23, 3, 9, 8, 0, [], [759]), (17, .iconst 2, 1, 0, 0, 2, [], []), (18, .aload_n 0, 1, 0, 0, 0, [], []), (19, .getfield 82, 3, 9, 9, 0, [], [760]), (22, .imul, 1, 0, 0, 0, [], []), (23, .aload_n 0, 1, 0, 0, 0, [], []), (24, .getfield 19, 3, 9, 5, 0, [], [756]), (27, .aload_n 0, 1, 0, 0, 0, [], []), (28, .getfield 127, 3, 9, 7, 0, [], [758]), (31, .caload, 1, 0, 0, 0, [], []), (32, .bipush 48, 2, 0, 0, 48, [], []), (34, .isub, 1, 0, 0, 0, [], []), (35, .iastore, 1, 0, 0, 0, [], []), (36, .aload_n 0, 1, 0, 0, 0, [], []), (37, .dup, 1, 0, 0, 0, [], []), (38, .getfield 127, 3, 9, 7, 0, [], [758]), (41, .iconst 1, 1, 0, 0, 1, [], []), (42, .iadd, 1, 0, 0, 0, [], []), (43, .putfield 127, 3, 9, 7, 0, [], [758]), (46, .aload_n 0, 1, 0, 0, 0, [], []), (47, .getfield 23, 3, 9, 8, 0, [], [759]), (50, .iconst 2, 1, 0, 0, 2, [], []), (51, .aload_n 0, 1, 0, 0, 0, [], []), (52, .getfield 82, 3, 9, 9, 0, [], [760]), (55, .imul, 1, 0, 0, 0, [], []), (56, .iconst 1, 1, 0, 0, 1, [], []), (57, .iadd, 1, 0, 0, 0, [], []), (58, .bipush (-6), 2, 0, 0, (-6), [], []), (60, .iastore, 1, 0, 0, 0, [], []), (61, .aload_n 0, 1, 0, 0, 0, [], []), (62, .bipush 45, 2, 0, 0, 45, [], []), (64, .invokevirtual 133, 3, 169, 1, 0, [], [827, 829, 51, 830, 14]), (67, .ifCond .eq 5, 3, 43, 0, 0, [], []), (70, .iconst 1, 1, 0, 0, 1, [], []), (71, .ireturn, 1, 0, 0, 0, [], []), (72, .aload_n 0, 1, 0, 0, 0, [], []), (73, .bipush 61, 2, 0, 0, 61, [], []), (75, .invokevirtual 133, 3, 169, 1, 0, [], [827, 829, 51, 830, 14]), (78, .ifCond .eq 14, 3, 52, 0, 0, [], []), (81, .aload_n 0, 1, 0, 0, 0, [], []), (82, .bipush 48, 2, 0, 0, 48, [], []), (84, .bipush 57, 2, 0, 0, 57, [], []), (86, .invokevirtual 130, 3, 168, 2, 0, [], [823, 825, 51, 826, 13]), (89, .ifCond .ne 5, 3, 54, 0, 0, [], []), (92, .iconst 0, 1, 0, 0, 0, [], []), (93, .ireturn, 1, 0, 0, 0, [], []), (94, .aload_n 0, 1, 0, 0, 0, [], []), (95, .getfield 19, 3, 9, 5, 0, [], [756]), (98, .aload_n 0, 1, 0, 0, 0, [], []), (99, .getfield 127, 3, 9, 7, 0, [], [758]), (102, .caload, 1, 0, 0, 0, [], []), (103, .bipush 48, 2, 0, 0, 48, [], []), (105, .isub, 1, 0, 0, 0, [], []), (106, .istore_n 1, 1, 0, 0, 0, [], []), (107, .aload_n 0, 1, 0, 0, 0, [], []), (108, .dup, 1, 0, 0, 0, [], []), (109, .getfield 127, 3, 9, 7, 0, [], [758]), (112, .iconst 1, 1, 0, 0, 1, [], []), (113, .iadd, 1, 0, 0, 0, [], []), (114, .putfield 127, 3, 9, 7, 0, [], [758]), (117, .iload_n 1, 1, 0, 0, 0, [], []), (118, .ifCond .le 51, 3, 97, 0, 0, [], []), (121, .iload_n 1, 1, 0, 0, 0, [], []), (122, .bipush 100, 2, 0, 0, 100, [], []), (124, .if_icmp .ge 45, 3, 97, 0, 0, [], []), (127, .aload_n 0, 1, 0, 0, 0, [], []), (128, .bipush 48, 2, 0, 0, 48, [], []), (130, .bipush 57, 2, 0, 0, 57, [], []), (132, .invokevirtual 130, 3, 168, 2, 0, [], [823, 825, 51, 826, 13]), (135, .ifCond .eq 34, 3, 97, 0, 0, [], []), (138, .bipush 10, 2, 0, 0, 10, [], []), (140, .iload_n 1, 1, 0, 0, 0, [], []), (141, .imul, 1, 0, 0, 0, [], []), (142, .aload_n 0, 1, 0, 0, 0, [], []), (143, .getfield 19, 3, 9, 5, 0, [], [756]), (146, .aload_n 0, 1, 0, 0, 0, [], []), (147, .getfield 127, 3, 9, 7, 0, [], [758]), (150, .caload, 1, 0, 0, 0, [], []), (151, .iadd, 1, 0, 0, 0, [], []), (152, .bipush 48, 2, 0, 0, 48, [], []), (154, .isub, 1, 0, 0, 0, [], []), (155, .istore_n 1, 1, 0, 0, 0, [], []), (156, .aload_n 0, 1, 0, 0, 0, [], []), (157, .dup, 1, 0, 0, 0, [], []), (158, .getfield 127, 3, 9, 7, 0, [], [758]), (161, .iconst 1, 1, 0, 0, 1, [], []), (162, .iadd, 1, 0, 0, 0, [], []), (163, .putfield 127, 3, 9, 7, 0, [], [758]), (166, .goto (-49), 3, 68, 0, 0, [], []), (169, .aload_n 0, 1, 0, 0, 0, [], []), (170, .getfield 23, 3, 9, 8, 0, [], [759]), (173, .iconst 2, 1, 0, 0, 2, [], []), (174, .aload_n 0, 1, 0, 0, 0, [], []), (175, .getfield 82, 3, 9, 9, 0, [], [760]), (178, .imul, 1, 0, 0, 0, [], []), (179, .iconst 1, 1, 0, 0, 1, [], []), (180, .iadd, 1, 0, 0, 0, [], []), (181, .iload_n 1, 1, 0, 0, 0, [], []), (182, .iastore, 1, 0, 0, 0, [], []), (183, .iconst 1, 1, 0, 0, 1, [], []), (184, .ireturn, 1, 0, 0, 0, [], [])]
def az_m171 : List az_E := [(0, .aload_n 0, 1, 0, 0, 0, [], []), (1, .iconst 0, 1, 0, 0, 0, [], []), (2, .putfield 127, 3, 9, 7, 0, [], [758]), (5, .aload_n 0, 1, 0, 0, 0, [], []), (6, .iconst 0, 1, 0, 0, 0, [], []), (7, .putfield 82, 3, 9, 9, 0, [], [760]), (10, .iconst 1, 1, 0, 0, 1, [], []), (11, .istore_n 1, 1, 0, 0, 0, [], []), (12, .iload_n 1, 1, 0, 0, 0, [], []), (13, .ifCond .eq 35, 3, 27, 0, 0, [], []), (16, .aload_n 0, 1, 0, 0, 0, [], []), (17, .invokevirtual 136, 3, 170, 0, 0, [], [819, 821, 51, 822, 12]), (20, .ifCond .ne 8, 3, 16, 0, 0, [], []), (23, .aload_n 0, 1, 0, 0, 0, [], []), (24, .getfield 127, 3, 9, 7, 0, [], [758]), (27, .ireturn, 1, 0, 0, 0, [], []), (28, .aload_n 0, 1, 0, 0, 0, [], []), (29, .dup, 1, 0, 0, 0, [], []), (30, .getfield 82, 3, 9, 9, 0, [], [760]), (33, .iconst 1, 1, 0, 0, 1, [], []), (34, .iadd, 1, 0, 0, 0, [], []), (35, .putfield 82, 3, 9, 9, 0, [], [760]), (38, .aload_n 0, 1, 0, 0, 0, [], []), (39, .bipush 44, 2, 0, 0, 44, [], []), (41, .invokevirtual 133, 3, 169, 1, 0, [], [827, 829, 51, 830, 14]), (44, .istore_n 1, 1, 0, 0, 0, [], []), (45, .goto (-33), 3, 8, 0, 0, [], []), (48, .aload_n 0, 1, 0, 0, 0, [], []), (49, .getfield 127, 3, 9, 7, 0, [], [758]), (52, .aload_n 0, 1, 0, 0, 0, [], []), (53, .getfield 124, 3, 9, 6, 0, [], [757]), (56, .if_icmp .ne 8, 3, 34, 0, 0, [], []), (59, .bipush (-5), 2, 0, 0, (-5), [], []), (61, .goto 7, 3, 36, 0, 0, [], []), (64, .aload_n 0, 1, 0, 0, 0, [], []), (65, .getfield 127, 3, 9, 7, 0, [], [758]), (68, .ireturn, 1, 0, 0, 0, [], [])]
def az_m172 : List az_E := [(0, .aload_n 0, 1, 0, 0, 0, [], []), (1, .getfield 30, 3, 9, 2, 0, [], [753]), (4, .ifCond .ne 6, 3, 5, 0, 0, [], []), (7, .bipush (-5), 2, 0, 0, (-5), [], []), (9, .ireturn, 1, 0, 0, 0, [], []), (10, .aload_n 0, 1, 0, 0, 0, [], []), (11, .dup, 1, 0, 0, 0, [], []), (12, .getfield 30, 3, 9, 2, 0, [], [753]), (15, .iconst 1, 1, 0, 0, 1, [], []), (16, .isub, 1, 0, 0, 0, [], []), (17, .putfield 30, 3, 9, 2, 0, [], [753]), (20, .aload_n 0, 1, 0, 0, 0, [], []), (21, .getfield 13, 3, 9, 1, 0, [], [752]), (24, .sipush 153, 3, 0, 0, 153, [], []), (27, .aload_n 0, 1, 0, 0, 0, [], []), (28, .getfield 30, 3, 9, 2, 0, [], [753]), (31, .imul, 1, 0, 0, 0, [], []), (32, .aload_n 0, 1, 0, 0, 0, [], []), (33, .getfield 7, 3, 9, 0, 0, [], [751]), (36, .iconst 0, 1, 0, 0, 0, [], []), (37, .invokestatic 34, 3, 130, 4, 0, [], [800, 801, 51, 802]), (40, .aload_n 0, 1, 0, 0, 0, [], []), (41, .getfield 30, 3, 9, 2, 0, [], [753]), (44, .ireturn, 1, 0, 0, 0, [], [])]
def az_m173 : List az_E := [(0, .aload_n 0, 1, 0, 0, 0, [], []), (1, .getfield 7, 3, 9, 0, 0, [], [751]), (4, .iconst 0, 1, 0, 0, 0, [], []), (5, .aload_n 0, 1, 0, 0, 0, [], []), (6, .getfield 16, 3, 9, 3, 0, [], [754]), (9, .iconst 0, 1, 0, 0, 0, [], []), (10, .invokestatic 34, 3, 130, 4, 0, [], [800, 801, 51, 802]), (13, .aload_n 0, 1, 0, 0, 0, [], []), (14, .iconst 1, 1, 0, 0, 1, [], []), (15, .putfield 139, 3, 9, 4, 0, [], [755]), (18, .aload_n 0, 1, 0, 0, 0, [], []), (19, .iconst 0, 1, 0, 0, 0, [], []), (20, .invokevirtual 38, 3, 133, 1, 0, [], [875, 877, 51, 878, 23]), (23, .ireturn, 1, 0, 0, 0, [], [])]
def az_m174 : List az_E := [(0, .aload_n 0, 1, 0, 0, 0, [], []), (1, .getfield 139, 3, 9, 4, 0, [], [755]), (4, .ifCond .ne 6, 3, 5, 0, 0, [], []), (7, .bipush (-5), 2, 0, 0, (-5), [], []), (9, .ireturn, 1, 0, 0, 0, [], []), (10, .aload_n 0, 1, 0, 0, 0, [], []), (11, .invokevirtual 65, 3, 131, 0, 0, [], [796, 798, 51, 799, 9]), (14, .aload_n 0, 1, 0, 0, 0, [], []), (15, .getfield 16, 3, 9, 3, 0, [], [754]), (18, .iconst 0, 1, 0, 0, 0, [], []), (19, .aload_n 0, 1, 0, 0, 0, [], []), (20, .getfield 7, 3, 9, 0, 0, [], [751]), (23, .iconst 0, 1, 0, 0, 0, [], []), (24, .invokestatic 34, 3, 130, 4, 0, [], [800, 801, 51, 802]), (27, .aload_n 0, 1, 0, 0, 0, [], []), (28, .iconst 0, 1, 0, 0, 0, [], []), (29, .invokevirtual 38, 3, 133, 1, 0, [], [875, 877, 51, 878, 23]), (32, .ireturn, 1, 0, 0, 0, [], [])]
def az_m175 : List az_E := [(0, .iload_n 1, 1, 0, 0, 0, [], []), (1, .bipush (-5), 2, 0, 0, (-5), [], []), (3, .if_icmp .ne 8, 3, 5, 0, 0, [], []), (6, .bipush (-5), 2, 0, 0, (-5), [], []), (8, .goto 11, 3, 11, 0, 0, [], []), (11, .aload_n 0, 1, 0, 0, 0, [], []), (12, .getfield 7, 3, 9, 0, 0, [], [751]), (15, .iconst 0, 1, 0, 0, 0, [], []), (16, .iload_n 1, 1, 0, 0, 0, [], []), (17, .iadd, 1, 0, 0, 0, [], []), (18, .iaload, 1, 0, 0, 0, [], []), (19, .ireturn, 1, 0, 0, 0, [], [])]
def az_m176 : List az_E := [(0, .iload_n 1, 1, 0, 0, 0, [], []), (1, .invokestatic 72, 3, 129, 1, 0, [], [786, 787, 51, 788]), (4, .ifCond .eq 17, 3, 11, 0, 0, [], []), (7, .aload_n 0, 1, 0, 0, 0, [], []), (8, .aload_n 0, 1, 0, 0, 0, [], []), (9, .iconst 2, 1, 0, 0, 2, [], []), (10, .iload_n 1, 1, 0, 0, 0, [], []), (11, .iadd, 1, 0, 0, 0, [], []), (12, .invokevirtual 38, 3, 133, 1, 0, [], [875, 877, 51, 878, 23]), (15, .invokevirtual 143, 3, 175, 1, 0, [], [966, 968, 51, 969, 34]), (18, .goto 4, 3, 12, 0, 0, [], []), (21, .iconst (-1), 1, 0, 0, (-1), [], []), (22, .ireturn, 1, 0, 0, 0, [], [])]
def az_m177 : List az_E := [(0, .iload_n 1, 1, 0, 0, 0, [], []), (1, .invokestatic 72, 3, 129, 1, 0, [], [786, 787, 51, 788]), (4, .ifCond .ne 5, 3, 5, 0, 0, [], []), (7, .iconst (-1), 1, 0, 0, (-1), [], []), (8, .ireturn, 1, 0, 0, 0, [], []), (9, .aload_n 0, 1, 0, 0, 0, [], []), (10, .getfield 7, 3, 9, 0, 0, [], [751]), (13, .bipush 93, 2, 0, 0, 93, [], []), (15, .iload_n 1, 1, 0, 0, 0, [], []), (16, .iadd, 1, 0, 0, 0, [], []), (17, .iaload, 1, 0, 0, 0, [], []), (18, .istore_n 2, 1, 0, 0, 0, [], []), (19, .iload_n 2, 1, 0, 0, 0, [], []), (20, .ifCond .lt 7, 3, 16, 0, 0, [], []), (23, .iload_n 2, 1, 0, 0, 0, [], []), (24, .goto 25, 3, 28, 0, 0, [], []), (27, .iload_n 2, 1, 0, 0, 0, [], []), (28, .bipush (-6), 2, 0, 0, (-6), [], []), (30, .if_icmp .ne 8, 3, 21, 0, 0, [], []), (33, .bipush (-5), 2, 0, 0, (-5), [], []), (35, .goto 14, 3, 28, 0, 0, [], []), (38, .aload_n 0, 1, 0, 0, 0, [], []), (39, .aload_n 0, 1, 0, 0, 0, [], []), (40, .iconst 2, 1, 0, 0, 2, [], []), (41, .iload_n 1, 1, 0, 0, 0, [], []), (42, .iadd, 1, 0, 0, 0, [], []), (43, .invokevirtual 38, 3, 133, 1, 0, [], [875, 877, 51, 878, 23]), (46, .invokevirtual 143, 3, 175, 1, 0, [], [966, 968, 51, 969, 34]), (49, .ireturn, 1, 0, 0, 0, [], [])]
def az_m178 : List az_E := [(0, .aload_n 0, 1, 0, 0, 0, [], []), (1, .iload_n 1, 1, 0, 0, 0, [], []), (2, .invokevirtual 42, 3, 134, 1, 0, [], [887, 889, 51, 890, 26]), (5, .ifCond .eq 33, 3, 22, 0, 0, [], []), (8, .iload_n 2, 1, 0, 0, 0, [], []), (9, .invokestatic 72, 3, 129, 1, 0, [], [786, 787, 51, 788]), (12, .ifCond .eq 26, 3, 22, 0, 0, [], []), (15, .aload_n 0, 1, 0, 0, 0, [], []), (16, .aload_n 0, 1, 0, 0, 0, [], []), (17, .getfield 7, 3, 9, 0, 0, [], [751]), (20, .bipush 111, 2, 0, 0, 111, [], []), (22, .bipush 10, 2, 0, 0, 10, [], []), (24, .iload_n 1, 1, 0, 0, 0, [], []), (25, .imul, 1, 0, 0, 0, [], []), (26, .iadd, 1, 0, 0, 0, [], []), (27, .iconst 2, 1, 0, 0, 2, [], []), (28, .iadd, 1, 0, 0, 0, [], []), (29, .iload_n 2, 1, 0, 0, 0, [], []), (30, .iadd, 1, 0, 0, 0, [], []), (31, .iaload, 1, 0, 0, 0, [], []), (32, .invokevirtual 143, 3, 175, 1, 0, [], [966, 968, 51, 969, 34]), (35, .goto 4, 3, 23, 0, 0, [], []), (38, .iconst (-1), 1, 0, 0, (-1), [], []), (39, .ireturn, 1, 0, 0, 0, [], [])]
def az_m179 : List az_E := [(0, .iload_n 1, 1, 0, 0, 0, [], []), (1, .iconst 0, 1, 0, 0, 0, [], []), (2, .bipush 23, 2, 0, 0, 23, [], []), (4, .invokestatic 26, 3, 128, 3, 0, [], [789, 790, 51, 791]), (7, .ifCond .ne 5, 3, 7, 0, 0, [], []), (10, .iconst (-1), 1, 0, 0, (-1), [], []), (11, .ireturn, 1, 0, 0, 0, [], []), (12, .iload_n 2, 1, 0, 0, 0, [], []), (13, .tableswitch 122 0 7 #[47, 56, 66, 80, 90, 104, 110, 116], 47, 58, 0, 0, [9, 16, 23, 31, 38, 46, 50, 54], []), (60, .aload_n 0, 1, 0, 0, 0, [], []), (61, .getfield 7, 3, 9, 0, 0, [], [751]), (64, .iconst 0, 1, 0, 0, 0, [], []), (65, .iload_n 1, 1, 0, 0, 0, [], []), (66, .iadd, 1, 0, 0, 0, [], []), (67, .iaload, 1, 0, 0, 0, [], []), (68, .ireturn, 1, 0, 0, 0, [], []), (69, .aload_n 0, 1, 0, 0, 0, [], []), (70, .getfield 7, 3, 9, 0, 0, [], [751]), (73, .bipush 24, 2, 0, 0, 24, [], []), (75, .iload_n 1, 1, 0, 0, 0, [], []), (76, .iadd, 1, 0, 0, 0, [], []), (77, .iaload, 1, 0, 0, 0, [], []), (78, .ireturn, 1, 0, 0, 0, [], []), (79, .aload_n 0, 1, 0, 0, 0, [], []), (80, .iload_n 1, 1, 0, 0, 0, [], []), (81, .invokevirtual 146, 3, 140, 1, 0, [], [982, 984, 51, 985, 35]), (84, .ifCond .eq 7, 3, 29, 0, 0, [], []), (87, .iconst 1, 1, 0, 0, 1, [], []), (88, .goto 4, 3, 30, 0, 0, [], []), (91, .iconst 0, 1, 0, 0, 0, [], []), (92, .ireturn, 1, 0, 0, 0, [], []), (93, .aload_n 0, 1, 0, 0, 0, [], []), (94, .getfield 7, 3, 9, 0, 0, [], [751]), (97, .bipush 48, 2, 0, 0, 48, [], []), (99, .iload_n 1, 1, 0, 0, 0, [], []), (100, .iadd, 1, 0, 0, 0, [], []), (101, .iaload, 1, 0, 0, 0, [], []), (102, .ireturn, 1, 0, 0, 0, [], []), (103, .aload_n 0, 1, 0, 0, 0, [], []), (104, .iload_n 1, 1, 0, 0, 0, [], []), (105, .invokevirtual 62, 3, 139, 1, 0, [], [867, 869, 51, 870, 21]), (108, .ifCond .eq 7, 3, 44, 0, 0, [], []), (111, .iconst 1, 1, 0, 0, 1, [], []), (112, .goto 4, 3, 45, 0, 0, [], []), (115, .iconst 0, 1, 0, 0, 0, [], []), (116, .ireturn, 1, 0, 0, 0, [], []), (117, .aload_n 0, 1, 0, 0, 0, [], []), (118, .iload_n 1, 1, 0, 0, 0, [], []), (119, .invokevirtual 50, 3, 135, 1, 0, [], [871, 873, 51, 874, 22]), (122, .ireturn, 1, 0, 0, 0, [], []), (123, .aload_n 0, 1, 0, 0, 0, [], []), (124, .iload_n 1, 1, 0, 0, 0, [], []), (125, .invokevirtual 53, 3, 137, 1, 0, [], [879, 881, 51, 882, 24]), (128, .ireturn, 1, 0, 0, 0, [], []), (129, .aload_n 0, 1, 0, 0, 0, [], []), (130, .iload_n 1, 1, 0, 0, 0, [], []), (131, .invokevirtual 56, 3, 138, 1, 0, [], [891, 893, 51, 894, 27]), (134, .ireturn, 1, 0, 0, 0, [], []), (135, .bipush (-2), 2, 0, 0, (-2), [], []), (137, .ireturn, 1, 0, 0, 0, [], [])]
def az_m180 : List az_E := [(0, .iconst 0, 1, 0, 0, 0, [], []), (1, .istore_n 2, 1, 0, 0, 0, [], []), (2, .iconst 0, 1, 0, 0, 0, [], []), (3, .istore_n 3, 1, 0, 0, 0, [], []), (4, .iload_n 3, 1, 0, 0, 0, [], []), (5, .bipush 8, 2, 0, 0, 8, [], []), (7, .if_icmp .ge 40, 3, 31, 0, 0, [], []), (10, .iload_n 2, 1, 0, 0, 0, [], []), (11, .aload_n 0, 1, 0, 0, 0, [], []), (12, .getfield 7, 3, 9, 0, 0, [], [751]), (15, .bipush 72, 2, 0, 0, 72, [], []), (17, .bipush 10, 2, 0, 0, 10, [], []), (19, .iload_n 1, 1, 0, 0, 0, [], []), (20, .imul, 1, 0, 0, 0, [], []), (21, .iadd, 1, 0, 0, 0, [], []), (22, .iconst 2, 1, 0, 0, 2, [], []), (23, .iadd, 1, 0, 0, 0, [], []), (24, .iload_n 3, 1, 0, 0, 0, [], []), (25, .iadd, 1, 0, 0, 0, [], []), (26, .iaload, 1, 0, 0, 0, [], []), (27, .bipush (-5), 2, 0, 0, (-5), [], []), (29, .if_icmp .eq 9, 3, 26, 0, 0, [], []), (32, .iconst 1, 1, 0, 0, 1, [], []), (33, .iload_n 3, 1, 0, 0, 0, [], []), (34, .ishl, 1, 0, 0, 0, [], []), (35, .goto 4, 3, 27, 0, 0, [], []), (38, .iconst 0, 1, 0, 0, 0, [], []), (39, .ior, 1, 0, 0, 0, [], []), (40, .istore_n 2, 1, 0, 0, 0, [], []), (41, .iinc 3 1, 3, 0, 0, 1, [], []), (44, .goto (-40), 3, 4, 0, 0, [], []), (47, .iload_n 2, 1, 0, 0, 0, [], []), (48, .ireturn, 1, 0, 0, 0, [], [])]
def az_m181 : List az_E := [(0, .iload_n 1, 1, 0, 0, 0, [], []), (1, .iconst 0, 1, 0, 0, 0, [], []), (2, .iconst 1, 1, 0, 0, 1, [], []), (3, .invokestatic 26, 3, 128, 3, 0, [], [789, 790, 51, 791]), (6, .ifCond .ne 5, 3, 7, 0, 0, [], []), (9, .iconst (-1), 1, 0, 0, (-1), [], []), (10, .ireturn, 1, 0, 0, 0, [], []), (11, .iload_n 2, 1, 0, 0, 0, [], []), (12, .bipush 10, 2, 0, 0, 10, [], []), (14, .bipush 17, 2, 0, 0, 17, [], []), (16, .invokestatic 26, 3, 128, 3, 0, [], [789, 790, 51, 791]), (19, .ifCond .eq 23, 3, 27, 0, 0, [], []), (22, .aload_n 0, 1, 0, 0, 0, [], []), (23, .getfield 7, 3, 9, 0, 0, [], [751]), (26, .bipush 72, 2, 0, 0, 72, [], []), (28, .bipush 10, 2, 0, 0, 10, [], []), (30, .iload_n 1, 1, 0, 0, 0, [], []), (31, .imul, 1, 0, 0, 0, [], []), (32, .iadd, 1, 0, 0, 0, [], []), (33, .iconst 2, 1, 0, 0, 2, [], []), (34, .iadd, 1, 0, 0, 0, [], []), (35, .iload_n 2, 1, 0, 0, 0, [], []), (36, .iadd, 1, 0, 0, 0, [], []), (37, .bipush 10, 2, 0, 0, 10, [], []), (39, .isub, 1, 0, 0, 0, [], []), (40, .iaload, 1, 0, 0, 0, [], []), (41, .ireturn, 1, 0, 0, 0, [], []), (42, .iload_n 2, 1, 0, 0, 0, [], []), (43, .tableswitch 67 0 3 #[29, 29, 44, 61], 29, 54, 0, 0, [29, 29, 40, 50], []), (72, .aload_n 0, 1, 0, 0, 0, [], []), (73, .getfield 7, 3, 9, 0, 0, [], [751]), (76, .bipush 72, 2, 0, 0, 72, [], []), (78, .bipush 10, 2, 0, 0, 10, [], []), (80, .iload_n 1, 1, 0, 0, 0, [], []), (81, .imul, 1, 0, 0, 0, [], []), (82, .iadd, 1, 0, 0, 0, [], []), (83, .iload_n 2, 1, 0, 0, 0, [], []), (84, .iadd, 1, 0, 0, 0, [], []), (85, .iaload, 1, 0, 0, 0, [], []), (86, .ireturn, 1, 0, 0, 0, [], []), (87, .aload_n 0, 1, 0, 0, 0, [], []), (88, .getfield 7, 3, 9, 0, 0, [], [751]), (91, .bipush 92, 2, 0, 0, 92, [], []), (93, .iaload, 1, 0, 0, 0, [], []), (94, .iload_n 1, 1, 0, 0, 0, [], []), (95, .if_icmp .ne 7, 3, 48, 0, 0, [], []), (98, .iconst 1, 1, 0, 0, 1, [], []), (99, .goto 4, 3, 49, 0, 0, [], []), (102, .iconst 0, 1, 0, 0, 0, [], []), (103, .ireturn, 1, 0, 0, 0, [], []), (104, .aload_n 0, 1, 0, 0, 0, [], []), (105, .iload_n 1, 1, 0, 0, 0, [], []), (106, .invokevirtual 149, 3, 180, 1, 0, [], [990, 992, 51, 993, 36]), (109, .ireturn, 1, 0, 0, 0, [], []), (110, .bipush (-2), 2, 0, 0, (-2), [], []), (112, .ireturn, 1, 0, 0, 0, [], [])]
def az_m182 : List az_E := [(0, .iload_n 1, 1, 0, 0, 0, [], []), (1, .ifCond .lt 12, 3, 7, 0, 0, [], []), (4, .iload_n 2, 1, 0, 0, 0, [], []), (5, .iconst 0, 1, 0, 0, 0, [], []), (6, .iconst 1, 1, 0, 0, 1, [], []), (7, .invokestatic 26, 3, 128, 3, 0, [], [789, 790, 51, 791]), (10, .ifCond .ne 6, 3, 9, 0, 0, [], []), (13, .bipush (-2), 2, 0, 0, (-2), [], []), (15, .ireturn, 1, 0, 0, 0, [], []), (16, .iload_n 1, 1, 0, 0, 0, [], []), (17, .aload_n 0, 1, 0, 0, 0, [], []), (18, .invokevirtual 108, 3, 151, 0, 0, [], [843, 845, 51, 846, 16]), (21, .if_icmp .lt 6, 3, 15, 0, 0, [], []), (24, .bipush (-5), 2, 0, 0, (-5), [], []), (26, .ireturn, 1, 0, 0, 0, [], []), (27, .aload_n 0, 1, 0, 0, 0, [], []), (28, .aload_n 0, 1, 0, 0, 0, [], []), (29, .getfield 7, 3, 9, 0, 0, [], [751]), (32, .bipush 102, 2, 0, 0, 102, [], []), (34, .iaload, 1, 0, 0, 0, [], []), (35, .iload_n 1, 1, 0, 0, 0, [], []), (36, .iadd, 1, 0, 0, 0, [], []), (37, .invokevirtual 91, 3, 152, 1, 0, [], [859, 861, 51, 862, 19]), (40, .istore_n 3, 1, 0, 0, 0, [], []), (41, .iload_n 2, 1, 0, 0, 0, [], []), (42, .iconst 1, 1, 0, 0, 1, [], []), (43, .if_icmp .ne 7, 3, 29, 0, 0, [], []), (46, .iload_n 3, 1, 0, 0, 0, [], []), (47, .goto 34, 3, 46, 0, 0, [], []), (50, .iload_n 3, 1, 0, 0, 0, [], []), (51, .bipush (-5), 2, 0, 0, (-5), [], []), (53, .if_icmp .eq 7, 3, 34, 0, 0, [], []), (56, .iconst 0, 1, 0, 0, 0, [], []), (57, .goto 24, 3, 46, 0, 0, [], []), (60, .aload_n 0, 1, 0, 0, 0, [], []), (61, .getfield 7, 3, 9, 0, 0, [], [751]), (64, .bipush 102, 2, 0, 0, 102, [], []), (66, .iaload, 1, 0, 0, 0, [], []), (67, .iload_n 1, 1, 0, 0, 0, [], []), (68, .iadd, 1, 0, 0, 0, [], []), (69, .aload_n 0, 1, 0, 0, 0, [], []), (70, .invokevirtual 88, 3, 150, 0, 0, [], [847, 849, 51, 850, 17]), (73, .if_icmp .ne 7, 3, 45, 0, 0, [], []), (76, .iconst 1, 1, 0, 0, 1, [], []), (77, .goto 4, 3, 46, 0, 0, [], []), (80, .iconst 2, 1, 0, 0, 2, [], []), (81, .ireturn, 1, 0, 0, 0, [], [])]
def az_m183 : List az_E := [(0, .aload_n 0, 1, 0, 0, 0, [], []), (1, .iload_n 1, 1, 0, 0, 0, [], []), (2, .invokevirtual 42, 3, 134, 1, 0, [], [887, 889, 51, 890, 26]), (5, .ifCond .eq 20, 3, 15, 0, 0, [], []), (8, .aload_n 0, 1, 0, 0, 0, [], []), (9, .getfield 7, 3, 9, 0, 0, [], [751]), (12, .bipush 111, 2, 0, 0, 111, [], []), (14, .bipush 10, 2, 0, 0, 10, [], []), (16, .iload_n 1, 1, 0, 0, 0, [], []), (17, .imul, 1, 0, 0, 0, [], []), (18, .iadd, 1, 0, 0, 0, [], []), (19, .iconst 1, 1, 0, 0, 1, [], []), (20, .iadd, 1, 0, 0, 0, [], []), (21, .iaload, 1, 0, 0, 0, [], []), (22, .goto 4, 3, 16, 0, 0, [], []), (25, .iconst (-1), 1, 0, 0, (-1), [], []), (26, .ireturn, 1, 0, 0, 0, [], [])]
def az_m184 : List az_E := [(0, .iconst 0, 1, 0, 0, 0, [], []), (1, .istore_n 1, 1, 0, 0, 0, [], []), (2, .iconst 0, 1, 0, 0, 0, [], []), (3, .istore_n 2, 1, 0, 0, 0, [], []), (4, .iload_n 2, 1, 0, 0, 0, [], []), (5, .bipush 24, 2, 0, 0, 24, [], []), (7, .if_icmp .ge 21, 3, 18, 0, 0, [], []), (10, .iload_n 1, 1, 0, 0, 0, [], []), (11, .aload_n 0, 1, 0, 0, 0, [], []), (12, .getfield 7, 3, 9, 0, 0, [], [751]), (15, .bipush 48, 2, 0, 0, 48, [], []), (17, .iload_n 2, 1, 0, 0, 0, [], []), (18, .iadd, 1, 0, 0, 0, [], []), (19, .iaload, 1, 0, 0, 0, [], []), (20, .iadd, 1, 0, 0, 0, [], []), (21, .istore_n 1, 1, 0, 0, 0, [], []), (22, .iinc 2 1, 3, 0, 0, 1, [], []), (25, .goto (-21), 3, 4, 0, 0, [], []), (28, .iload_n 1, 1, 0, 0, 0, [], []), (29, .ireturn, 1, 0, 0, 0, [], [])]
def az_m185 : List az_E := [(0, .iconst 0, 1, 0, 0, 0, [], []), (1, .istore_n 1, 1, 0, 0, 0, [], []), (2, .iconst 0, 1, 0, 0, 0, [], []), (3, .istore_n 2, 1, 0, 0, 0, [], []), (4, .iload_n 2, 1, 0, 0, 0, [], []), (5, .bipush 24, 2, 0, 0, 24, [], []), (7, .if_icmp .ge 36, 3, 26, 0, 0, [], []), (10, .aload_n 0, 1, 0, 0, 0, [], []), (11, .getfield 7, 3, 9, 0, 0, [], [751]), (14, .bipush 48, 2, 0, 0, 48, [], []), (16, .iload_n 2, 1, 0, 0, 0, [], []), (17, .iadd, 1, 0, 0, 0, [], []), (18, .iaload, 1, 0, 0, 0, [], []), (19, .iload_n 1, 1, 0, 0, 0, [], []), (20, .if_icmp .le 15, 3, 22, 0, 0, [], []), (23, .aload_n 0, 1, 0, 0, 0, [], []), (24, .getfield 7, 3, 9, 0, 0, [], [751]), (27, .bipush 48, 2, 0, 0, 48, [], []), (29, .iload_n 2, 1, 0, 0, 0, [], []), (30, .iadd, 1, 0, 0, 0, [], []), (31, .iaload, 1, 0, 0, 0, [], []), (32, .goto 4, 3, 23, 0, 0, [], []), (35, .iload_n 1, 1, 0, 0, 0, [], []), (36, .istore_n 1, 1, 0, 0, 0, [], []), (37, .iinc 2 1, 3, 0, 0, 1, [], []), (40, .goto (-36), 3, 4, 0, 0, [], []), (43, .iload_n 1, 1, 0, 0, 0, [], []), (44, .ireturn, 1, 0, 0, 0, [], [])]
def az_m186 : List az_E := [(0, .aload_n 0, 1, 0, 0, 0, [], []), (1, .invokevirtual 152, 3, 185, 0, 0, [], [1006, 1008, 51, 1009, 37]), (4, .i2d, 1, 0, 0, 0, [], []), (5, .aload_n 0, 1, 0, 0, 0, [], []), (6, .invokevirtual 155, 3, 184, 0, 0, [], [1010, 1012, 51, 1013, 38]), (9, .i2d, 1, 0, 0, 0, [], []), (10, .ldc2_w 158, 3, 4627448617123184640, 2, 0, [], [1014]), (13, .ddiv, 1, 0, 0, 0, [], []), (14, .dsub, 1, 0, 0, 0, [], []), (15, .dreturn, 1, 0, 0, 0, [], [])]
def az_m187 : List az_E := [(0, .aload_n 0, 1, 0, 0, 0, [], []), (1, .invokevirtual 152, 3, 185, 0, 0, [], [1006, 1008, 51, 1009, 37]), (4, .i2d, 1, 0, 0, 0, [], []), (5, .aload_n 0, 1, 0, 0, 0, [], []), (6, .invokevirtual 155, 3, 184, 0, 0, [], [1010, 1012, 51, 1013, 38]), (9, .i2d, 1, 0, 0, 0, [], []), (10, .ldc2_w 158, 3, 4627448617123184640, 2, 0, [], [1014]), (13, .ddiv, 1, 0, 0, 0, [], []), (14, .dsub, 1, 0, 0, 0, [], []), (15, .d2f, 1, 0, 0, 0, [], []), (16, .invokestatic 160, 3, 193, 1, 0, [], [1019, 1020, 53, 1021]), (19, .ireturn, 1, 0, 0, 0, [], [])]
def az_m188 : List az_E := [(0, .iconst 0, 1, 0, 0, 0, [], []), (1, .istore_n 1, 1, 0, 0, 0, [], []), (2, .iconst 0, 1, 0, 0, 0, [], []), (3, .istore_n 2, 1, 0, 0, 0, [], []), (4, .iload_n 2, 1, 0, 0, 0, [], []), (5, .bipush 8, 2, 0, 0, 8, [], []), (7, .if_icmp .ge 17, 3, 17, 0, 0, [], []), (10, .iload_n 1, 1, 0, 0, 0, [], []), (11, .iload_n 0, 1, 0, 0, 0, [], []), (12, .iload_n 2, 1, 0, 0, 0, [], []), (13, .ishr, 1, 0, 0, 0, [], []), (14, .iconst 1, 1, 0, 0, 1, [], []), (15, .iand, 1, 0, 0, 0, [], []), (16, .iadd, 1, 0, 0, 0, [], []), (17, .istore_n 1, 1, 0, 0, 0, [], []), (18, .iinc 2 1, 3, 0, 0, 1, [], []), (21, .goto (-17), 3, 4, 0, 0, [], []), (24, .iload_n 1, 1, 0, 0, 0, [], []), (25, .ireturn, 1, 0, 0, 0, [], [])]
def az_m189 : List az_E := [(0, .iconst 0, 1, 0, 0, 0, [], []), (1, .istore_n 2, 1, 0, 0, 0, [], []), (2, .iconst 0, 1, 0, 0, 0, [], []), (3, .istore_n 3, 1, 0, 0, 0, [], []), (4, .iload_n 3, 1, 0, 0, 0, [], []), (5, .bipush 24, 2, 0, 0, 24, [], []), (7, .if_icmp .ge 86, 3, 50, 0, 0, [], []), (10, .aload_n 0, 1, 0, 0, 0, [], []), (11, .iload_n 3, 1, 0, 0, 0, [], []), (12, .invokevirtual 53, 3, 137, 1, 0, [], [879, 881, 51, 882, 24]), (15, .ifCond .le 27, 3, 23, 0, 0, [], []), (18, .aload_n 0, 1, 0, 0, 0, [], []), (19, .iload_n 3, 1, 0, 0, 0, [], []), (20, .invokevirtual 50, 3, 135, 1, 0, [], [871, 873, 51, 874, 22]), (23, .bipush (-5), 2, 0, 0, (-5), [], []), (25, .if_icmp .ne 17, 3, 23, 0, 0, [], []), (28, .aload_n 0, 1, 0, 0, 0, [], []), (29, .iload_n 3, 1, 0, 0, 0, [], []), (30, .invokevirtual 56, 3, 138, 1, 0, [], [891, 893, 51, 894, 27]), (33, .bipush (-5), 2, 0, 0, (-5), [], []), (35, .if_icmp .ne 7, 3, 23, 0, 0, [], []), (38, .iconst 1, 1, 0, 0, 1, [], []), (39, .goto 4, 3, 24, 0, 0, [], []), (42, .iconst 0, 1, 0, 0, 0, [], []), (43, .istore 4, 2, 0, 0, 0, [], []), (45, .iload_n 1, 1, 0, 0, 0, [], []), (46, .ifCond .ne 11, 3, 31, 0, 0, [], []), (49, .aload_n 0, 1, 0, 0, 0, [], []), (50, .iload_n 3, 1, 0, 0, 0, [], []), (51, .invokevirtual 62, 3, 139, 1, 0, [], [867, 869, 51, 870, 21]), (54, .goto 18, 3, 39, 0, 0, [], []), (57, .iload_n 1, 1, 0, 0, 0, [], []), (58, .iconst 1, 1, 0, 0, 1, [], []), (59, .if_icmp .ne 11, 3, 38, 0, 0, [], []), (62, .aload_n 0, 1, 0, 0, 0, [], []), (63, .iload_n 3, 1, 0, 0, 0, [], []), (64, .invokevirtual 146, 3, 140, 1, 0, [], [982, 984, 51, 985, 35]), (67, .goto 5, 3, 39, 0, 0, [], []), (70, .iload 4, 2, 0, 0, 0, [], []), (72, .istore 5, 2, 0, 0, 0, [], []), (74, .iload_n 2, 1, 0, 0, 0, [], []), (75, .iload 5, 2, 0, 0, 0, [], []), (77, .ifCond .eq 7, 3, 45, 0, 0, [], []), (80, .iconst 1, 1, 0, 0, 1, [], []), (81, .goto 4, 3, 46, 0, 0, [], []), (84, .iconst 0, 1, 0, 0, 0, [], []), (85, .iadd, 1, 0, 0, 0, [], []), (86, .istore_n 2, 1, 0, 0, 0, [], []), (87, .iinc 3 1, 3, 0, 0, 1, [], []), (90, .goto (-86), 3, 4, 0, 0, [], []), (93, .iload_n 2, 1, 0, 0, 0, [], []), (94, .ireturn, 1, 0, 0, 0, [], [])]
def az_m190 : List az_E := [(0, .iconst 0, 1, 0, 0, 0, [], []), (1, .istore_n 1, 1, 0, 0, 0, [], []), (2, .iconst 0, 1, 0, 0, 0, [], []), (3, .istore_n 2, 1, 0, 0, 0, [], []), (4, .iload_n 2, 1, 0, 0, 0, [], []), (5, .aload_n 0, 1, 0, 0, 0, [], []), (6, .invokevirtual 108, 3, 151, 0, 0, [], [843, 845, 51, 846, 16]), (9, .if_icmp .ge 35, 3, 26, 0, 0, [], []), (12, .iload_n 1, 1, 0, 0, 0, [], []), (13, .aload_n 0, 1, 0, 0, 0, [], []), (14, .aload_n 0, 1, 0, 0, 0, [], []), (15, .getfield 7, 3, 9, 0, 0, [], [751]), (18, .bipush 102, 2, 0, 0, 102, [], []), (20, .iaload, 1, 0, 0, 0, [], []), (21, .iload_n 2, 1, 0, 0, 0, [], []), (22, .iadd, 1, 0, 0, 0, [], []), (23, .invokevirtual 91, 3, 152, 1, 0, [], [859, 861, 51, 862, 19]), (26, .bipush (-5), 2, 0, 0, (-5), [], []), (28, .if_icmp .eq 7, 3, 21, 0, 0, [], []), (31, .iconst 1, 1, 0, 0, 1, [], []), (32, .goto 4, 3, 22, 0, 0, [], []), (35, .iconst 0, 1, 0, 0, 0, [], []), (36, .iadd, 1, 0, 0, 0, [], []), (37, .istore_n 1, 1, 0, 0, 0, [], []), (38, .iinc 2 1, 3, 0, 0, 1, [], []), (41, .goto (-37), 3, 4, 0, 0, [], []), (44, .iload_n 1, 1, 0, 0, 0, [], []), (45, .ireturn, 1, 0, 0, 0, [], [])]
def az_m191 : List az_E := [(0, .iload_n 1, 1, 0, 0, 0, [], []), (1, .tableswitch 196 0 16 #[83, 89, 97, 112, 117, 122, 130, 136, 142, 147, 156, 161, 166, 172, 181, 186, 191], 83, 70, 0, 0, [2, 6, 11, 19, 22, 25, 30, 34, 38, 41, 46, 49, 52, 56, 61, 64, 67], []), (84, .aload_n 0, 1, 0, 0, 0, [], []), (85, .iconst 0, 1, 0, 0, 0, [], []), (86, .invokevirtual 38, 3, 133, 1, 0, [], [875, 877, 51, 878, 23]), (89, .ireturn, 1, 0, 0, 0, [], []), (90, .aload_n 0, 1, 0, 0, 0, [], []), (91, .getfield 7, 3, 9, 0, 0, [], [751]), (94, .bipush 92, 2, 0, 0, 92, [], []), (96, .iaload, 1, 0, 0, 0, [], []), (97, .ireturn, 1, 0, 0, 0, [], []), (98, .aload_n 0, 1, 0, 0, 0, [], []), (99, .aload_n 0, 1, 0, 0, 0, [], []), (100, .getfield 7, 3, 9, 0, 0, [], [751]), (103, .bipush 92, 2, 0, 0, 92, [], []), (105, .iaload, 1, 0, 0, 0, [], []), (106, .invokevirtual 149, 3, 180, 1, 0, [], [990, 992, 51, 993, 36]), (109, .invokestatic 166, 3, 188, 1, 0, [], [1033, 1034, 51, 1035]), (112, .ireturn, 1, 0, 0, 0, [], []), (113, .aload_n 0, 1, 0, 0, 0, [], []), (114, .invokevirtual 68, 3, 143, 0, 0, [], [803, 805, 51, 806, 10]), (117, .ireturn, 1, 0, 0, 0, [], []), (118, .aload_n 0, 1, 0, 0, 0, [], []), (119, .invokevirtual 108, 3, 151, 0, 0, [], [843, 845, 51, 846, 16]), (122, .ireturn, 1, 0, 0, 0, [], []), (123, .aload_n 0, 1, 0, 0, 0, [], []), (124, .getfield 7, 3, 9, 0, 0, [], [751]), (127, .bipush 102, 2, 0, 0, 102, [], []), (129, .iaload, 1, 0, 0, 0, [], []), (130, .ireturn, 1, 0, 0, 0, [], []), (131, .aload_n 0, 1, 0, 0, 0, [], []), (132, .iconst 0, 1, 0, 0, 0, [], []), (133, .invokevirtual 169, 3, 189, 1, 0, [], [1036, 1038, 51, 1039, 39]), (136, .ireturn, 1, 0, 0, 0, [], []), (137, .aload_n 0, 1, 0, 0, 0, [], []), (138, .iconst 1, 1, 0, 0, 1, [], []), (139, .invokevirtual 169, 3, 189, 1, 0, [], [1036, 1038, 51, 1039, 39]), (142, .ireturn, 1, 0, 0, 0, [], []), (143, .aload_n 0, 1, 0, 0, 0, [], []), (144, .invokevirtual 121, 3, 163, 0, 0, [], [934, 936, 51, 937, 33]), (147, .ireturn, 1, 0, 0, 0, [], []), (148, .aload_n 0, 1, 0, 0, 0, [], []), (149, .getfield 7, 3, 9, 0, 0, [], [751]), (152, .sipush 151, 3, 0, 0, 151, [], []), (155, .iaload, 1, 0, 0, 0, [], []), (156, .ireturn, 1, 0, 0, 0, [], []), (157, .aload_n 0, 1, 0, 0, 0, [], []), (158, .invokevirtual 152, 3, 185, 0, 0, [], [1006, 1008, 51, 1009, 37]), (161, .ireturn, 1, 0, 0, 0, [], []), (162, .aload_n 0, 1, 0, 0, 0, [], []), (163, .invokevirtual 155, 3, 184, 0, 0, [], [1010, 1012, 51, 1013, 38]), (166, .ireturn, 1, 0, 0, 0, [], []), (167, .aload_n 0, 1, 0, 0, 0, [], []), (168, .iconst 2, 1, 0, 0, 2, [], []), (169, .invokevirtual 169, 3, 189, 1, 0, [], [1036, 1038, 51, 1039, 39]), (172, .ireturn, 1, 0, 0, 0, [], []), (173, .aload_n 0, 1, 0, 0, 0, [], []), (174, .getfield 7, 3, 9, 0, 0, [], [751]), (177, .sipush 152, 3, 0, 0, 152, [], []), (180, .iaload, 1, 0, 0, 0, [], []), (181, .ireturn, 1, 0, 0, 0, [], []), (182, .aload_n 0, 1, 0, 0, 0, [], []), (183, .getfield 30, 3, 9, 2, 0, [], [753]), (186, .ireturn, 1, 0, 0, 0, [], []), (187, .aload_n 0, 1, 0, 0, 0, [], []), (188, .getfield 124, 3, 9, 6, 0, [], [757]), (191, .ireturn, 1, 0, 0, 0, [], []), (192, .aload_n 0, 1, 0, 0, 0, [], []), (193, .invokevirtual 172, 3, 190, 0, 0, [], [1040, 1042, 51, 1043, 40]), (196, .ireturn, 1, 0, 0, 0, [], []), (197, .bipush (-2), 2, 0, 0, (-2), [], []), (199, .ireturn, 1, 0, 0, 0, [], [])]
def az_m192 : List az_E := [(0, .fload_n 0, 1, 0, 0, 0, [], []), (1, .fload_n 0, 1, 0, 0, 0, [], []), (2, .fcmp .l, 1, 0, 0, 0, [], []), (3, .ifCond .eq 7, 3, 6, 0, 0, [], []), (6, .iconst 1, 1, 0, 0, 1, [], []), (7, .goto 4, 3, 7, 0, 0, [], []), (10, .iconst 0, 1, 0, 0, 0, [], []), (11, .ireturn, 1, 0, 0, 0, [], [])]
def az_m193 : List az_E := [(0, .fload_n 0, 1, 0, 0, 0, [], []), (1, .invokestatic 59, 3, 192, 1, 0, [], [1022, 1023, 53, 1024]), (4, .ifCond .ne 8, 3, 6, 0, 0, [], []), (7, .fload_n 0, 1, 0, 0, 0, [], []), (8, .invokestatic 74, 3, 197, 1, 3, [], [1025, 1027, 1026, 53]), (11, .ireturn, 1, 0, 0, 0, [], []), (12, .ldc 77, 2, 0, 0, 2143289344, [], [1028]), (14, .ireturn, 1, 0, 0, 0, [], [])]
def az_m194 : List az_E := [(0, .iload_n 0, 1, 0, 0, 0, [], []), (1, .iload_n 0, 1, 0, 0, 0, [], []), (2, .iconst 1, 1, 0, 0, 1, [], []), (3, .iushr, 1, 0, 0, 0, [], []), (4, .ldc_w 265, 3, 0, 0, 1431655765, [], [720]), (7, .iand, 1, 0, 0, 0, [], []), (8, .isub, 1, 0, 0, 0, [], []), (9, .istore_n 0, 1, 0, 0, 0, [], []), (10, .iload_n 0, 1, 0, 0, 0, [], []), (11, .ldc_w 266, 3, 0, 0, 858993459, [], [721]), (14, .iand, 1, 0, 0, 0, [], []), (15, .iload_n 0, 1, 0, 0, 0, [], []), (16, .iconst 2, 1, 0, 0, 2, [], []), (17, .iushr, 1, 0, 0, 0, [], []), (18, .ldc_w 266, 3, 0, 0, 858993459, [], [721]), (21, .iand, 1, 0, 0, 0, [], []), (22, .iadd, 1, 0, 0, 0, [], []), (23, .istore_n 0, 1, 0, 0, 0, [], []), (24, .iload_n 0, 1, 0, 0, 0, [], []), (25, .iload_n 0, 1, 0, 0, 0, [], []), (26, .iconst 4, 1, 0, 0, 4, [], []), (27, .iushr, 1, 0, 0, 0, [], []), (28, .iadd, 1, 0, 0, 0, [], []), (29, .ldc_w 267, 3, 0, 0, 252645135, [], [722]), (32, .iand, 1, 0, 0, 0, [], []), (33, .istore_n 0, 1, 0, 0, 0, [], []), (34, .iload_n 0, 1, 0, 0, 0, [], []), (35, .iload_n 0, 1, 0, 0, 0, [], []), (36, .bipush 8, 2, 0, 0, 8, [], []), (38, .iushr, 1, 0, 0, 0, [], []), (39, .iadd, 1, 0, 0, 0, [], []), (40, .istore_n 0, 1, 0, 0, 0, [], []), (41, .iload_n 0, 1, 0, 0, 0, [], []), (42, .iload_n 0, 1, 0, 0, 0, [], []), (43, .bipush 16, 2, 0, 0, 16, [], []), (45, .iushr, 1, 0, 0, 0, [], []), (46, .iadd, 1, 0, 0, 0, [], []), (47, .istore_n 0, 1, 0, 0, 0, [], []), (48, .iload_n 0, 1, 0, 0, 0, [], []), (49, .bipush 63, 2, 0, 0, 63, [], []), (51, .iand, 1, 0, 0, 0, [], []), (52, .ireturn, 1, 0, 0, 0, [], [])]
def az_m195 : List az_E := [(0, .iload_n 0, 1, 0, 0, 0, [], []), (1, .iload_n 1, 1, 0, 0, 0, [], []), (2, .irem, 1, 0, 0, 0, [], []), (3, .istore_n 2, 1, 0, 0, 0, [], []), (4, .iload_n 0, 1, 0, 0, 0, [], []), (5, .iload_n 1, 1, 0, 0, 0, [], []), (6, .ixor, 1, 0, 0, 0, [], []), (7, .ifCond .ge 11, 3, 14, 0, 0, [], []), (10, .iload_n 2, 1, 0, 0, 0, [], []), (11, .ifCond .eq 7, 3, 14, 0, 0, [], []), (14, .iload_n 2, 1, 0, 0, 0, [], []), (15, .iload_n 1, 1, 0, 0, 0, [], []), (16, .iadd, 1, 0, 0, 0, [], []), (17, .ireturn, 1, 0, 0, 0, [], []), (18, .iload_n 2, 1, 0, 0, 0, [], []), (19, .ireturn, 1, 0, 0, 0, [], [])]
def az_cs : List (List az_E) := [az_m0, az_m1, az_m2, az_m3, az_m4, az_m5, az_m6, az_m7, az_m8, az_m9, az_m10, az_m11, az_m12, az_m13, az_m14, az_m15, az_m16, az_m17, az_m18, az_m19, az_m20, az_m21, az_m22, az_m23, az_m24, az_m25, az_m26, az_m27, az_m28, az_m29, az_m30, az_m31, az_m32, az_m33, az_m34, az_m35, az_m36, az_m37, az_m38, az_m39, az_m40, az_m41, az_m42, az_m43, az_m44, az_m45, az_m46, az_m47, az_m48, az_m49, az_m50, az_m51, az_m52, az_m53, az_m54, az_m55, az_m56, az_m57, az_m58, az_m59, az_m60, az_m61, az_m62, az_m63, az_m64, az_m65, az_m66, az_m67, az_m68, az_m69, az_m70, az_m71, az_m72, az_m73, az_m74, az_m75, az_m76, az_m77, az_m78, az_m79, az_m80, az_m81, az_m82, az_m83, az_m84, az_m85, az_m86, az_m87, az_m88, az_m89, az_m90, az_m91, az_m92, az_m93, az_m94, az_m95, az_m96, az_m97, az_m98, az_m99, az_m100, az_m101, az_m102, az_m103, az_m104, az_m105, az_m106, az_m107, az_m108, az_m109, az_m110, az_m111, az_m112, az_m113, az_m114, az_m115, az_m116, az_m117, az_m118, az_m119, az_m120, az_m121, az_m122, az_m123, az_m124, az_m125, az_m126, az_m127, az_m128, az_m129, az_m130, az_m131, az_m132, az_m133, az_m134, az_m135, az_m136, az_m137, az_m138, az_m139, az_m140, az_m141, az_m142, az_m143, az_m144, az_m145, az_m146, az_m147, az_m148, az_m149, az_m150, az_m151, az_m152, az_m153, az_m154, az_m155, az_m156, az_m157, az_m158, az_m159, az_m160, az_m161, az_m162, az_m163, az_m164, az_m165, az_m166, az_m167, az_m168, az_m169, az_m170, az_m171, az_m172, az_m173, az_m174, az_m175, az_m176, az_m177, az_m178, az_m179, az_m180, az_m181, az_m182, az_m183, az_m184, az_m185, az_m186, az_m187, az_m188, az_m189, az_m190, az_m191, az_m192, az_m193, az_m194, az_m195]
def az_hs : List az_H := [(RL, yL_law, cL_law, 8, some .boolean, 8, 177),
  (RX0, yX0_init, cX0_init, 1, none, 1, 22),
  (RX0, yX0_sealOf, cX0_sealOf, 1, some .int, 0, 0),
  (RX0, yX0_put, cX0_put, 5, none, 1, 20),
  (RX0, yX0_contentOf, cX0_contentOf, 2, some .int, 1, 20),
  (RX0, yX0_sealIn, cX0_sealIn, 2, some .int, 1, 20),
  (RX0, yX0_wearOf, cX0_wearOf, 2, some .int, 1, 20),
  (RX0, yX0_isTorn, cX0_isTorn, 2, some .boolean, 1, 20),
  (RX0, yX0_tornCells, cX0_tornCells, 3, some .int, 2, 41),
  (RX0, yX0_greatestWear, cX0_greatestWear, 3, some .int, 0, 0),
  (RX0, yX0_allWear, cX0_allWear, 3, some .int, 0, 0),
  (RX0, yX0_copyFrom, cX0_copyFrom, 2, none, 1, 22),
  (RX1, yX1_init, cX1_init, 1, none, 1, 22),
  (RX1, yX1_toldOf, cX1_toldOf, 2, some .int, 1, 20),
  (RX1, yX1_tellsOf, cX1_tellsOf, 2, some .boolean, 2, 41),
  (RX1, yX1_tell, cX1_tell, 3, none, 1, 20),
  (RX1, yX1_empty, cX1_empty, 1, none, 1, 22),
  (RX1, yX1_pagesTold, cX1_pagesTold, 3, some .int, 0, 0),
  (RX1, yX1_contents, cX1_contents, 3, some .int, 0, 0),
  (RX1, yX1_pageOfContent, cX1_pageOfContent, 4, some .int, 0, 0),
  (RX1, yX1_copyFrom, cX1_copyFrom, 2, none, 1, 22),
  (RX2, yX2_init, cX2_init, 2, none, 1, 22),
  (RX2, yX2_number, cX2_number, 1, some .int, 0, 0),
  (RX2, yX2_isTorn, cX2_isTorn, 1, some .boolean, 0, 0),
  (RX2, yX2_become, cX2_become, 3, none, 0, 0),
  (RX2, yX2_cellOf, cX2_cellOf, 2, some .int, 1, 20),
  (RX2, yX2_give, cX2_give, 3, none, 1, 20),
  (RX2, yX2_pageWith, cX2_pageWith, 3, some .int, 0, 0),
  (RX2, yX2_pageSet, cX2_pageSet, 3, some .int, 0, 0),
  (RX2, yX2_pages, cX2_pages, 1, some .int, 1, 22),
  (RX2, yX2_copyFrom, cX2_copyFrom, 2, none, 1, 22),
  (RX3, yX3_init, cX3_init, 2, none, 4, 84),
  (RX3, yX3_states, cX3_states, 1, some .int, 0, 0),
  (RX3, yX3_record, cX3_record, 2, none, 4, 86),
  (RX3, yX3_takeLatest, cX3_takeLatest, 2, none, 4, 86),
  (RX4, yX4_init, cX4_init, 1, none, 1, 20),
  (RX4, yX4_length, cX4_length, 1, some .int, 0, 0),
  (RX4, yX4_isFull, cX4_isFull, 1, some .boolean, 0, 0),
  (RX4, yX4_append, cX4_append, 2, none, 0, 0),
  (RX4, yX4_empty, cX4_empty, 1, none, 0, 0),
  (RX4, yX4_entries, cX4_entries, 1, some .int, 0, 0),
  (RX4, yX4_pageOfEntry, cX4_pageOfEntry, 2, some .int, 0, 0),
  (RX4, yX4_toldByEntry, cX4_toldByEntry, 2, some .int, 0, 0),
  (RX4, yX4_scan, cX4_scan, 4, some .int, 2, 44),
  (RX4, yX4_dueBehind, cX4_dueBehind, 3, some .int, 0, 0),
  (RX4, yX4_note, cX4_note, 3, none, 1, 22),
  (RX4, yX4_startEntry, cX4_startEntry, 2, none, 0, 0),
  (RX4, yX4_addDigit, cX4_addDigit, 3, none, 0, 0),
  (RX5, yX5_init, cX5_init, 2, none, 2, 43),
  (RX5, yX5_has, cX5_has, 2, some .boolean, 0, 0),
  (RX5, yX5_lowestFree, cX5_lowestFree, 2, some .int, 0, 0),
  (RX5, yX5_howMany, cX5_howMany, 3, some .int, 0, 0),
  (RX5, yX5_howManyWith, cX5_howManyWith, 4, some .int, 1, 22),
  (RX5, yX5_admit, cX5_admit, 3, none, 2, 43),
  (RX5, yX5_dismiss, cX5_dismiss, 2, none, 0, 0),
  (RX5, yX5_dismissAll, cX5_dismissAll, 2, none, 0, 0),
  (RX5, yX5_numberOf, cX5_numberOf, 2, some .int, 1, 21),
  (RX5, yX5_cellOf, cX5_cellOf, 3, some .int, 2, 41),
  (RX5, yX5_copyFrom, cX5_copyFrom, 3, none, 2, 43),
  (RX6, yX6_init, cX6_init, 1, none, 3, 64),
  (RX6, yX6_mark, cX6_mark, 1, some .int, 0, 0),
  (RX6, yX6_crashes, cX6_crashes, 1, some .int, 0, 0),
  (RX6, yX6_swaps, cX6_swaps, 1, some .int, 0, 0),
  (RX6, yX6_tableAt, cX6_tableAt, 2, some (.object "SwappedTables$Generation"), 0, 0),
  (RX6, yX6_oldGeneration, cX6_oldGeneration, 1, some (.object "SwappedTables$Generation"), 1, 21),
  (RX6, yX6_contentByOld, cX6_contentByOld, 2, some .int, 2, 41),
  (RX6, yX6_contentByDesk, cX6_contentByDesk, 2, some .int, 3, 62),
  (RX6, yX6_isFree, cX6_isFree, 2, some .boolean, 2, 45),
  (RX6, yX6_freeCells, cX6_freeCells, 3, some .int, 3, 66),
  (RX6, yX6_cellsOfReadersOnly, cX6_cellsOfReadersOnly, 3, some .int, 2, 45),
  (RX6, yX6_cellToWrite, cX6_cellToWrite, 3, some .int, 3, 66),
  (RX6, yX6_stepsOwed, cX6_stepsOwed, 1, some .int, 1, 22),
  (RX6, yX6_cellsOwed, cX6_cellsOwed, 2, some .int, 2, 42),
  (RX6, yX6_kindOwedAt, cX6_kindOwedAt, 2, some .int, 3, 63),
  (RX6, yX6_pageOwedAt, cX6_pageOwedAt, 2, some .int, 4, 84),
  (RX6, yX6_canGoOn, cX6_canGoOn, 1, some .boolean, 4, 88),
  (RX6, yX6_goOn, cX6_goOn, 1, none, 5, 110),
  (RX6, yX6_writeOwedCell, cX6_writeOwedCell, 3, none, 4, 88),
  (RX6, yX6_writeNewTable, cX6_writeNewTable, 5, none, 3, 62),
  (RX6, yX6_setMark, cX6_setMark, 1, none, 2, 42),
  (RX6, yX6_tearNextStep, cX6_tearNextStep, 3, none, 4, 88),
  (RX6, yX6_loseWhatCrashesLose, cX6_loseWhatCrashesLose, 1, none, 2, 42),
  (RX6, yX6_copyFrom, cX6_copyFrom, 2, none, 3, 65),
  (RX7, yX7_init, cX7_init, 1, none, 1, 22),
  (RX7, yX7_goesOn, cX7_goesOn, 1, some .boolean, 0, 0),
  (RX7, yX7_stepsDone, cX7_stepsDone, 1, some .int, 0, 0),
  (RX7, yX7_start, cX7_start, 1, none, 0, 0),
  (RX7, yX7_end, cX7_end, 1, none, 1, 22),
  (RX7, yX7_countStep, cX7_countStep, 1, none, 0, 0),
  (RX7, yX7_noteWritten, cX7_noteWritten, 3, none, 1, 20),
  (RX7, yX7_cellWrittenFor, cX7_cellWrittenFor, 2, some .int, 1, 20),
  (RX7, yX7_pageWrittenTo, cX7_pageWrittenTo, 3, some .int, 0, 0),
  (RX7, yX7_copyFrom, cX7_copyFrom, 2, none, 1, 22),
  (RX8, yX8_init, cX8_init, 1, none, 5, 105),
  (RX8, yX8_write, cX8_write, 3, some .int, 6, 129),
  (RX8, yX8_drop, cX8_drop, 2, some .int, 6, 129),
  (RX8, yX8_tellDesk, cX8_tellDesk, 3, some .int, 5, 107),
  (RX8, yX8_writeAll, cX8_writeAll, 4, some .int, 5, 107),
  (RX8, yX8_clear, cX8_clear, 2, some .int, 5, 107),
  (RX8, yX8_begin, cX8_begin, 1, some .int, 5, 107),
  (RX8, yX8_step, cX8_step, 1, some .int, 6, 130),
  (RX8, yX8_finish, cX8_finish, 3, some .int, 6, 130),
  (RX8, yX8_giveUp, cX8_giveUp, 2, some .int, 5, 107),
  (RX8, yX8_crash, cX8_crash, 2, some .int, 5, 110),
  (RX8, yX8_open, cX8_open, 2, some .int, 5, 107),
  (RX8, yX8_close, cX8_close, 2, some .int, 5, 107),
  (RX8, yX8_type, cX8_type, 2, some .int, 1, 21),
  (RX8, yX8_clearText, cX8_clearText, 2, some .int, 1, 20),
  (RX8, yX8_undo, cX8_undo, 1, some .int, 5, 107),
  (RX8, yX8_keep, cX8_keep, 1, some .int, 4, 86),
  (RX8, yX8_restore, cX8_restore, 1, some .int, 5, 107),
  (RX8, yX8_read, cX8_read, 2, some .int, 3, 62),
  (RX8, yX8_readDesk, cX8_readDesk, 2, some .int, 4, 83),
  (RX8, yX8_readBy, cX8_readBy, 3, some .int, 3, 63),
  (RX8, yX8_cell, cX8_cell, 3, some .int, 3, 66),
  (RX8, yX8_table, cX8_table, 4, some .int, 2, 41),
  (RX8, yX8_owed, cX8_owed, 3, some .int, 5, 105),
  (RX8, yX8_reader, cX8_reader, 2, some .int, 2, 42),
  (RX8, yX8_unevenness, cX8_unevenness, 1, some .double, 1, 22),
  (RX8, yX8_unevennessBits, cX8_unevennessBits, 1, some .int, 2, 42),
  (RX8, yX8_count, cX8_count, 2, some .int, 4, 88),
  (RX8, yX8_isPage, cX8_isPage, 1, some .boolean, 0, 0),
  (RX8, yX8_isCell, cX8_isCell, 1, some .boolean, 0, 0),
  (RX8, yX8_asNumber, cX8_asNumber, 1, some .int, 0, 0),
  (RX8, yX8_fillInts, cX8_fillInts, 3, none, 0, 0),
  (RX8, yX8_copyInts, cX8_copyInts, 3, none, 0, 0),
  (RX8, yX8_bitsOf, cX8_bitsOf, 4, some .int, 0, 0),
  (RX9, yX9_init, cX9_init, 2, none, 1, 20),
  (RX9, yX9_in, cX9_in, 3, some .boolean, 0, 0),
  (RX9, yX9_isPage, cX9_isPage, 1, some .boolean, 1, 22),
  (RX9, yX9_lays, cX9_lays, 5, none, 0, 0),
  (RX9, yX9_records, cX9_records, 2, none, 1, 24),
  (RX9, yX9_sealOf, cX9_sealOf, 1, some .int, 0, 0),
  (RX9, yX9_old, cX9_old, 2, some .int, 0, 0),
  (RX9, yX9_isReader, cX9_isReader, 2, some .boolean, 1, 22),
  (RX9, yX9_pageOld, cX9_pageOld, 4, some .int, 1, 21),
  (RX9, yX9_hasIt, cX9_hasIt, 5, some .boolean, 2, 43),
  (RX9, yX9_readersOf, cX9_readersOf, 4, some .int, 3, 67),
  (RX9, yX9_pageWritten, cX9_pageWritten, 4, some .int, 0, 0),
  (RX9, yX9_isFree, cX9_isFree, 2, some .boolean, 4, 90),
  (RX9, yX9_isTorn, cX9_isTorn, 2, some .boolean, 1, 20),
  (RX9, yX9_nextFree, cX9_nextFree, 3, some .int, 5, 111),
  (RX9, yX9_writes, cX9_writes, 4, none, 1, 20),
  (RX9, yX9_told, cX9_told, 3, some .int, 0, 0),
  (RX9, yX9_clearsDesk, cX9_clearsDesk, 2, none, 0, 0),
  (RX9, yX9_becomes, cX9_becomes, 3, some .int, 2, 45),
  (RX9, yX9_write, cX9_write, 3, some .int, 3, 67),
  (RX9, yX9_drop, cX9_drop, 2, some .int, 3, 67),
  (RX9, yX9_writeAll, cX9_writeAll, 3, some .int, 5, 108),
  (RX9, yX9_clear, cX9_clear, 2, some .int, 2, 45),
  (RX9, yX9_contents, cX9_contents, 3, some .int, 0, 0),
  (RX9, yX9_owes, cX9_owes, 1, some .int, 1, 22),
  (RX9, yX9_pageOf, cX9_pageOf, 4, some .int, 0, 0),
  (RX9, yX9_endsSwap, cX9_endsSwap, 2, none, 0, 0),
  (RX9, yX9_writesTable, cX9_writesTable, 5, none, 1, 21),
  (RX9, yX9_canStep, cX9_canStep, 1, some .boolean, 6, 133),
  (RX9, yX9_steps, cX9_steps, 3, none, 6, 133),
  (RX9, yX9_begin, cX9_begin, 1, some .int, 2, 45),
  (RX9, yX9_step, cX9_step, 1, some .int, 7, 155),
  (RX9, yX9_finish, cX9_finish, 1, some .int, 7, 155),
  (RX9, yX9_giveUp, cX9_giveUp, 2, some .int, 2, 45),
  (RX9, yX9_tears, cX9_tears, 3, none, 6, 133),
  (RX9, yX9_crash, cX9_crash, 3, some .int, 7, 155),
  (RX9, yX9_readers, cX9_readers, 3, some .int, 2, 43),
  (RX9, yX9_open, cX9_open, 4, some .int, 3, 65),
  (RX9, yX9_close, cX9_close, 3, some .int, 3, 65),
  (RX9, yX9_type, cX9_type, 2, some .int, 0, 0),
  (RX9, yX9_clearText, cX9_clearText, 2, some .int, 0, 0),
  (RX9, yX9_sees, cX9_sees, 3, some .boolean, 1, 22),
  (RX9, yX9_takes, cX9_takes, 3, some .boolean, 2, 44),
  (RX9, yX9_isEntry, cX9_isEntry, 2, some .boolean, 3, 66),
  (RX9, yX9_fault, cX9_fault, 2, some .int, 4, 87),
  (RX9, yX9_undo, cX9_undo, 1, some .int, 1, 24),
  (RX9, yX9_keep, cX9_keep, 1, some .int, 1, 24),
  (RX9, yX9_restore, cX9_restore, 1, some .int, 2, 45),
  (RX9, yX9_contentOf, cX9_contentOf, 2, some .int, 0, 0),
  (RX9, yX9_read, cX9_read, 2, some .int, 2, 42),
  (RX9, yX9_readDesk, cX9_readDesk, 3, some .int, 2, 42),
  (RX9, yX9_readBy, cX9_readBy, 3, some .int, 2, 43),
  (RX9, yX9_cell, cX9_cell, 3, some .int, 5, 111),
  (RX9, yX9_pagesOf, cX9_pagesOf, 4, some .int, 0, 0),
  (RX9, yX9_table, cX9_table, 3, some .int, 1, 23),
  (RX9, yX9_owed, cX9_owed, 4, some .int, 2, 42),
  (RX9, yX9_reader, cX9_reader, 2, some .int, 2, 43),
  (RX9, yX9_allWear, cX9_allWear, 3, some .int, 0, 0),
  (RX9, yX9_greatestWear, cX9_greatestWear, 3, some .int, 0, 0),
  (RX9, yX9_unevenness, cX9_unevenness, 1, some .double, 1, 22),
  (RX9, yX9_unevennessBits, cX9_unevennessBits, 1, some .int, 2, 43),
  (RX9, yX9_ones, cX9_ones, 3, some .int, 0, 0),
  (RX9, yX9_cellsThat, cX9_cellsThat, 6, some .int, 5, 111),
  (RX9, yX9_owedCells, cX9_owedCells, 3, some .int, 2, 42),
  (RX9, yX9_count, cX9_count, 2, some .int, 6, 136),
  (RJxf58ca, yJxf58ca_isNaN_12338, cJxf58ca_isNaN_12338, 1, some .boolean, 0, 0),
  (RJxf58ca, yJxf58ca_floatToIntBits_5c35a, cJxf58ca_floatToIntBits_5c35a, 1, some .int, 1, 23),
  (RJ6, yJ6_bitCount_0f7a4, cJ6_bitCount_0f7a4, 1, some .int, 0, 0),
  (RJ9, yJ9_floorMod_7cf53, cJ9_floorMod_7cf53, 3, some .int, 0, 0)]
def az_cd (M i : Nat) : Option az_E := match az_cs[M]? with | some l => l[i]? | none => none
end
section
/-! THE ABSTRACT MACHINE: a step over worlds that are functions from numbers to cells; 'az_Ev' is the least predicate that is closed under its steps -/
abbrev az_W : Type := Nat → va_E
abbrev az_R : Type := Option Value × az_W × Nat × Nat
abbrev az_X : Type := Nat × (Nat → Int32)
def az_dead : va_E := .inr (99, [])
def az_isI : Value → Bool
  | .int _ => true
  | _ => false
def az_isF : Value → Bool
  | .float _ => true
  | _ => false
def az_isA : Value → Bool
  | .ref _ => true
  | .retAddr _ => true
  | _ => false
def az_is1 : Value → Bool
  | .int _ => true
  | .ref _ => true
  | .retAddr _ => true
  | _ => false
def az_nd (i : Nat) (L : List Value) : Bool := match i with
  | 0 => true
  | j + 1 => match L[j]? with
    | some (.double _) => false
    | some (.long _) => false
    | _ => true
def az_ld (ok : Value → Bool) (i : Nat) (L st : List Value) : Option (List Value × List Value) := match L[i]? with
  | some v => if ok v = true then some (L, v :: st) else none
  | none => none
def az_ldD (i : Nat) (L st : List Value) : Option (List Value × List Value) := match L[i]? with
  | some (.double x) => some (L, .double x :: st)
  | _ => none
def az_s1 (ok : Value → Bool) (i : Nat) (L st : List Value) : Option (List Value × List Value) := match st with
  | v :: r => if ok v = true ∧ az_nd i L = true ∧ i < L.length then some (L.set i v, r) else none
  | [] => none
def az_s2 (i : Nat) (L st : List Value) : Option (List Value × List Value) := match st with
  | .double x :: r => if az_nd i L = true ∧ i + 1 < L.length then some ((L.set i (.double x)).set (i + 1) .null, r) else none
  | _ => none
def az_inc (i : Nat) (v : Int32) (L st : List Value) : Option (List Value × List Value) := match L[i]? with
  | some (.int x) => if az_nd i L = true ∧ i < L.length then some (L.set i (.int (x + v)), st) else none
  | _ => none
def az_i2 (f : Int32 → Int32 → Int32) (L st : List Value) : Option (List Value × List Value) := match st with
  | .int y :: .int x :: r => some (L, .int (f x y) :: r)
  | _ => none
def az_rem (L st : List Value) : Option (List Value × List Value) := match st with
  | .int y :: .int x :: r => if y = 0 then none else some (L, .int (x - x / y * y) :: r)
  | _ => none
def az_i1 (f : Int32 → Value) (L st : List Value) : Option (List Value × List Value) := match st with
  | .int x :: r => some (L, f x :: r)
  | _ => none
def az_f1 (f : UInt32 → Value) (L st : List Value) : Option (List Value × List Value) := match st with
  | .float x :: r => some (L, f x :: r)
  | _ => none
def az_f2 (f : UInt32 → UInt32 → UInt32) (L st : List Value) : Option (List Value × List Value) := match st with
  | .float y :: .float x :: r => if f x y &&& 0x7fffffff ≤ 0x7f800000 then some (L, .float (f x y) :: r) else none
  | _ => none
def az_fc (f : UInt32 → UInt32 → Int32) (L st : List Value) : Option (List Value × List Value) := match st with
  | .float y :: .float x :: r => some (L, .int (f x y) :: r)
  | _ => none
def az_d2 (f : UInt64 → UInt64 → UInt64) (L st : List Value) : Option (List Value × List Value) := match st with
  | .double y :: .double x :: r => if f x y &&& 0x7fffffffffffffff ≤ 0x7ff0000000000000 then some (L, .double (f x y) :: r) else none
  | _ => none
def az_dc (f : UInt64 → UInt64 → Int32) (L st : List Value) : Option (List Value × List Value) := match st with
  | .double y :: .double x :: r => some (L, .int (f x y) :: r)
  | _ => none
def az_df (L st : List Value) : Option (List Value × List Value) := match st with
  | .double x :: r => if FP.d2f x &&& 0x7fffffff ≤ 0x7f800000 then some (L, .float (FP.d2f x) :: r) else none
  | _ => none
def az_dup (L st : List Value) : Option (List Value × List Value) := match st with
  | v :: r => if az_is1 v = true then some (L, v :: v :: r) else none
  | _ => none
def az_dup2 (L st : List Value) : Option (List Value × List Value) := match st with
  | a :: b :: r => if az_is1 a = true ∧ az_is1 b = true then some (L, a :: b :: a :: b :: r) else none
  | _ => none
/-- the steps that touch locals and stack alone -/
def az_pu (ins : Instr) (t u : Nat) (v : Int32) (L st : List Value) : Option (List Value × List Value) := match ins with
  | .iconst _ => some (L, .int v :: st)
  | .bipush _ => some (L, .int v :: st)
  | .sipush _ => some (L, .int v :: st)
  | .ldc _ => if u = 0 then some (L, .int v :: st) else if u = 1 then some (L, .float (UInt32.ofNat t) :: st) else none
  | .ldc_w _ => if u = 0 then some (L, .int v :: st) else if u = 1 then some (L, .float (UInt32.ofNat t) :: st) else none
  | .ldc2_w _ => if u = 2 then some (L, .double (UInt64.ofNat t) :: st) else none
  | .fconst k => some (L, .float (if k = 0 then 0 else if k = 1 then 0x3f800000 else 0x40000000) :: st)
  | .iload_n k => az_ld az_isI k L st
  | .iload k => az_ld az_isI k L st
  | .aload_n k => az_ld az_isA k L st
  | .aload k => az_ld az_isA k L st
  | .fload_n k => az_ld az_isF k L st
  | .fload k => az_ld az_isF k L st
  | .dload_n k => az_ldD k L st
  | .dload k => az_ldD k L st
  | .istore_n k => az_s1 az_isI k L st
  | .istore k => az_s1 az_isI k L st
  | .astore_n k => az_s1 az_isA k L st
  | .astore k => az_s1 az_isA k L st
  | .fstore_n k => az_s1 az_isF k L st
  | .fstore k => az_s1 az_isF k L st
  | .dstore_n k => az_s2 k L st
  | .dstore k => az_s2 k L st
  | .iinc k _ => az_inc k v L st
  | .iadd => az_i2 (fun x y => x + y) L st
  | .isub => az_i2 (fun x y => x - y) L st
  | .imul => az_i2 (fun x y => x * y) L st
  | .iand => az_i2 (fun x y => x &&& y) L st
  | .ior => az_i2 (fun x y => x ||| y) L st
  | .ixor => az_i2 (fun x y => x ^^^ y) L st
  | .ishl => az_i2 (fun x y => x <<< (y &&& 31)) L st
  | .ishr => az_i2 (fun x y => x >>> (y &&& 31)) L st
  | .iushr => az_i2 (fun x y => (x.toUInt32 >>> (y.toUInt32 &&& Int32.toUInt32 31)).toInt32) L st
  | .irem => az_rem L st
  | .i2c => az_i1 (fun x => .int (x.toUInt32 % 65536).toInt32) L st
  | .i2d => az_i1 (fun x => .double (FP.i2d x)) L st
  | .f2i => az_f1 (fun x => .int (FP.f2i x)) L st
  | .d2f => az_df L st
  | .fadd => none
  | .fsub => az_f2 (fun x y => FP.fsub x y) L st
  | .fmul => az_f2 (fun x y => FP.fmul x y) L st
  | .fdiv => az_f2 (fun x y => FP.fdiv x y) L st
  | .dsub => az_d2 (fun x y => FP.dsub x y) L st
  | .ddiv => az_d2 (fun x y => FP.ddiv x y) L st
  | .fcmp op => az_fc (fun x y => Op.cmpValue (FP.fcmp x y) op) L st
  | .dcmp op => az_dc (fun x y => Op.cmpValue (FP.dcmp x y) op) L st
  | .dup => az_dup L st
  | .dup2 => az_dup2 L st
  | _ => none
def az_b1 (f : Int32 → Bool) (st : List Value) : Option (Bool × List Value) := match st with
  | .int x :: r => some (f x, r)
  | _ => none
def az_b2 (f : Int32 → Int32 → Bool) (st : List Value) : Option (Bool × List Value) := match st with
  | .int y :: .int x :: r => some (f x y, r)
  | _ => none
/-- the steps that branch in two -/
def az_br (ins : Instr) (st : List Value) : Option (Bool × List Value) := match ins with
  | .goto _ => some (true, st)
  | .ifCond .eq _ => az_b1 (fun x => decide (x = 0)) st
  | .ifCond .ne _ => az_b1 (fun x => decide (¬ x = 0)) st
  | .ifCond .lt _ => az_b1 (fun x => decide (x < 0)) st
  | .ifCond .ge _ => az_b1 (fun x => decide (0 ≤ x)) st
  | .ifCond .gt _ => az_b1 (fun x => decide (0 < x)) st
  | .ifCond .le _ => az_b1 (fun x => decide (x ≤ 0)) st
  | .if_icmp .eq _ => az_b2 (fun x y => decide (x = y)) st
  | .if_icmp .ne _ => az_b2 (fun x y => decide (¬ x = y)) st
  | .if_icmp .lt _ => az_b2 (fun x y => decide (x < y)) st
  | .if_icmp .ge _ => az_b2 (fun x y => decide (y ≤ x)) st
  | .if_icmp .gt _ => az_b2 (fun x y => decide (y < x)) st
  | .if_icmp .le _ => az_b2 (fun x y => decide (x ≤ y)) st
  | _ => none
def az_lk : List (Int × Int) → List Nat → Int → Nat → Nat
  | p :: ps, k :: ks, x, t => if x = p.1 then k else az_lk ps ks x t
  | _, _, _, t => t
/-- the steps that branch by a table -/
def az_sw (ins : Instr) (t : Nat) (ts : List Nat) (st : List Value) : Option (Nat × List Value) := match ins, st with
  | .tableswitch _ lo hi _, .int x :: r => if x.toInt < lo ∨ hi < x.toInt then some (t, r) else match ts[(x.toInt - lo).toNat]? with
    | some k => some (k, r)
    | none => none
  | .lookupswitch _ ps, .int x :: r => some (az_lk ps.toList ts x.toInt t, r)
  | _, _ => none
def az_al (ins : Instr) : Option Nat := match ins with
  | .iaload => some 0
  | .caload => some 1
  | .baload => some 2
  | _ => none
def az_as (ins : Instr) : Option Nat := match ins with
  | .iastore => some 0
  | .castore => some 1
  | .bastore => some 2
  | _ => none
def az_nr (k : Nat) (x : Int32) : Int32 := if k = 0 then x else if k = 1 then vp_nar .char x else vp_nar .boolean x
/-- the end of a method: what its return answers -/
def az_rt (ret : Option FieldType) (ins : Instr) (st : List Value) : Option (Option Value) := match ins, ret, st with
  | .ireturn, some .int, [.int v] => some (some (.int v))
  | .ireturn, some .boolean, [.int v] => if v = 0 ∨ v = 1 then some (some (.int v)) else none
  | .areturn, some (.object _), [.ref a] => some (some (.ref a))
  | .dreturn, some .double, [.double x] => some (some (.double x))
  | .return_, none, [] => some none
  | _, _, _ => none
def az_tyl : List (Nat → FieldType) := [tyX0, tyX1, tyX2, tyX3, tyX4, tyX5, tyX6, tyX7, tyX8, tyX9]
def az_ty (ci k : Nat) : FieldType := match az_tyl[ci]? with
  | some f => f k
  | none => .int
/-- what a new object's fields hold -/
def az_dv (ci n : Nat) : List Value := (List.range n).map (fun k => defaultValue (az_ty ci k))
def az_fit (ty : FieldType) (x : Value) : Bool := fits ty x && decide (narrow ty x = x)
def az_c8 (rest : List Value) : Bool := decide ((rest.map fun v => v.category).sum ≤ 8)
/-- an argument of a call: of one word -/
def az_a1 : Value → Bool
  | .int _ => true
  | .float _ => true
  | .ref _ => true
  | _ => false
def az_L0 (As : List Value) (n : Nat) : List Value := As ++ List.replicate (n - As.length) .null
def az_cl (ci : Nat) (h : az_H) : Bool := match vwCl[ci]? with
  | some q => decide (q.1 = h.2.1.cls)
  | none => false
abbrev az_Q : Type := Nat → Nat → List Value → List Value → az_W → Nat → Nat → az_R → Prop
/-- a call: what is popped, whom it calls -/
def az_ca (ins : Instr) (v : Int32) (h : az_H) (w : az_W) (st : List Value) (u : Nat) (args rest : List Value) : Prop :=
  (∃ (idx : Nat) (As : List Value) (b ci : Nat) (fs : List Value), ins = .invokevirtual idx ∧ As.length = u ∧ st = As.reverse ++ .ref b :: rest ∧ w b = .inr (ci, fs) ∧ az_cl ci h = true ∧ args = .ref b :: As) ∨
  (∃ (idx : Nat) (As : List Value) (b : Nat), ins = .invokespecial idx ∧ As.length = u ∧ st = As.reverse ++ .ref b :: rest ∧ args = .ref b :: As) ∨
  (∃ (idx : Nat), ins = .invokestatic idx ∧ args.length = u ∧ st = args.reverse ++ rest)
def az_st (X : az_X) (P : az_Q) (M i : Nat) (L st : List Value) (w : az_W) (sz sl : Nat) (res : az_R) : Prop :=
  ∃ (pc : Nat) (ins : Instr) (ln t u : Nat) (v : Int32) (ts js : List Nat), az_cd M i = some (pc, ins, ln, t, u, v, ts, js) ∧
  ((∃ L' st', az_pu ins t u v L st = some (L', st') ∧ P M (i + 1) L' st' w sz sl res)
  ∨ (∃ q r, az_br ins st = some (q, r) ∧ (q = true → P M t L r w sz sl res) ∧ (q = false → P M (i + 1) L r w sz sl res))
  ∨ (∃ k r, az_sw ins t ts st = some (k, r) ∧ P M k L r w sz sl res)
  ∨ (∃ idx a r fs x, ins = .getfield idx ∧ st = .ref a :: r ∧ w a = .inr (t, fs) ∧ fs[u]? = some x ∧ P M (i + 1) L (x :: r) w sz sl res)
  ∨ (∃ idx a r fs x, ins = .putfield idx ∧ st = x :: .ref a :: r ∧ w a = .inr (t, fs) ∧ u < fs.length ∧ az_fit (az_ty t u) x = true ∧ P M (i + 1) L r (va_up w a (.inr (t, fs.set u x))) sz sl res)
  ∨ (∃ j q r, ins = .iaload ∧ st = .int j :: .retAddr q :: r ∧ M = 0 ∧ vp_in j X.1 ∧ P M (i + 1) L (.int (X.2 j.toNatClampNeg) :: r) w sz sl res)
  ∨ (∃ q r, ins = .arraylength ∧ st = .retAddr q :: r ∧ M = 0 ∧ P M (i + 1) L (.int (nI X.1) :: r) w sz sl res)
  ∨ (∃ j a r k n f, az_al ins = some k ∧ st = .int j :: .ref a :: r ∧ w a = .inl (k, n, .inl f) ∧ vp_in j n ∧ P M (i + 1) L (.int (f j.toNatClampNeg) :: r) w sz sl res)
  ∨ (∃ x j a r k n f, az_as ins = some k ∧ st = .int x :: .int j :: .ref a :: r ∧ w a = .inl (k, n, .inl f) ∧ vp_in j n ∧ P M (i + 1) L r (va_up w a (.inl (k, n, .inl (upd f j.toNatClampNeg (az_nr k x))))) sz sl res)
  ∨ (∃ j a r k n f y, ins = .aaload ∧ st = .int j :: .ref a :: r ∧ w a = .inl (k, n, .inr (.inr (.inr (.inr f)))) ∧ (k = 3 ∨ k = 4) ∧ vp_in j n ∧ f j.toNatClampNeg = some y ∧ P M (i + 1) L (.ref y :: r) w sz sl res)
  ∨ (∃ y j a r k n f ci fs, ins = .aastore ∧ st = .ref y :: .int j :: .ref a :: r ∧ w a = .inl (k, n, .inr (.inr (.inr (.inr f)))) ∧ w y = .inr (ci, fs) ∧ ((k = 3 ∧ ci = 2) ∨ (k = 4 ∧ ci = 6)) ∧ vp_in j n ∧ P M (i + 1) L r (va_up w a (.inl (k, n, .inr (.inr (.inr (.inr (va_up f j.toNatClampNeg (some y)))))))) sz sl res)
  ∨ (∃ a r k n A, ins = .arraylength ∧ st = .ref a :: r ∧ w a = .inl (k, n, A) ∧ k < 5 ∧ P M (i + 1) L (.int (nI n) :: r) w sz sl res)
  ∨ (∃ idx, ins = .new idx ∧ P M (i + 1) L (.ref sz :: st) (va_up w sz (.inr (t, az_dv t u))) (sz + 1) (sl + u) res)
  ∨ (∃ ty n r, ins = .newarray ty ∧ st = .int n :: r ∧ vp_in n 1000 ∧ P M (i + 1) L (.ref sz :: r) (va_up w sz (.inl (u, n.toNatClampNeg, .inl (fun _ => 0)))) (sz + 1) (sl + n.toNatClampNeg) res)
  ∨ (∃ idx n r, ins = .anewarray idx ∧ st = .int n :: r ∧ vp_in n 1000 ∧ P M (i + 1) L (.ref sz :: r) (va_up w sz (.inl (u, n.toNatClampNeg, .inr (.inr (.inr (.inr (fun _ => none))))))) (sz + 1) (sl + n.toNatClampNeg) res)
  ∨ (∃ h args rest r w1 sz1 sl1, az_hs[t]? = some h ∧ (v = 0 ∨ v = 1) ∧ az_ca ins v h w st u args rest ∧ args.all az_a1 = true ∧ az_c8 rest = true ∧ P t 0 (az_L0 args h.2.2.2.1) [] w sz sl (r, w1, sz1, sl1) ∧ P M (i + 1) L (r.toList ++ rest) w1 sz1 sl1 res)
  ∨ (∃ idx a rest, ins = .invokespecial idx ∧ v = 2 ∧ st = .ref a :: rest ∧ az_c8 rest = true ∧ P M (i + 1) L rest w sz sl res)
  ∨ (∃ idx b rest, ins = .invokestatic idx ∧ v = 3 ∧ st = .float b :: rest ∧ az_c8 rest = true ∧ P M (i + 1) L (.int b.toInt32 :: rest) w sz sl res)
  ∨ (∃ h rv, az_hs[M]? = some h ∧ az_rt h.2.2.2.2.1 ins st = some rv ∧ res = (rv, w, sz, sl)))
/-- monotone -/
theorem az_st.mono {X : az_X} {P Q : az_Q} (hPQ : ∀ M i L st w sz sl res, P M i L st w sz sl res → Q M i L st w sz sl res) {M i : Nat} {L st : List Value} {w : az_W} {sz sl : Nat} {res : az_R} (h : az_st X P M i L st w sz sl res) : az_st X Q M i L st w sz sl res := by
  obtain ⟨pc, ins, ln, t, u, v, ts, js, hc, h⟩ := h
  refine ⟨pc, ins, ln, t, u, v, ts, js, hc, ?_⟩
  rcases h with ⟨a1, a2, h1, h2⟩ | ⟨a1, a2, h1, h2, h3⟩ | ⟨a1, a2, h1, h2⟩ | ⟨a1, a2, a3, a4, a5, h1, h2, h3, h4, h5⟩ | ⟨a1, a2, a3, a4, a5, h1, h2, h3, h4, h5, h6⟩ | ⟨a1, a2, a3, h1, h2, h3, h4, h5⟩ | ⟨a1, a2, h1, h2, h3, h4⟩ | ⟨a1, a2, a3, a4, a5, a6, h1, h2, h3, h4, h5⟩ | ⟨a1, a2, a3, a4, a5, a6, a7, h1, h2, h3, h4, h5⟩ | ⟨a1, a2, a3, a4, a5, a6, a7, h1, h2, h3, h4, h5, h6, h7⟩ | ⟨a1, a2, a3, a4, a5, a6, a7, a8, a9, h1, h2, h3, h4, h5, h6, h7⟩ | ⟨a1, a2, a3, a4, a5, h1, h2, h3, h4, h5⟩ | ⟨a1, h1, h2⟩ | ⟨a1, a2, a3, h1, h2, h3, h4⟩ | ⟨a1, a2, a3, h1, h2, h3, h4⟩ | ⟨a1, a2, a3, a4, a5, a6, a7, h1, h2, h3, h4, h5, h6, h7⟩ | ⟨a1, a2, a3, h1, h2, h3, h4, h5⟩ | ⟨a1, a2, a3, h1, h2, h3, h4, h5⟩ | ⟨a1, a2, h1, h2, h3⟩
  · exact Or.inl ⟨a1, a2, h1, hPQ _ _ _ _ _ _ _ _ h2⟩
  · exact Or.inr (Or.inl ⟨a1, a2, h1, fun q => hPQ _ _ _ _ _ _ _ _ (h2 q), fun q => hPQ _ _ _ _ _ _ _ _ (h3 q)⟩)
  · exact Or.inr (Or.inr (Or.inl ⟨a1, a2, h1, hPQ _ _ _ _ _ _ _ _ h2⟩))
  · exact Or.inr (Or.inr (Or.inr (Or.inl ⟨a1, a2, a3, a4, a5, h1, h2, h3, h4, hPQ _ _ _ _ _ _ _ _ h5⟩)))
  · exact Or.inr (Or.inr (Or.inr (Or.inr (Or.inl ⟨a1, a2, a3, a4, a5, h1, h2, h3, h4, h5, hPQ _ _ _ _ _ _ _ _ h6⟩))))
  · exact Or.inr (Or.inr (Or.inr (Or.inr (Or.inr (Or.inl ⟨a1, a2, a3, h1, h2, h3, h4, hPQ _ _ _ _ _ _ _ _ h5⟩)))))
  · exact Or.inr (Or.inr (Or.inr (Or.inr (Or.inr (Or.inr (Or.inl ⟨a1, a2, h1, h2, h3, hPQ _ _ _ _ _ _ _ _ h4⟩))))))
  · exact Or.inr (Or.inr (Or.inr (Or.inr (Or.inr (Or.inr (Or.inr (Or.inl ⟨a1, a2, a3, a4, a5, a6, h1, h2, h3, h4, hPQ _ _ _ _ _ _ _ _ h5⟩)))))))
  · exact Or.inr (Or.inr (Or.inr (Or.inr (Or.inr (Or.inr (Or.inr (Or.inr (Or.inl ⟨a1, a2, a3, a4, a5, a6, a7, h1, h2, h3, h4, hPQ _ _ _ _ _ _ _ _ h5⟩))))))))
  · exact Or.inr (Or.inr (Or.inr (Or.inr (Or.inr (Or.inr (Or.inr (Or.inr (Or.inr (Or.inl ⟨a1, a2, a3, a4, a5, a6, a7, h1, h2, h3, h4, h5, h6, hPQ _ _ _ _ _ _ _ _ h7⟩)))))))))
  · exact Or.inr (Or.inr (Or.inr (Or.inr (Or.inr (Or.inr (Or.inr (Or.inr (Or.inr (Or.inr (Or.inl ⟨a1, a2, a3, a4, a5, a6, a7, a8, a9, h1, h2, h3, h4, h5, h6, hPQ _ _ _ _ _ _ _ _ h7⟩))))))))))
  · exact Or.inr (Or.inr (Or.inr (Or.inr (Or.inr (Or.inr (Or.inr (Or.inr (Or.inr (Or.inr (Or.inr (Or.inl ⟨a1, a2, a3, a4, a5, h1, h2, h3, h4, hPQ _ _ _ _ _ _ _ _ h5⟩)))))))))))
  · exact Or.inr (Or.inr (Or.inr (Or.inr (Or.inr (Or.inr (Or.inr (Or.inr (Or.inr (Or.inr (Or.inr (Or.inr (Or.inl ⟨a1, h1, hPQ _ _ _ _ _ _ _ _ h2⟩))))))))))))
  · exact Or.inr (Or.inr (Or.inr (Or.inr (Or.inr (Or.inr (Or.inr (Or.inr (Or.inr (Or.inr (Or.inr (Or.inr (Or.inr (Or.inl ⟨a1, a2, a3, h1, h2, h3, hPQ _ _ _ _ _ _ _ _ h4⟩)))))))))))))
  · exact Or.inr (Or.inr (Or.inr (Or.inr (Or.inr (Or.inr (Or.inr (Or.inr (Or.inr (Or.inr (Or.inr (Or.inr (Or.inr (Or.inr (Or.inl ⟨a1, a2, a3, h1, h2, h3, hPQ _ _ _ _ _ _ _ _ h4⟩))))))))))))))
  · exact Or.inr (Or.inr (Or.inr (Or.inr (Or.inr (Or.inr (Or.inr (Or.inr (Or.inr (Or.inr (Or.inr (Or.inr (Or.inr (Or.inr (Or.inr (Or.inl ⟨a1, a2, a3, a4, a5, a6, a7, h1, h2, h3, h4, h5, hPQ _ _ _ _ _ _ _ _ h6, hPQ _ _ _ _ _ _ _ _ h7⟩)))))))))))))))
  · exact Or.inr (Or.inr (Or.inr (Or.inr (Or.inr (Or.inr (Or.inr (Or.inr (Or.inr (Or.inr (Or.inr (Or.inr (Or.inr (Or.inr (Or.inr (Or.inr (Or.inl ⟨a1, a2, a3, h1, h2, h3, h4, hPQ _ _ _ _ _ _ _ _ h5⟩))))))))))))))))
  · exact Or.inr (Or.inr (Or.inr (Or.inr (Or.inr (Or.inr (Or.inr (Or.inr (Or.inr (Or.inr (Or.inr (Or.inr (Or.inr (Or.inr (Or.inr (Or.inr (Or.inr (Or.inl ⟨a1, a2, a3, h1, h2, h3, h4, hPQ _ _ _ _ _ _ _ _ h5⟩)))))))))))))))))
  · exact Or.inr (Or.inr (Or.inr (Or.inr (Or.inr (Or.inr (Or.inr (Or.inr (Or.inr (Or.inr (Or.inr (Or.inr (Or.inr (Or.inr (Or.inr (Or.inr (Or.inr (Or.inr (⟨a1, a2, h1, h2, h3⟩))))))))))))))))))
/-- the machine comes from here to its method's end, with that result -/
def az_Ev (X : az_X) : az_Q := fun M i L st w sz sl res => ∀ P : az_Q, (∀ M i L st w sz sl res, az_st X P M i L st w sz sl res → P M i L st w sz sl res) → P M i L st w sz sl res
theorem az_Ev.step {X : az_X} {M i : Nat} {L st : List Value} {w : az_W} {sz sl : Nat} {res : az_R} (h : az_st X (az_Ev X) M i L st w sz sl res) : az_Ev X M i L st w sz sl res :=
  fun P hP => hP M i L st w sz sl res (h.mono (fun _ _ _ _ _ _ _ _ q => q P hP))
/-- a method's run on arguments -/
def az_M (X : az_X) (M : Nat) (args : List Value) (w : az_W) (sz sl : Nat) (res : az_R) : Prop := ∃ h : az_H, az_hs[M]? = some h ∧ az_Ev X M 0 (az_L0 args h.2.2.2.1) [] w sz sl res
end
section
/-! from the abstract machine to the machine: locals, and the steps that touch locals and stack alone -/
/-- the words that a callee's frame doesn't take over by itself: they ride in the contract -/
def az_bad (w : Jvm.Cond) : Bool := match w with
  | .fieldLinkNest _ _ _ _ _ _ => true
  | .methodLinkNest _ _ _ _ => true
  | .arrayOver (.object _) => true
  | _ => false
def az_us (w : Jvm.Cond) : Bool := goodWord w || az_bad w
def az_T (args : Array Value) (s : State) : Prop := ∀ w ∈ lw_tbl, az_us w = true → w.before args s = true
def az_tv (b0 base : Nat) : Value → Value
  | .ref k => .ref (base + k)
  | .retAddr _ => .ref b0
  | v => v
def az_pk (b0 base : Nat) (L : List Value) (j : Nat) : Option (Nat × Value) := match L[j]? with
  | some x => if x = .null then none else some (j, az_tv b0 base x)
  | none => none
def az_en (b0 base : Nat) (L : List Value) : List (Nat × Value) := (List.range L.length).filterMap (az_pk b0 base L)
theorem az_en_mem {b0 base : Nat} {L : List Value} {j : Nat} {x : Value} (h : L[j]? = some x) (hn : ¬ x = .null) : (j, az_tv b0 base x) ∈ az_en b0 base L := by
  have hl : j < L.length := (List.getElem?_eq_some_iff.mp h).1
  refine List.mem_filterMap.mpr ⟨j, List.mem_range.mpr hl, ?_⟩
  simp only [az_pk, h, if_neg hn]
theorem az_en_inv {b0 base : Nat} {L : List Value} {q : Nat × Value} (h : q ∈ az_en b0 base L) : ∃ x, L[q.1]? = some x ∧ ¬ x = .null ∧ q.2 = az_tv b0 base x := by
  obtain ⟨j, hj, he⟩ := List.mem_filterMap.mp h
  unfold az_pk at he
  split at he
  · next x hx =>
    by_cases hn : x = .null
    · rw [if_pos hn] at he
      exact absurd he (by simp)
    · rw [if_neg hn] at he
      cases he
      exact ⟨x, hx, hn, rfl⟩
  · exact absurd he (by simp)
def az_LR (b0 base : Nat) (ls : Array Slot) (nL : Nat) (L : List Value) : Prop := L.length = nL ∧ lv_has ls nL (az_en b0 base L)
theorem az_LR.get {b0 base : Nat} {ls : Array Slot} {nL : Nat} {L : List Value} (h : az_LR b0 base ls nL L) {i : Nat} {x : Value} (hx : L[i]? = some x) (hn : ¬ x = .null) : ls[i]? = some (.val (az_tv b0 base x)) := h.2.2.2 _ (az_en_mem hx hn)
theorem az_tv_cat {b0 base : Nat} {x : Value} (h : x.category = 1) : (az_tv b0 base x).category = 1 := by
  cases x <;> first | exact h | rfl
theorem az_nd_cat {L : List Value} {j : Nat} {x : Value} (h : az_nd (j + 1) L = true) (hx : L[j]? = some x) : x.category = 1 := by
  simp only [az_nd, hx] at h
  cases x <;> first | rfl | exact absurd h (by simp)
theorem az_LR.set1 {b0 base : Nat} {ls ls' : Array Slot} {nL i : Nat} {L : List Value} {x : Value} (h : az_LR b0 base ls nL L) (h' : lv_has ls' nL ((i, az_tv b0 base x) :: (az_en b0 base L).filter (fun q => !(q.1 == i) && !(q.1 + 1 == i && q.2.category == 2)))) (hnd : az_nd i L = true) : az_LR b0 base ls' nL (L.set i x) := by
  refine ⟨by rw [List.length_set]; exact h.1, h'.1, h'.2.1, fun q hq => ?_⟩
  obtain ⟨z, hz, hn, he⟩ := az_en_inv hq
  refine h'.2.2 q ?_
  by_cases hj : q.1 = i
  · rw [hj] at hz
    have hl : i < (L.set i x).length := (List.getElem?_eq_some_iff.mp hz).1
    rw [List.length_set] at hl
    rw [List.getElem?_set_self hl] at hz
    cases hz
    refine List.mem_cons.mpr (Or.inl ?_)
    rw [← hj, ← he]
  · rw [List.getElem?_set_ne (Ne.symm hj)] at hz
    refine List.mem_cons.mpr (Or.inr (List.mem_filter.mpr ⟨?_, ?_⟩))
    · have := az_en_mem (b0 := b0) (base := base) hz hn
      rw [← he] at this
      exact this
    · have h1 : (q.1 == i) = false := by simp [hj]
      by_cases h2 : q.1 + 1 = i
      · subst h2
        have h3 := az_tv_cat (b0 := b0) (base := base) (az_nd_cat hnd hz)
        rw [← he] at h3
        simp [h3]
      · simp [hj, h2]
theorem az_LR.set2 {b0 base : Nat} {ls ls' : Array Slot} {nL i : Nat} {L : List Value} {x : UInt64} (h : az_LR b0 base ls nL L) (h' : lv_has ls' nL ((i, .double x) :: (az_en b0 base L).filter (fun q => !(q.1 == i) && (!(q.1 == i + 1) && !(q.1 + 1 == i && q.2.category == 2))))) (hnd : az_nd i L = true) : az_LR b0 base ls' nL ((L.set i (.double x)).set (i + 1) .null) := by
  refine ⟨by rw [List.length_set, List.length_set]; exact h.1, h'.1, h'.2.1, fun q hq => ?_⟩
  obtain ⟨z, hz, hn, he⟩ := az_en_inv hq
  refine h'.2.2 q ?_
  have hl : q.1 < ((L.set i (.double x)).set (i + 1) .null).length := (List.getElem?_eq_some_iff.mp hz).1
  rw [List.length_set, List.length_set] at hl
  by_cases hj1 : q.1 = i + 1
  · rw [hj1] at hz hl
    rw [List.getElem?_set_self (by rw [List.length_set]; exact hl)] at hz
    cases hz
    exact absurd rfl hn
  rw [List.getElem?_set_ne (Ne.symm hj1)] at hz
  by_cases hj : q.1 = i
  · rw [hj] at hz hl
    rw [List.getElem?_set_self hl] at hz
    cases hz
    refine List.mem_cons.mpr (Or.inl ?_)
    rw [← hj]
    have : q.2 = .double x := he
    rw [← this]
  · rw [List.getElem?_set_ne (Ne.symm hj)] at hz
    refine List.mem_cons.mpr (Or.inr (List.mem_filter.mpr ⟨?_, ?_⟩))
    · have := az_en_mem (b0 := b0) (base := base) hz hn
      rw [← he] at this
      exact this
    · by_cases h2 : q.1 + 1 = i
      · subst h2
        have h3 := az_tv_cat (b0 := b0) (base := base) (az_nd_cat hnd hz)
        rw [← he] at h3
        simp [h3]
        omega
      · simp [hj, h2, hj1]
/-- how long an instruction is -/
def az_len (ins : Instr) : Nat := match ins with
  | .bipush _ => 2
  | .sipush _ => 3
  | .ldc _ => 2
  | .ldc_w _ => 3
  | .ldc2_w _ => 3
  | .iload _ => 2
  | .aload _ => 2
  | .fload _ => 2
  | .dload _ => 2
  | .istore _ => 2
  | .astore _ => 2
  | .fstore _ => 2
  | .dstore _ => 2
  | .iinc _ _ => 3
  | .getfield _ => 3
  | .putfield _ => 3
  | .new _ => 3
  | .newarray _ => 2
  | .anewarray _ => 3
  | .invokevirtual _ => 3
  | .invokespecial _ => 3
  | .invokestatic _ => 3
  | .ifCond _ _ => 3
  | .if_icmp _ _ => 3
  | .goto _ => 3
  | _ => 1
/-- what an instruction's own numbers must be -/
def az_im (own : String) (ins : Instr) (t u : Nat) (v : Int32) (js : List Nat) : Bool := match ins with
  | .iconst z => decide (Int32.ofInt z = v)
  | .bipush z => decide ((Int8.ofInt z).toInt32 = v)
  | .sipush z => decide ((Int16.ofInt z).toInt32 = v)
  | .iinc _ z => decide (Int32.ofInt z = v)
  | .ldc idx => match js with
    | [j] => if u = 0 then decide (lw_tbl[j]? = some (.constant own idx v)) else decide (lw_tbl[j]? = some (.constantFloat own idx (UInt32.ofNat t)))
    | _ => false
  | .ldc_w idx => match js with
    | [j] => if u = 0 then decide (lw_tbl[j]? = some (.constant own idx v)) else decide (lw_tbl[j]? = some (.constantFloat own idx (UInt32.ofNat t)))
    | _ => false
  | .ldc2_w idx => match js with
    | [j] => decide (lw_tbl[j]? = some (.constantDouble own idx (UInt64.ofNat t)))
    | _ => false
  | _ => true
theorem az_ld_spec {ok : Value → Bool} {i : Nat} {L st L' st' : List Value} (h : az_ld ok i L st = some (L', st')) : ∃ v, L[i]? = some v ∧ ok v = true ∧ L' = L ∧ st' = v :: st := by
  unfold az_ld at h
  split at h
  · next v hv =>
    by_cases ho : ok v = true
    · rw [if_pos ho] at h
      cases h
      exact ⟨v, hv, ho, rfl, rfl⟩
    · rw [if_neg ho] at h
      cases h
  · cases h
theorem az_ldD_spec {i : Nat} {L st L' st' : List Value} (h : az_ldD i L st = some (L', st')) : ∃ x, L[i]? = some (.double x) ∧ L' = L ∧ st' = .double x :: st := by
  unfold az_ldD at h
  split at h
  · next x hv =>
    cases h
    exact ⟨x, hv, rfl, rfl⟩
  · cases h
theorem az_s1_spec {ok : Value → Bool} {i : Nat} {L st L' st' : List Value} (h : az_s1 ok i L st = some (L', st')) : ∃ v r, st = v :: r ∧ ok v = true ∧ az_nd i L = true ∧ i < L.length ∧ L' = L.set i v ∧ st' = r := by
  unfold az_s1 at h
  split at h
  · next v r =>
    split at h
    · next ho =>
      cases h
      exact ⟨v, _, rfl, ho.1, ho.2.1, ho.2.2, rfl, rfl⟩
    · cases h
  · cases h
theorem az_s2_spec {i : Nat} {L st L' st' : List Value} (h : az_s2 i L st = some (L', st')) : ∃ x r, st = .double x :: r ∧ az_nd i L = true ∧ i + 1 < L.length ∧ L' = (L.set i (.double x)).set (i + 1) .null ∧ st' = r := by
  unfold az_s2 at h
  split at h
  · next x r =>
    split at h
    · next ho =>
      cases h
      exact ⟨x, _, rfl, ho.1, ho.2, rfl, rfl⟩
    · cases h
  · cases h
theorem az_inc_spec {i : Nat} {v : Int32} {L st L' st' : List Value} (h : az_inc i v L st = some (L', st')) : ∃ x, L[i]? = some (.int x) ∧ az_nd i L = true ∧ i < L.length ∧ L' = L.set i (.int (x + v)) ∧ st' = st := by
  unfold az_inc at h
  split at h
  · next x hx =>
    split at h
    · next ho =>
      cases h
      exact ⟨x, hx, ho.1, ho.2, rfl, rfl⟩
    · cases h
  · cases h
theorem az_i2_spec {f : Int32 → Int32 → Int32} {L st L' st' : List Value} (h : az_i2 f L st = some (L', st')) : ∃ x y r, st = .int y :: .int x :: r ∧ L' = L ∧ st' = .int (f x y) :: r := by
  unfold az_i2 at h
  split at h
  · cases h
    exact ⟨_, _, _, rfl, rfl, rfl⟩
  · cases h
theorem az_rem_spec {L st L' st' : List Value} (h : az_rem L st = some (L', st')) : ∃ x y r, st = .int y :: .int x :: r ∧ ¬ y = 0 ∧ L' = L ∧ st' = .int (x - x / y * y) :: r := by
  unfold az_rem at h
  split at h
  · split at h
    · cases h
    · next h0 =>
      cases h
      exact ⟨_, _, _, rfl, h0, rfl, rfl⟩
  · cases h
theorem az_i1_spec {f : Int32 → Value} {L st L' st' : List Value} (h : az_i1 f L st = some (L', st')) : ∃ x r, st = .int x :: r ∧ L' = L ∧ st' = f x :: r := by
  unfold az_i1 at h
  split at h
  · cases h
    exact ⟨_, _, rfl, rfl, rfl⟩
  · cases h
theorem az_f1_spec {f : UInt32 → Value} {L st L' st' : List Value} (h : az_f1 f L st = some (L', st')) : ∃ x r, st = .float x :: r ∧ L' = L ∧ st' = f x :: r := by
  unfold az_f1 at h
  split at h
  · cases h
    exact ⟨_, _, rfl, rfl, rfl⟩
  · cases h
theorem az_f2_spec {f : UInt32 → UInt32 → UInt32} {L st L' st' : List Value} (h : az_f2 f L st = some (L', st')) : ∃ x y r, st = .float y :: .float x :: r ∧ vf_n32 (f x y) ∧ L' = L ∧ st' = .float (f x y) :: r := by
  unfold az_f2 at h
  split at h
  · split at h
    · next h0 =>
      cases h
      exact ⟨_, _, _, rfl, h0, rfl, rfl⟩
    · cases h
  · cases h
theorem az_fc_spec {f : UInt32 → UInt32 → Int32} {L st L' st' : List Value} (h : az_fc f L st = some (L', st')) : ∃ x y r, st = .float y :: .float x :: r ∧ L' = L ∧ st' = .int (f x y) :: r := by
  unfold az_fc at h
  split at h
  · cases h
    exact ⟨_, _, _, rfl, rfl, rfl⟩
  · cases h
theorem az_d2_spec {f : UInt64 → UInt64 → UInt64} {L st L' st' : List Value} (h : az_d2 f L st = some (L', st')) : ∃ x y r, st = .double y :: .double x :: r ∧ vf_n64 (f x y) ∧ L' = L ∧ st' = .double (f x y) :: r := by
  unfold az_d2 at h
  split at h
  · split at h
    · next h0 =>
      cases h
      exact ⟨_, _, _, rfl, h0, rfl, rfl⟩
    · cases h
  · cases h
theorem az_dc_spec {f : UInt64 → UInt64 → Int32} {L st L' st' : List Value} (h : az_dc f L st = some (L', st')) : ∃ x y r, st = .double y :: .double x :: r ∧ L' = L ∧ st' = .int (f x y) :: r := by
  unfold az_dc at h
  split at h
  · cases h
    exact ⟨_, _, _, rfl, rfl, rfl⟩
  · cases h
theorem az_df_spec {L st L' st' : List Value} (h : az_df L st = some (L', st')) : ∃ x r, st = .double x :: r ∧ vf_n32 (FP.d2f x) ∧ L' = L ∧ st' = .float (FP.d2f x) :: r := by
  unfold az_df at h
  split at h
  · split at h
    · next h0 =>
      cases h
      exact ⟨_, _, rfl, h0, rfl, rfl⟩
    · cases h
  · cases h
theorem az_dup_spec {L st L' st' : List Value} (h : az_dup L st = some (L', st')) : ∃ x r, st = x :: r ∧ az_is1 x = true ∧ L' = L ∧ st' = x :: x :: r := by
  unfold az_dup at h
  split at h
  · split at h
    · next h0 =>
      cases h
      exact ⟨_, _, rfl, h0, rfl, rfl⟩
    · cases h
  · cases h
theorem az_dup2_spec {L st L' st' : List Value} (h : az_dup2 L st = some (L', st')) : ∃ a b r, st = a :: b :: r ∧ az_is1 a = true ∧ az_is1 b = true ∧ L' = L ∧ st' = a :: b :: a :: b :: r := by
  unfold az_dup2 at h
  split at h
  · split at h
    · next h0 =>
      cases h
      exact ⟨_, _, _, rfl, h0.1, h0.2, rfl, rfl⟩
    · cases h
  · cases h
theorem az_is1_cat {b0 base : Nat} {x : Value} (h : az_is1 x = true) : (az_tv b0 base x).category = 1 := by
  cases x <;> first | rfl | exact absurd h (by simp [az_is1])
theorem az_isI_of {x : Value} (h : az_isI x = true) : ∃ y, x = .int y := by
  cases x <;> first | exact ⟨_, rfl⟩ | exact absurd h (by simp [az_isI])
theorem az_isF_of {x : Value} (h : az_isF x = true) : ∃ y, x = .float y := by
  cases x <;> first | exact ⟨_, rfl⟩ | exact absurd h (by simp [az_isF])
theorem az_isA_of {b0 base : Nat} {x : Value} (h : az_isA x = true) : ∃ y, az_tv b0 base x = .ref y ∧ ¬ x = .null := by
  cases x <;> first | exact ⟨_, rfl, fun h => by cases h⟩ | exact absurd h (by simp [az_isA])
theorem az_wd {j : Nat} {w : Jvm.Cond} {args : Array Value} {s : State} (hts : az_T args s) (hu : az_us w = true) (h : decide (lw_tbl[j]? = some w) = true) : w.before args s = true := hts w (List.mem_of_getElem? (of_decide_eq_true h)) hu
section AZ1
variable {p : Program} {l : Launch} {e : Env} {R : Room} {s : State} {m : MethodId} {args : Array Value} {below : List Frame} {meth : Method} {c : Code} {H : Heap} {locs : List Loc} {cells slots : Nat} {Q : State → Prop}

theorem az_ldcwF {T : State} (X : Stand p l e R s m args below meth c T locs cells slots) (hexec : p.tables.exec = Jvm.exec) {own : String} {index : Nat} {v : UInt32} (hown : s.vm.findClass own = some m.cls) (hconst : (Jvm.Cond.constantFloat own index v).before args s = true) {g : JFrame} (hg : g.method = m) (hdg : decode c.code g.pc = .ok (.ldc_w index, 3)) :
    ∀ target, Steps p.tables e below (T.setTop { g with pc := g.pc + 3, stack := .float v :: g.stack }) target → Steps p.tables e below (T.setTop g) target := by
  obtain ⟨k, cf, hk, hcf, hcp⟩ := Jvm.Cond.constantFloat_spec hown hconst
  obtain ⟨k', hk', he⟩ := X.warmed.alike.2.2 _ _ hk
  intro target hrest
  subst hg
  jvm_step X.here [hexec, hdg, ldc_w.wp_float (s := T) (f := g) X.here.top hk' (by rw [he]; exact hcf) hcp]
  exact hrest
theorem az_ldcwf {cc : ByteArray} {pc : Nat} {ls : Array Slot} {rest : List Value} (hexec : p.tables.exec = Jvm.exec) (hb : c.code = cc) {own : String} {index : Nat} {v : UInt32} (hown : s.vm.findClass own = some m.cls) (hconst : (Jvm.Cond.constantFloat own index v).before args s = true) (hdg : decode cc pc = .ok (.ldc_w index, 3)) (k : W p l e R s m args below meth c H locs cells slots Q (F0 m (pc + 3) ls (.float v :: rest))) : W p l e R s m args below meth c H locs cells slots Q (F0 m pc ls rest) := by
  intro T hT X
  obtain ⟨t, a, b⟩ := k T hT X
  exact ⟨t, az_ldcwF X hexec hown hconst (g := F0 m pc ls rest) rfl (by rw [hb]; exact hdg) t a, b⟩
set_option maxHeartbeats 4000000 in
theorem az_pu_ok {cc : ByteArray} {own : String} {b0 base nL pc ln t u : Nat} {v : Int32} {js : List Nat} {ins : Instr} {ls : Array Slot} {L st L' st' : List Value} (hx : p.tables.exec = Jvm.exec) (hb : c.code = cc) (hown : s.vm.findClass own = some m.cls) (hts : az_T args s) (hpu : az_pu ins t u v L st = some (L', st')) (hd : decode cc pc = .ok (ins, ln)) (hln : ln = az_len ins) (him : az_im own ins t u v js = true) (hLR : az_LR b0 base ls nL L)
    (kk : ∀ ls' : Array Slot, az_LR b0 base ls' nL L' → W p l e R s m args below meth c H locs cells slots Q (F0 m (pc + ln) ls' (st'.map (az_tv b0 base)))) : W p l e R s m args below meth c H locs cells slots Q (F0 m pc ls (st.map (az_tv b0 base))) := by
  subst hln
  cases ins <;> try exact nomatch (show (none : Option (List Value × List Value)) = some (L', st') from hpu)
  case iconst z =>
    have hpu : some (L, Value.int v :: st) = some (L', st') := hpu
    cases hpu
    exact lv_iconst hx hb hd (of_decide_eq_true him) (kk ls hLR)
  case bipush z =>
    have hpu : some (L, Value.int v :: st) = some (L', st') := hpu
    cases hpu
    exact lv_bipush hx hb hd (of_decide_eq_true him) (kk ls hLR)
  case sipush z =>
    have hpu : some (L, Value.int v :: st) = some (L', st') := hpu
    cases hpu
    exact lv_sipush hx hb hd (of_decide_eq_true him) (kk ls hLR)
  case ldc idx =>
    simp only [az_pu] at hpu
    simp only [az_im] at him
    split at him
    · split at hpu
      · next h0 =>
        rw [if_pos h0] at him
        cases hpu
        exact lv_ldc hx hb hown (az_wd hts rfl him) hd (kk ls hLR)
      · next h0 =>
        rw [if_neg h0] at him
        split at hpu
        · cases hpu
          exact lv_ldcf hx hb hown (az_wd hts rfl him) hd (kk ls hLR)
        · cases hpu
    · cases him
  case ldc_w idx =>
    simp only [az_pu] at hpu
    simp only [az_im] at him
    split at him
    · split at hpu
      · next h0 =>
        rw [if_pos h0] at him
        cases hpu
        exact lv_ldcw hx hb hown (az_wd hts rfl him) hd (kk ls hLR)
      · next h0 =>
        rw [if_neg h0] at him
        split at hpu
        · cases hpu
          exact az_ldcwf hx hb hown (az_wd hts rfl him) hd (kk ls hLR)
        · cases hpu
    · cases him
  case ldc2_w idx =>
    simp only [az_pu] at hpu
    simp only [az_im] at him
    split at him
    · split at hpu
      · cases hpu
        exact lv_ldc2d hx hb hown (az_wd hts rfl him) hd (kk ls hLR)
      · cases hpu
    · cases him
  case fconst k =>
    have hpu : some (L, Value.float (if k = 0 then 0 else if k = 1 then 0x3f800000 else 0x40000000) :: st) = some (L', st') := hpu
    cases hpu
    match k, hd, kk with
    | 0, hd, kk => exact lv_fconst0 hx hb hd (kk ls hLR)
    | 1, hd, kk => exact lv_fconst1 hx hb hd (kk ls hLR)
    | 2, hd, kk => exact lv_fconst2 hx hb hd (kk ls hLR)
  case iload k =>
    obtain ⟨x, hx1, hk, rfl, rfl⟩ := az_ld_spec hpu
    obtain ⟨y, rfl⟩ := az_isI_of hk
    exact lv_iload hx hb hd (hLR.get hx1 (fun h => by cases h)) (kk ls hLR)
  case iload_n k =>
    obtain ⟨x, hx1, hk, rfl, rfl⟩ := az_ld_spec hpu
    obtain ⟨y, rfl⟩ := az_isI_of hk
    exact lv_iload_n hx hb hd rfl (hLR.get hx1 (fun h => by cases h)) (kk ls hLR)
  case fload k =>
    obtain ⟨x, hx1, hk, rfl, rfl⟩ := az_ld_spec hpu
    obtain ⟨y, rfl⟩ := az_isF_of hk
    exact lv_fload hx hb hd (hLR.get hx1 (fun h => by cases h)) (kk ls hLR)
  case fload_n k =>
    obtain ⟨x, hx1, hk, rfl, rfl⟩ := az_ld_spec hpu
    obtain ⟨y, rfl⟩ := az_isF_of hk
    exact lv_fload_n hx hb hd rfl (hLR.get hx1 (fun h => by cases h)) (kk ls hLR)
  case aload k =>
    obtain ⟨x, hx1, hk, rfl, rfl⟩ := az_ld_spec hpu
    obtain ⟨y, hy, hn⟩ := az_isA_of (b0 := b0) (base := base) hk
    have hg := hLR.get hx1 hn
    rw [hy] at hg
    have h2 := kk ls hLR
    rw [List.map_cons, hy] at h2
    exact lv_aload hx hb hd hg h2
  case aload_n k =>
    obtain ⟨x, hx1, hk, rfl, rfl⟩ := az_ld_spec hpu
    obtain ⟨y, hy, hn⟩ := az_isA_of (b0 := b0) (base := base) hk
    have hg := hLR.get hx1 hn
    rw [hy] at hg
    have h2 := kk ls hLR
    rw [List.map_cons, hy] at h2
    exact lv_aload_n hx hb hd rfl hg h2
  case dload k =>
    obtain ⟨y, hx1, rfl, rfl⟩ := az_ldD_spec hpu
    exact lv_dload hx hb hd (hLR.get hx1 (fun h => by cases h)) (kk ls hLR)
  case dload_n k =>
    obtain ⟨y, hx1, rfl, rfl⟩ := az_ldD_spec hpu
    exact lv_dload_n hx hb hd rfl (hLR.get hx1 (fun h => by cases h)) (kk ls hLR)
  case istore k =>
    obtain ⟨x, r, rfl, hk, hnd, hl, rfl, rfl⟩ := az_s1_spec hpu
    obtain ⟨y, rfl⟩ := az_isI_of hk
    exact lv_istore hx hb hd hLR.2 (by rw [← hLR.1]; exact hl) rfl (fun ls' h' => kk ls' (hLR.set1 h' hnd))
  case istore_n k =>
    obtain ⟨x, r, rfl, hk, hnd, hl, rfl, rfl⟩ := az_s1_spec hpu
    obtain ⟨y, rfl⟩ := az_isI_of hk
    exact lv_istore_n hx hb hd rfl hLR.2 (by rw [← hLR.1]; exact hl) rfl (fun ls' h' => kk ls' (hLR.set1 h' hnd))
  case fstore k =>
    obtain ⟨x, r, rfl, hk, hnd, hl, rfl, rfl⟩ := az_s1_spec hpu
    obtain ⟨y, rfl⟩ := az_isF_of hk
    exact lv_fstore hx hb hd hLR.2 (by rw [← hLR.1]; exact hl) rfl (fun ls' h' => kk ls' (hLR.set1 h' hnd))
  case fstore_n k =>
    obtain ⟨x, r, rfl, hk, hnd, hl, rfl, rfl⟩ := az_s1_spec hpu
    obtain ⟨y, rfl⟩ := az_isF_of hk
    exact lv_fstore_n hx hb hd rfl hLR.2 (by rw [← hLR.1]; exact hl) rfl (fun ls' h' => kk ls' (hLR.set1 h' hnd))
  case astore k =>
    obtain ⟨x, r, rfl, hk, hnd, hl, rfl, rfl⟩ := az_s1_spec hpu
    obtain ⟨y, hy, hn⟩ := az_isA_of (b0 := b0) (base := base) hk
    rw [List.map_cons, hy]
    exact lv_astore hx hb hd hLR.2 (by rw [← hLR.1]; exact hl) rfl (fun ls' h' => kk ls' (hLR.set1 (by rw [hy]; exact h') hnd))
  case astore_n k =>
    obtain ⟨x, r, rfl, hk, hnd, hl, rfl, rfl⟩ := az_s1_spec hpu
    obtain ⟨y, hy, hn⟩ := az_isA_of (b0 := b0) (base := base) hk
    rw [List.map_cons, hy]
    exact lv_astore_n hx hb hd rfl hLR.2 (by rw [← hLR.1]; exact hl) rfl (fun ls' h' => kk ls' (hLR.set1 (by rw [hy]; exact h') hnd))
  case dstore k =>
    obtain ⟨x, r, rfl, hnd, hl, rfl, rfl⟩ := az_s2_spec hpu
    exact lv_dstore hx hb hd hLR.2 (by rw [← hLR.1]; exact hl) rfl (fun ls' h' => kk ls' (hLR.set2 h' hnd))
  case dstore_n k =>
    obtain ⟨x, r, rfl, hnd, hl, rfl, rfl⟩ := az_s2_spec hpu
    exact lv_dstore_n hx hb hd rfl hLR.2 (by rw [← hLR.1]; exact hl) rfl (fun ls' h' => kk ls' (hLR.set2 h' hnd))
  case iinc k z =>
    obtain ⟨x, hx1, hnd, hl, rfl, rfl⟩ := az_inc_spec hpu
    have hz : Int32.ofInt z = v := of_decide_eq_true him
    obtain ⟨q, hq⟩ := List.getElem?_of_mem (az_en_mem (b0 := b0) (base := base) hx1 (fun h => by cases h))
    exact lv_iinc hx hb hd hLR.2 hq (by rw [hz]) (by rw [← hLR.1]; exact hl) rfl (fun ls' h' => kk ls' (hLR.set1 h' hnd))
  case iadd =>
    obtain ⟨x, y, r, rfl, rfl, rfl⟩ := az_i2_spec hpu
    exact lv_iadd hx hb hd (kk ls hLR)
  case isub =>
    obtain ⟨x, y, r, rfl, rfl, rfl⟩ := az_i2_spec hpu
    exact lv_isub hx hb hd (kk ls hLR)
  case imul =>
    obtain ⟨x, y, r, rfl, rfl, rfl⟩ := az_i2_spec hpu
    exact lv_imul hx hb hd (kk ls hLR)
  case iand =>
    obtain ⟨x, y, r, rfl, rfl, rfl⟩ := az_i2_spec hpu
    exact lv_iand hx hb hd (kk ls hLR)
  case ior =>
    obtain ⟨x, y, r, rfl, rfl, rfl⟩ := az_i2_spec hpu
    exact lv_ior hx hb hd (kk ls hLR)
  case ixor =>
    obtain ⟨x, y, r, rfl, rfl, rfl⟩ := az_i2_spec hpu
    exact lv_ixor hx hb hd (kk ls hLR)
  case ishl =>
    obtain ⟨x, y, r, rfl, rfl, rfl⟩ := az_i2_spec hpu
    exact lv_ishl hx hb hd (kk ls hLR)
  case ishr =>
    obtain ⟨x, y, r, rfl, rfl, rfl⟩ := az_i2_spec hpu
    exact lv_ishr hx hb hd (kk ls hLR)
  case iushr =>
    obtain ⟨x, y, r, rfl, rfl, rfl⟩ := az_i2_spec hpu
    exact lv_iushr hx hb hd rfl (kk ls hLR)
  case irem =>
    obtain ⟨x, y, r, rfl, h0, rfl, rfl⟩ := az_rem_spec hpu
    exact lv_irem hx hb hd h0 (kk ls hLR)
  case i2c =>
    obtain ⟨x, r, rfl, rfl, rfl⟩ := az_i1_spec hpu
    exact lv_i2c hx hb hd rfl (kk ls hLR)
  case i2d =>
    obtain ⟨x, r, rfl, rfl, rfl⟩ := az_i1_spec hpu
    exact lv_i2d hx hb hd (kk ls hLR)
  case f2i =>
    obtain ⟨x, r, rfl, rfl, rfl⟩ := az_f1_spec hpu
    exact lv_f2i hx hb hd (kk ls hLR)
  case d2f =>
    obtain ⟨x, r, rfl, h0, rfl, rfl⟩ := az_df_spec hpu
    exact lv_d2f hx hb hd h0 (kk ls hLR)
  case fsub =>
    obtain ⟨x, y, r, rfl, h0, rfl, rfl⟩ := az_f2_spec hpu
    exact lv_fsub hx hb hd h0 (kk ls hLR)
  case fmul =>
    obtain ⟨x, y, r, rfl, h0, rfl, rfl⟩ := az_f2_spec hpu
    exact lv_fmul hx hb hd h0 (kk ls hLR)
  case fdiv =>
    obtain ⟨x, y, r, rfl, h0, rfl, rfl⟩ := az_f2_spec hpu
    exact lv_fdiv hx hb hd h0 (kk ls hLR)
  case dsub =>
    obtain ⟨x, y, r, rfl, h0, rfl, rfl⟩ := az_d2_spec hpu
    exact lv_dsub hx hb hd h0 (kk ls hLR)
  case ddiv =>
    obtain ⟨x, y, r, rfl, h0, rfl, rfl⟩ := az_d2_spec hpu
    exact lv_ddiv hx hb hd h0 (kk ls hLR)
  case fcmp op =>
    obtain ⟨x, y, r, rfl, rfl, rfl⟩ := az_fc_spec hpu
    exact lv_fcmp hx hb hd (kk ls hLR)
  case dcmp op =>
    obtain ⟨x, y, r, rfl, rfl, rfl⟩ := az_dc_spec hpu
    exact lv_dcmp hx hb hd (kk ls hLR)
  case dup =>
    obtain ⟨x, r, rfl, h0, rfl, rfl⟩ := az_dup_spec hpu
    exact lv_dup hx hb hd (az_is1_cat h0) (kk ls hLR)
  case dup2 =>
    obtain ⟨x, y, r, rfl, h0, h1, rfl, rfl⟩ := az_dup2_spec hpu
    exact lv_dup2_11 hx hb hd (az_is1_cat h0) (az_is1_cat h1) (kk ls hLR)
theorem az_b1_spec {f : Int32 → Bool} {st r : List Value} {q : Bool} (h : az_b1 f st = some (q, r)) : ∃ x, st = .int x :: r ∧ q = f x := by
  unfold az_b1 at h
  split at h
  · cases h
    exact ⟨_, rfl, rfl⟩
  · cases h
theorem az_b2_spec {f : Int32 → Int32 → Bool} {st r : List Value} {q : Bool} (h : az_b2 f st = some (q, r)) : ∃ x y, st = .int y :: .int x :: r ∧ q = f x y := by
  unfold az_b2 at h
  split at h
  · cases h
    exact ⟨_, _, rfl, rfl⟩
  · cases h
/-- where a branch goes -/
def az_of (ins : Instr) : Int := match ins with
  | .goto z => z
  | .ifCond _ z => z
  | .if_icmp _ z => z
  | _ => 0
set_option maxHeartbeats 4000000 in
theorem az_br_ok {cc : ByteArray} {b0 base pc ln tgt : Nat} {ins : Instr} {ls : Array Slot} {st r : List Value} {q : Bool} (hx : p.tables.exec = Jvm.exec) (hb : c.code = cc) (hbr : az_br ins st = some (q, r)) (hd : decode cc pc = .ok (ins, ln)) (hln : ln = 3) (ht : (pc : Int) + az_of ins = (tgt : Int))
    (kt : q = true → W p l e R s m args below meth c H locs cells slots Q (F0 m tgt ls (r.map (az_tv b0 base)))) (kf : q = false → W p l e R s m args below meth c H locs cells slots Q (F0 m (pc + ln) ls (r.map (az_tv b0 base)))) : W p l e R s m args below meth c H locs cells slots Q (F0 m pc ls (st.map (az_tv b0 base))) := by
  subst hln
  cases ins <;> try exact nomatch (show (none : Option (Bool × List Value)) = some (q, r) from hbr)
  case goto z =>
    have hbr : some (true, st) = some (q, r) := hbr
    cases hbr
    exact lv_goto hx hb hd ht (kt rfl)
  case ifCond cd z =>
    cases cd

    case eq =>
      obtain ⟨x, rfl, rfl⟩ := az_b1_spec hbr
      exact lv_if_eq hx hb hd ht (fun h => kt (decide_eq_true h)) (fun h => kf (decide_eq_false h))
    case ne =>
      obtain ⟨x, rfl, rfl⟩ := az_b1_spec hbr
      exact lv_if_ne hx hb hd ht (fun h => kt (decide_eq_true h)) (fun h => kf (decide_eq_false (fun g => g h)))
    case lt =>
      obtain ⟨x, rfl, rfl⟩ := az_b1_spec hbr
      exact lv_if_lt hx hb hd ht (fun h => kt (decide_eq_true h)) (fun h => kf (decide_eq_false h))
    case ge =>
      obtain ⟨x, rfl, rfl⟩ := az_b1_spec hbr
      exact lv_if_ge hx hb hd ht (fun h => kt (decide_eq_true h)) (fun h => kf (decide_eq_false h))
    case gt =>
      obtain ⟨x, rfl, rfl⟩ := az_b1_spec hbr
      exact lv_if_gt hx hb hd ht (fun h => kt (decide_eq_true h)) (fun h => kf (decide_eq_false h))
    case le =>
      obtain ⟨x, rfl, rfl⟩ := az_b1_spec hbr
      exact lv_if_le hx hb hd ht (fun h => kt (decide_eq_true h)) (fun h => kf (decide_eq_false h))
  case if_icmp cd z =>
    cases cd
    case eq =>
      obtain ⟨x, y, rfl, rfl⟩ := az_b2_spec hbr
      exact lv_icmp_eq hx hb hd ht (fun h => kt (decide_eq_true h)) (fun h => kf (decide_eq_false h))
    case ne =>
      obtain ⟨x, y, rfl, rfl⟩ := az_b2_spec hbr
      exact lv_icmp_ne hx hb hd ht (fun h => kt (decide_eq_true h)) (fun h => kf (decide_eq_false (fun g => g h)))
    case lt =>
      obtain ⟨x, y, rfl, rfl⟩ := az_b2_spec hbr
      exact lv_icmp_lt hx hb hd ht (fun h => kt (decide_eq_true h)) (fun h => kf (decide_eq_false h))
    case ge =>
      obtain ⟨x, y, rfl, rfl⟩ := az_b2_spec hbr
      exact lv_icmp_ge hx hb hd ht (fun h => kt (decide_eq_true h)) (fun h => kf (decide_eq_false h))
    case gt =>
      obtain ⟨x, y, rfl, rfl⟩ := az_b2_spec hbr
      exact lv_icmp_gt hx hb hd ht (fun h => kt (decide_eq_true h)) (fun h => kf (decide_eq_false h))
    case le =>
      obtain ⟨x, y, rfl, rfl⟩ := az_b2_spec hbr
      exact lv_icmp_le hx hb hd ht (fun h => kt (decide_eq_true h)) (fun h => kf (decide_eq_false h))
end AZ1
end
section
/-! the classes of the worlds: their words, their fields' names and types -/
theorem az_pl {ws : List Jvm.Cond} (ps : List Nat) (hp : ws = ps.filterMap (fun i => lw_tbl[i]?)) : ∀ w ∈ ws, w ∈ lw_tbl := by
  intro w hw
  rw [hp] at hw
  obtain ⟨i, -, hi⟩ := List.mem_filterMap.mp hw
  exact List.mem_of_getElem? hi
theorem az_cls_ind {P : Nat → vw_C → Prop} (h0 : P 0 (RX0, TX0, 3)) (h1 : P 1 (RX1, TX1, 1)) (h2 : P 2 (RX2, TX2, 3)) (h3 : P 3 (RX3, TX3, 3)) (h4 : P 4 (RX4, TX4, 5)) (h5 : P 5 (RX5, TX5, 2)) (h6 : P 6 (RX6, TX6, 9)) (h7 : P 7 (RX7, TX7, 3)) (h8 : P 8 (RX8, TX8, 5)) (h9 : P 9 (RX9, TX9, 10)) : ∀ (t : Nat) (q : vw_C), vwCl[t]? = some q → P t q
  | 0, _, h => by cases h; exact h0
  | 1, _, h => by cases h; exact h1
  | 2, _, h => by cases h; exact h2
  | 3, _, h => by cases h; exact h3
  | 4, _, h => by cases h; exact h4
  | 5, _, h => by cases h; exact h5
  | 6, _, h => by cases h; exact h6
  | 7, _, h => by cases h; exact h7
  | 8, _, h => by cases h; exact h8
  | 9, _, h => by cases h; exact h9
  | t + 10, _, h => by simp [vwCl] at h
theorem az_uw0 : ∀ w ∈ u_ws RX0 TX0 3, w ∈ lw_tbl := fun w h => az_pl [84, 86, 88] (by decide +kernel) w h
theorem az_uw1 : ∀ w ∈ u_ws RX1 TX1 1, w ∈ lw_tbl := fun w h => az_pl [117] (by decide +kernel) w h
theorem az_uw2 : ∀ w ∈ u_ws RX2 TX2 3, w ∈ lw_tbl := fun w h => az_pl [102, 104, 106] (by decide +kernel) w h
theorem az_uw3 : ∀ w ∈ u_ws RX3 TX3 3, w ∈ lw_tbl := fun w h => az_pl [198, 200, 202] (by decide +kernel) w h
theorem az_uw4 : ∀ w ∈ u_ws RX4 TX4 5, w ∈ lw_tbl := fun w h => az_pl [216, 218, 220, 222, 224] (by decide +kernel) w h
theorem az_uw5 : ∀ w ∈ u_ws RX5 TX5 2, w ∈ lw_tbl := fun w h => az_pl [148, 150] (by decide +kernel) w h
theorem az_uw6 : ∀ w ∈ u_ws RX6 TX6 9, w ∈ lw_tbl := fun w h => az_pl [167, 169, 171, 173, 175, 177, 179, 181, 183] (by decide +kernel) w h
theorem az_uw7 : ∀ w ∈ u_ws RX7 TX7 3, w ∈ lw_tbl := fun w h => az_pl [130, 132, 134] (by decide +kernel) w h
theorem az_uw8 : ∀ w ∈ u_ws RX8 TX8 5, w ∈ lw_tbl := fun w h => az_pl [233, 235, 237, 239, 241] (by decide +kernel) w h
theorem az_uw9 : ∀ w ∈ u_ws RX9 TX9 10, w ∈ lw_tbl := fun w h => az_pl [761, 763, 765, 767, 769, 771, 773, 775, 777, 779] (by decide +kernel) w h
theorem az_uws : ∀ (t : Nat) (q : vw_C), vwCl[t]? = some q → ∀ w ∈ u_ws q.1 q.2.1 q.2.2, w ∈ lw_tbl := az_cls_ind (P := fun t q => ∀ w ∈ u_ws q.1 q.2.1 q.2.2, w ∈ lw_tbl) az_uw0 az_uw1 az_uw2 az_uw3 az_uw4 az_uw5 az_uw6 az_uw7 az_uw8 az_uw9
theorem az_nms : ∀ (t : Nat) (q : vw_C), vwCl[t]? = some q → ∀ a, a < q.2.2 → ∀ b, b < q.2.2 → a ≠ b → (q.2.1 a).2.1 ≠ (q.2.1 b).2.1 := az_cls_ind (P := fun t q => ∀ a, a < q.2.2 → ∀ b, b < q.2.2 → a ≠ b → (q.2.1 a).2.1 ≠ (q.2.1 b).2.1) nmX0 nmX1 nmX2 nmX3 nmX4 nmX5 nmX6 nmX7 nmX8 nmX9
theorem az_tys_ok : ∀ (t : Nat) (q : vw_C), vwCl[t]? = some q → ∀ k, k < q.2.2 → parseFieldDescriptor (q.2.1 k).2.2.1 = some (az_ty t k) := az_cls_ind (P := fun t q => ∀ k, k < q.2.2 → parseFieldDescriptor (q.2.1 k).2.2.1 = some (az_ty t k)) tyX0_ok tyX1_ok tyX2_ok tyX3_ok tyX4_ok tyX5_ok tyX6_ok tyX7_ok tyX8_ok tyX9_ok
theorem az_live {t : Nat} {q : vw_C} (h : vwCl[t]? = some q) : t ≠ 99 := by
  intro e
  subst e
  exact absurd h (by simp [vwCl])
/-- an array's contents, with the addresses as they are -/
def az_tA (base : Nat) : ((Nat → Int32) ⊕ (Nat → Int64) ⊕ (Nat → UInt32) ⊕ (Nat → UInt64) ⊕ (Nat → Option Nat)) → ((Nat → Int32) ⊕ (Nat → Int64) ⊕ (Nat → UInt32) ⊕ (Nat → UInt64) ⊕ (Nat → Option Nat))
  | .inr (.inr (.inr (.inr f))) => .inr (.inr (.inr (.inr (fun j => (f j).map (fun k => base + k)))))
  | A => A
def az_te (cy : Nat → ClassId) (b0 base : Nat) : va_E → va_E
  | .inl (k, n, A) => .inl (cy k, n, az_tA base A)
  | .inr (ci, fs) => .inr (ci, fs.map (az_tv b0 base))
/-- the heap holds the world, from base on, and nothing else there -/
def az_Rw (D : va_G) (cy : Nat → ClassId) (b0 base : Nat) (w : az_W) (sz : Nat) (H : Heap) : Prop :=
  H.size = base + sz ∧ ∀ k, ¬ w k = az_dead → k < sz ∧ va_at D vwCl (base + k, az_te cy b0 base (w k)) H
def az_tys (cy : Nat → ClassId) : List (ClassId × FieldType) := [(cy 0, .int), (cy 1, .char), (cy 2, .boolean), (cy 3, .object "SwappedTables$Generation"), (cy 4, .object "SwappedTables$State")]
theorem az_Rw.inr {D : va_G} {cy : Nat → ClassId} {b0 base sz a t : Nat} {w : az_W} {H : Heap} {fs : List Value} (h : az_Rw D cy b0 base w sz H) (hw : w a = .inr (t, fs)) (ht : t ≠ 99) : a < sz ∧ va_at D vwCl (base + a, .inr (t, fs.map (az_tv b0 base))) H := by
  have h1 := h.2 a (by rw [hw]; intro e; cases e; exact ht rfl)
  rw [hw] at h1
  exact h1
theorem az_Rw.inl {D : va_G} {cy : Nat → ClassId} {b0 base sz a : Nat} {w : az_W} {H : Heap} {k n : Nat} {A : (Nat → Int32) ⊕ (Nat → Int64) ⊕ (Nat → UInt32) ⊕ (Nat → UInt64) ⊕ (Nat → Option Nat)} (h : az_Rw D cy b0 base w sz H) (hw : w a = .inl (k, n, A)) : a < sz ∧ H[base + a]? = some (vp_cell (cy k) (n, az_tA base A)) := by
  have h1 := h.2 a (by rw [hw]; intro e; cases e)
  rw [hw] at h1
  exact h1
theorem az_Rw.put {D : va_G} {cy : Nat → ClassId} {b0 base sz a : Nat} {w : az_W} {H H1 : Heap} {e : va_E} (h : az_Rw D cy b0 base w sz H) (ha : a < sz) (hz : H1.size = H.size) (hq : ∀ q, q ≠ base + a → H1[q]? = H[q]?) (he : va_at D vwCl (base + a, az_te cy b0 base e) H1) : az_Rw D cy b0 base (va_up w a e) sz H1 := by
  refine ⟨hz.trans h.1, fun k hk => ?_⟩
  by_cases hka : k = a
  · subst hka
    have : va_up w k e k = e := by simp [va_up]
    rw [this] at hk ⊢
    exact ⟨ha, he⟩
  · have : va_up w a e k = w k := by simp [va_up, hka]
    rw [this] at hk ⊢
    obtain ⟨h1, h2⟩ := h.2 k hk
    exact ⟨h1, h2.kept (hq _ (by show base + k ≠ base + a; omega))⟩
theorem az_Rw.new {D : va_G} {cy : Nat → ClassId} {b0 base sz : Nat} {w : az_W} {H H1 : Heap} {e : va_E} (h : az_Rw D cy b0 base w sz H) (hz : H1.size = H.size + 1) (hq : ∀ q, q < H.size → H1[q]? = H[q]?) (he : va_at D vwCl (base + sz, az_te cy b0 base e) H1) : az_Rw D cy b0 base (va_up w sz e) (sz + 1) H1 := by
  refine ⟨by rw [hz, h.1]; omega, fun k hk => ?_⟩
  by_cases hka : k = sz
  · subst hka
    have : va_up w k e k = e := by simp [va_up]
    rw [this] at hk ⊢
    exact ⟨Nat.lt_succ_self _, he⟩
  · have : va_up w sz e k = w k := by simp [va_up, hka]
    rw [this] at hk ⊢
    obtain ⟨h1, h2⟩ := h.2 k hk
    exact ⟨Nat.lt_succ_of_lt h1, h2.kept (hq _ (by show base + k < H.size; rw [h.1]; omega))⟩
theorem az_fits {b0 base : Nat} {ty : FieldType} {x : Value} (h : az_fit ty x = true) : narrow ty (az_tv b0 base x) = az_tv b0 base x ∧ fits ty (az_tv b0 base x) = true := by
  simp only [az_fit, Bool.and_eq_true, decide_eq_true_eq] at h
  obtain ⟨h1, h2⟩ := h
  cases x with
  | ref a => cases ty <;> first | exact ⟨rfl, h1⟩ | exact ⟨rfl, rfl⟩
  | retAddr a => cases ty <;> exact absurd h1 (by simp [fits])
  | int a => exact ⟨h2, h1⟩
  | long a => exact ⟨h2, h1⟩
  | float a => exact ⟨h2, h1⟩
  | double a => exact ⟨h2, h1⟩
  | null => exact ⟨h2, h1⟩
/-- the words of a field's instruction -/
def az_fw (put : Bool) (own nm : String) (idx t u : Nat) (v : Int32) (js : List Nat) : Bool := match vwCl[t]?, js with
  | some q, [j] => decide (u < q.2.2) && (match lw_tbl[j]? with
    | some (.fieldLink o i r n d) => decide (v = 0 ∧ o = own ∧ i = idx ∧ r = (q.2.1 u).1 ∧ n = (q.2.1 u).2.1 ∧ d = (q.2.1 u).2.2.1) && (!put || !(q.2.1 u).2.2.2 || (decide (nm = "<init>") && decide ((q.2.1 u).1 = own)))
    | some (.fieldLinkNest o i r n d _) => decide (v = 1 ∧ o = own ∧ i = idx ∧ r = (q.2.1 u).1 ∧ n = (q.2.1 u).2.1 ∧ d = (q.2.1 u).2.2.1) && (!put || !(q.2.1 u).2.2.2)
    | _ => false)
  | _, _ => false
theorem az_fw_spec {put : Bool} {own nm : String} {idx t u : Nat} {v : Int32} {js : List Nat} (h : az_fw put own nm idx t u v js = true) : ∃ q, vwCl[t]? = some q ∧ u < q.2.2 ∧
    ((.fieldLink own idx (q.2.1 u).1 (q.2.1 u).2.1 (q.2.1 u).2.2.1 ∈ lw_tbl ∧ (put = true → (q.2.1 u).2.2.2 = true → nm = "<init>" ∧ (q.2.1 u).1 = own)) ∨
     (∃ host, .fieldLinkNest own idx (q.2.1 u).1 (q.2.1 u).2.1 (q.2.1 u).2.2.1 host ∈ lw_tbl ∧ (put = true → (q.2.1 u).2.2.2 = false))) := by
  unfold az_fw at h
  split at h
  · next q j hq =>
    simp only [Bool.and_eq_true, decide_eq_true_eq] at h
    obtain ⟨hu, h⟩ := h
    refine ⟨q, hq, hu, ?_⟩
    split at h
    · next o i r n d hj =>
      simp only [Bool.and_eq_true, decide_eq_true_eq, Bool.or_eq_true, Bool.not_eq_true'] at h
      obtain ⟨⟨-, rfl, rfl, rfl, rfl, rfl⟩, h2⟩ := h
      refine Or.inl ⟨List.mem_of_getElem? hj, fun hp hf => ?_⟩
      rcases h2 with (h2 | h2) | h2
      · rw [hp] at h2
        cases h2
      · rw [hf] at h2
        cases h2
      · exact h2
    · next o i r n d host hj =>
      simp only [Bool.and_eq_true, decide_eq_true_eq, Bool.or_eq_true, Bool.not_eq_true'] at h
      obtain ⟨⟨-, rfl, rfl, rfl, rfl, rfl⟩, h2⟩ := h
      refine Or.inr ⟨host, List.mem_of_getElem? hj, fun hp => ?_⟩
      rcases h2 with h2 | h2
      · rw [hp] at h2
        cases h2
      · exact h2
    · cases h
  · cases h
/-- switches: where the offsets go -/
def az_tg (l : List az_E) (pc : Nat) (off : Int) (k : Nat) : Bool := match l[k]? with
  | some e => decide ((pc : Int) + off = (e.1 : Int))
  | none => false
def az_tgs (l : List az_E) (pc : Nat) : List Int → List Nat → Bool
  | [], [] => true
  | o :: os, k :: ks => az_tg l pc o k && az_tgs l pc os ks
  | _, _ => false
theorem az_tgs_at {l : List az_E} {pc : Nat} : ∀ {os : List Int} {ks : List Nat} {j k : Nat}, az_tgs l pc os ks = true → ks[j]? = some k → ∃ o, os[j]? = some o ∧ az_tg l pc o k = true
  | [], [], j, k, _, h => by simp at h
  | [], _ :: _, _, _, h, _ => by cases h
  | _ :: _, [], _, _, h, _ => by cases h
  | o :: os, k0 :: ks, 0, k, h, hk => by
    simp only [az_tgs, Bool.and_eq_true] at h
    simp only [List.getElem?_cons_zero, Option.some.injEq] at hk
    subst hk
    exact ⟨o, by simp, h.1⟩
  | o :: os, k0 :: ks, j + 1, k, h, hk => by
    simp only [az_tgs, Bool.and_eq_true] at h
    simp only [List.getElem?_cons_succ] at hk
    obtain ⟨o', h1, h2⟩ := az_tgs_at h.2 hk
    exact ⟨o', by simpa using h1, h2⟩
theorem az_lk_at {l : List az_E} {pc t : Nat} {dflt : Int} (x : Int) (hd : az_tg l pc dflt t = true) : ∀ {ps : List (Int × Int)} {ks : List Nat}, az_tgs l pc (ps.map (fun p => p.2)) ks = true → az_tg l pc (Op.lookupswitch.offset ps dflt x) (az_lk ps ks x t) = true
  | [], [], _ => hd
  | [], _ :: _, h => by cases h
  | _ :: _, [], h => by cases h
  | p :: ps, k :: ks, h => by
    simp only [az_tgs, List.map_cons, Bool.and_eq_true] at h
    show az_tg l pc (if p.1 = x then p.2 else Op.lookupswitch.offset ps dflt x) (if x = p.1 then k else az_lk ps ks x t) = true
    by_cases hx : p.1 = x
    · rw [if_pos hx, if_pos hx.symm]
      exact h.1
    · rw [if_neg hx, if_neg (Ne.symm hx)]
      exact az_lk_at x hd h.2
def az_swc (l : List az_E) (pc : Nat) (ins : Instr) (t : Nat) (ts : List Nat) : Bool := match ins with
  | .tableswitch d _ _ offs => az_tg l pc d t && az_tgs l pc offs.toList ts
  | .lookupswitch d ps => az_tg l pc d t && az_tgs l pc (ps.toList.map (fun p => p.2)) ts && (ps.toList.zip (ps.toList.drop 1)).all (fun (a, next) => a.1 < next.1)
  | _ => true
theorem az_tg_spec {l : List az_E} {pc k : Nat} {off : Int} (h : az_tg l pc off k = true) : ∃ e, l[k]? = some e ∧ (pc : Int) + off = (e.1 : Int) := by
  unfold az_tg at h
  split at h
  · next e he => exact ⟨e, he, of_decide_eq_true h⟩
  · cases h
theorem az_ub {args : Array Value} {s : State} {t : Nat} {q : vw_C} (hts : az_T args s) (hq : vwCl[t]? = some q) : ∀ w ∈ u_ws q.1 q.2.1 q.2.2, w.before args s = true := by
  intro w hw
  refine hts w (az_uws t q hq w hw) ?_
  obtain ⟨k, -, rfl⟩ := List.mem_map.mp hw
  unfold u_lay
  split <;> rfl
section AZ2
variable {p : Program} {l : Launch} {e : Env} {R : Room} {s : State} {m : MethodId} {args : Array Value} {below : List Frame} {meth : Method} {c : Code} {H : Heap} {locs : List Loc} {cells slots : Nat} {Q : State → Prop}
variable {cc : ByteArray} {own : String} {D : va_G} {cy : Nat → ClassId} {b0 base sz pc ln t u : Nat} {v : Int32} {js : List Nat} {ls : Array Slot} {w : az_W}
theorem az_sw_ok {l0 : List az_E} {ins : Instr} {ts : List Nat} {st r : List Value} {k : Nat} (hx : p.tables.exec = Jvm.exec) (hb : c.code = cc) (hsw : az_sw ins t ts st = some (k, r)) (hd : decode cc pc = .ok (ins, ln)) (hst : az_swc l0 pc ins t ts = true)
    (kk : ∀ q : az_E, l0[k]? = some q → W p l e R s m args below meth c H locs cells slots Q (F0 m q.1 ls (r.map (az_tv b0 base)))) : W p l e R s m args below meth c H locs cells slots Q (F0 m pc ls (st.map (az_tv b0 base))) := by
  unfold az_sw at hsw
  split at hsw
  · next d lo hi offs x r0 =>
    simp only [az_swc, Bool.and_eq_true] at hst
    split at hsw
    · next ho =>
      cases hsw
      obtain ⟨e, h1, h2⟩ := az_tg_spec hst.1
      exact lv_tableOut hx hb hd ho h2 (kk e h1)
    · next ho =>
      split at hsw
      · next k0 hk0 =>
        cases hsw
        obtain ⟨o, h1, h2⟩ := az_tgs_at hst.2 hk0
        obtain ⟨e, h3, h4⟩ := az_tg_spec h2
        exact lv_tableIn hx hb hd (fun q => ho (Or.inl q)) (fun q => ho (Or.inr q)) (by rw [← Array.getElem?_toList]; exact h1) h4 (kk e h3)
      · cases hsw
  · next d ps x r0 =>
    simp only [az_swc, Bool.and_eq_true] at hst
    cases hsw
    obtain ⟨e, h3, h4⟩ := az_tg_spec (az_lk_at x.toInt hst.1.1 hst.1.2)
    exact lv_lookup hx hb hd hst.2 rfl h4 (kk e h3)
  · cases hsw
theorem az_get_ok {nm : String} {idx a : Nat} {fs : List Value} {x : Value} {r : List Value} (hx : p.tables.exec = Jvm.exec) (hb : c.code = cc) (hown : s.vm.findClass own = some m.cls) (hts : az_T args s) (hK : va_K D vwCl (az_tys cy) s) (hR : az_Rw D cy b0 base w sz H) (hw : w a = .inr (t, fs)) (hu : fs[u]? = some x) (hd : decode cc pc = .ok (.getfield idx, ln)) (hln : ln = 3) (hst : az_fw false own nm idx t u v js = true)
    (kk : W p l e R s m args below meth c H locs cells slots Q (F0 m (pc + ln) ls (az_tv b0 base x :: r))) : W p l e R s m args below meth c H locs cells slots Q (F0 m pc ls (.ref (base + a) :: r)) := by
  subst hln
  obtain ⟨q, hq, hu2, hl⟩ := az_fw_spec hst
  have hP : va_P D vwCl [(base + a, .inr (t, fs.map (az_tv b0 base)))] H := fun k z hz => by
    have hk : k < 1 := (List.getElem?_eq_some_iff.mp hz).1
    rw [show k = 0 by omega] at hz
    cases hz
    exact (hR.inr hw (az_live hq)).2
  have hv : (fs.map (az_tv b0 base))[u]? = some (az_tv b0 base x) := by rw [List.getElem?_map, hu]; rfl
  rcases hl with ⟨hl, -⟩ | ⟨host, hl, -⟩
  · exact va_get (C := q.1) (T := q.2.1) (N := q.2.2) hx hb (az_ub hts hq) (fun _ h => h) hown hK hP 0 rfl hq u hu2 (hts _ hl rfl) (fun _ h => h) hv hd kk
  · exact va_getN (C := q.1) (T := q.2.1) (N := q.2.2) hx hb (az_ub hts hq) (fun _ h => h) hown hK hP 0 rfl hq u hu2 (hts _ hl rfl) (fun _ h => h) hv hd kk
theorem az_put_ok {nm : String} {idx a : Nat} {fs : List Value} {x : Value} {r : List Value} (hx : p.tables.exec = Jvm.exec) (hb : c.code = cc) (hown : s.vm.findClass own = some m.cls) (hin : nm = "<init>" → meth.name = "<init>") (hts : az_T args s) (hK : va_K D vwCl (az_tys cy) s) (hR : az_Rw D cy b0 base w sz H) (hw : w a = .inr (t, fs)) (hu : u < fs.length) (hf : az_fit (az_ty t u) x = true) (hd : decode cc pc = .ok (.putfield idx, ln)) (hln : ln = 3) (hst : az_fw true own nm idx t u v js = true)
    (kk : ∀ (H1 : Heap) (k : Nat), az_Rw D cy b0 base (va_up w a (.inr (t, fs.set u x))) sz H1 → (∀ q, q ≠ base + a → H1[q]? = H[q]?) → W p l e R s m args below meth c H1 (locs ++ [⟨base + a, k⟩]) cells slots Q (F0 m (pc + ln) ls r)) : W p l e R s m args below meth c H locs cells slots Q (F0 m pc ls (az_tv b0 base x :: .ref (base + a) :: r)) := by
  subst hln
  obtain ⟨q, hq, hu2, hl⟩ := az_fw_spec hst
  obtain ⟨hsz, hat⟩ := hR.inr hw (az_live hq)
  obtain ⟨hn, hfit⟩ := az_fits (b0 := b0) (base := base) hf
  have hap := va_apart (own := own) (az_ub hts hq) (fun _ h => h) (az_ty t) (az_tys_ok t q hq) (az_nms t q hq) hK hq
  obtain ⟨r1, h1, cell, q1, q2, q3, q4⟩ := hat
  have hr : r1 = q := Option.some.inj (h1.symm.trans hq)
  subst hr
  obtain ⟨hS, hfc, kC, hkC, hkind⟩ := hK.1 t _ hq
  obtain ⟨cf, kf, fi, f, hi, hsl⟩ := hS u hu2
  have hdp := az_tys_ok t r1 hq u hu2
  have hfin : ∀ H' : Heap, H'[base + a]? = some (cell.setSlot f.slot (az_tv b0 base x)) → H'.size = H.size → (∀ z, z ≠ base + a → H'[z]? = H[z]?) → az_Rw D cy b0 base (va_up w a (.inr (t, fs.set u x))) sz H' := by
    intro H' e1 e2 e3
    refine hR.put hsz e2 e3 ?_
    rw [hsl] at e1
    refine ⟨r1, hq, t_OB.to (V := updV (vp_V (fs.map (az_tv b0 base))) u (az_tv b0 base x)) ⟨_, e1, q2, q3, t_set q4 hap hu2 (az_tv b0 base x)⟩ (fun j _ => ?_)⟩
    rw [vp_updV_set (by rw [List.length_map]; exact hu)]
    rw [List.map_set]
  have hst2 := (u_facts hfc hkC (u_lays (az_ub hts hq) (fun _ h => h) hu2) hi).1
  have hslot : f.slot < cell.slots.size := by rw [hsl]; exact k2_hasslot (q4 u hu2)
  rcases hl with ⟨hl, hfi⟩ | ⟨host, hl, hfi⟩
  · by_cases hff : (r1.2.1 u).2.2.2 = true
    · obtain ⟨hnm, hown2⟩ := hfi rfl hff
      have hlay := az_ub hts hq _ (u_in_lay hu2)
      unfold u_lay at hlay
      rw [if_pos hff] at hlay
      have hcf : m.cls = cf := by
        obtain ⟨_, _, c', _, _, _, -, -, hf', -, -, -, hown3, -⟩ := Cond.laysFinal_spec hlay
        have e1 : c' = cf := by have := hi.symm.trans hf'; simp at this; exact this.1.symm
        rw [hown2] at hown3
        rw [← e1]; exact Option.some.inj (hown.symm.trans hown3)
      have h6 := u_fits hfc hkC hkind (Or.inr hlay) hi hdp hn hfit
      exact W.putFinK hx hb hown (hts _ hl rfl) hi hst2 hcf (hin hnm) (by rw [q2]; exact h6) q1 q3 hslot rfl rfl hd (fun H' e1 e2 e3 => kk H' _ (hfin H' e1 e2 e3) e3)
    · have hlay := az_ub hts hq _ (u_in_lay hu2)
      unfold u_lay at hlay
      rw [if_neg hff] at hlay
      have h6 := u_store hfc hkC hkind hlay hi hdp hn hfit
      exact W.putK hx hb (f := f) ⟨hown, hts _ hl rfl, ⟨_, _, _, hi⟩, hst2⟩ (by rw [q2]; exact h6) q1 q3 hslot rfl rfl hd (fun H' e1 e2 e3 => kk H' _ (hfin H' e1 e2 e3) e3)
  · have hff := hfi rfl
    have hlay := az_ub hts hq _ (u_in_lay hu2)
    unfold u_lay at hlay
    rw [if_neg (by rw [hff]; decide)] at hlay
    have h6 := u_store hfc hkC hkind hlay hi hdp hn hfit
    exact va_WputK hx hb (f := f) hown (hts _ hl rfl) hi hst2 (by rw [q2]; exact h6) q1 q3 hslot rfl rfl hd (fun H' e1 e2 e3 => kk H' _ (hfin H' e1 e2 e3) e3)
theorem az_ald_ok {ins : Instr} {j : Int32} {a k n : Nat} {f : Nat → Int32} {r : List Value} (hx : p.tables.exec = Jvm.exec) (hb : c.code = cc) (hK : va_K D vwCl (az_tys cy) s) (hR : az_Rw D cy b0 base w sz H) (hal : az_al ins = some k) (hw : w a = .inl (k, n, .inl f)) (hj : vp_in j n) (hd : decode cc pc = .ok (ins, ln)) (hln : ln = 1)
    (kk : W p l e R s m args below meth c H locs cells slots Q (F0 m (pc + ln) ls (.int (f j.toNatClampNeg) :: r))) : W p l e R s m args below meth c H locs cells slots Q (F0 m pc ls (.int j :: .ref (base + a) :: r)) := by
  subst hln
  have hP : va_P D vwCl [(base + a, .inl (cy k, n, .inl f))] H := fun z q hz => by
    have hk : z < 1 := (List.getElem?_eq_some_iff.mp hz).1
    rw [show z = 0 by omega] at hz
    cases hz
    exact (hR.inl hw).2
  unfold az_al at hal
  split at hal
  · cases hal
    exact va_iald hx hb hK hP 0 0 rfl rfl hj hd kk
  · cases hal
    exact va_cald hx hb hK hP 0 1 rfl rfl hj hd kk
  · cases hal
    exact va_zald hx hb hK hP 0 2 rfl rfl hj hd kk
  · cases hal
theorem az_ast_ok {ins : Instr} {x j : Int32} {a k n : Nat} {f : Nat → Int32} {r : List Value} (hx : p.tables.exec = Jvm.exec) (hb : c.code = cc) (hK : va_K D vwCl (az_tys cy) s) (hR : az_Rw D cy b0 base w sz H) (has : az_as ins = some k) (hw : w a = .inl (k, n, .inl f)) (hj : vp_in j n) (hd : decode cc pc = .ok (ins, ln)) (hln : ln = 1)
    (kk : ∀ (H1 : Heap) (z : Nat), az_Rw D cy b0 base (va_up w a (.inl (k, n, .inl (upd f j.toNatClampNeg (az_nr k x))))) sz H1 → (∀ q, q ≠ base + a → H1[q]? = H[q]?) → W p l e R s m args below meth c H1 (locs ++ [⟨base + a, z⟩]) cells slots Q (F0 m (pc + ln) ls r)) : W p l e R s m args below meth c H locs cells slots Q (F0 m pc ls (.int x :: .int j :: .ref (base + a) :: r)) := by
  subst hln
  obtain ⟨hsz, hat⟩ := hR.inl hw
  have hcell : H[base + a]? = some (arrV (cy k) n (fun i => .int (f i))) := hat
  have hin : ¬ (j < 0 ∨ (arrV (cy k) n (fun i => Value.int (f i))).slots.size ≤ j.toNatClampNeg) := by rw [arrV_size]; exact hj
  have hfin : ∀ (y : Int32) (H' : Heap), H'[base + a]? = some ((arrV (cy k) n (fun i => .int (f i))).setSlot j.toNatClampNeg (.int y)) → H'.size = H.size → (∀ z, z ≠ base + a → H'[z]? = H[z]?) → az_Rw D cy b0 base (va_up w a (.inl (k, n, .inl (upd f j.toNatClampNeg y)))) sz H' := by
    intro y H' e1 e2 e3
    refine hR.put hsz e2 e3 ?_
    show H'[base + a]? = some (vp_cell (cy k) (n, .inl (upd f j.toNatClampNeg y)))
    rw [e1, vp_cell_i, arrV_store]
    congr 2
    funext q
    by_cases hq : q = j.toNatClampNeg
    · subst hq
      simp [updV, upd]
    · simp [updV, upd, hq]
  unfold az_as at has
  split at has
  · cases has
    exact W.iast hx hb hcell ((hK.2 0 _ rfl).1 n (fun i => .int (f i))) (fun q => by cases q) hin rfl rfl hd (fun H' e1 e2 e3 => kk H' _ (hfin _ H' e1 e2 e3) e3)
  · cases has
    exact W.cast hx hb hcell ((hK.2 1 _ rfl).1 n (fun i => .int (f i))) (fun q => by cases q) hin rfl rfl hd (fun H' e1 e2 e3 => kk H' _ (hfin _ H' e1 e2 e3) e3)
  · cases has
    exact W.zast hx hb hcell ((hK.2 2 _ rfl).1 n (fun i => .int (f i))) (fun q => by cases q) hin rfl rfl hd (fun H' e1 e2 e3 => kk H' _ (hfin _ H' e1 e2 e3) e3)
  · cases has
theorem az_aald_ok {j : Int32} {a k n y : Nat} {f : Nat → Option Nat} {r : List Value} (hx : p.tables.exec = Jvm.exec) (hb : c.code = cc) (hK : va_K D vwCl (az_tys cy) s) (hR : az_Rw D cy b0 base w sz H) (hw : w a = .inl (k, n, .inr (.inr (.inr (.inr f))))) (hk : k = 3 ∨ k = 4) (hj : vp_in j n) (hy : f j.toNatClampNeg = some y) (hd : decode cc pc = .ok (.aaload, ln)) (hln : ln = 1)
    (kk : W p l e R s m args below meth c H locs cells slots Q (F0 m (pc + ln) ls (.ref (base + y) :: r))) : W p l e R s m args below meth c H locs cells slots Q (F0 m pc ls (.int j :: .ref (base + a) :: r)) := by
  subst hln
  have hP : va_P D vwCl [(base + a, .inl (cy k, n, .inr (.inr (.inr (.inr (fun i => (f i).map (fun z => base + z)))))))] H := fun z q hz => by
    have hk : z < 1 := (List.getElem?_eq_some_iff.mp hz).1
    rw [show z = 0 by omega] at hz
    cases hz
    exact (hR.inl hw).2
  have e1 : va_rf ((f j.toNatClampNeg).map (fun z => base + z)) = .ref (base + y) := by rw [hy]; rfl
  rw [← e1] at kk
  rcases hk with rfl | rfl
  · exact va_aldq hx hb hK hP 0 3 rfl rfl hj hd kk
  · exact va_aldq hx hb hK hP 0 4 rfl rfl hj hd kk
theorem az_aast_ok {j : Int32} {a k n y ci : Nat} {fs : List Value} {f : Nat → Option Nat} {r : List Value} (hx : p.tables.exec = Jvm.exec) (hb : c.code = cc) (hK : va_K D vwCl (az_tys cy) s) (hR : az_Rw D cy b0 base w sz H) (hw : w a = .inl (k, n, .inr (.inr (.inr (.inr f))))) (hy : w y = .inr (ci, fs)) (hk : (k = 3 ∧ ci = 2) ∨ (k = 4 ∧ ci = 6)) (hj : vp_in j n) (hd : decode cc pc = .ok (.aastore, ln)) (hln : ln = 1)
    (kk : ∀ (H1 : Heap) (z : Nat), az_Rw D cy b0 base (va_up w a (.inl (k, n, .inr (.inr (.inr (.inr (va_up f j.toNatClampNeg (some y)))))))) sz H1 → (∀ q, q ≠ base + a → H1[q]? = H[q]?) → W p l e R s m args below meth c H1 (locs ++ [⟨base + a, z⟩]) cells slots Q (F0 m (pc + ln) ls r)) : W p l e R s m args below meth c H locs cells slots Q (F0 m pc ls (.ref (base + y) :: .int j :: .ref (base + a) :: r)) := by
  subst hln
  obtain ⟨hsz, hat⟩ := hR.inl hw
  have hcell : H[base + a]? = some (arrV (cy k) n (fun i => va_rf ((f i).map (fun z => base + z)))) := hat
  have hlt : j.toNatClampNeg < n := Nat.not_le.mp fun q => hj (Or.inr q)
  have h0 : ¬ j < 0 := fun q => hj (Or.inl q)
  have hfin : ∀ (H' : Heap), H'[base + a]? = some ((arrV (cy k) n (fun i => va_rf ((f i).map (fun z => base + z)))).setSlot j.toNatClampNeg (.ref (base + y))) → H'.size = H.size → (∀ z, z ≠ base + a → H'[z]? = H[z]?) → az_Rw D cy b0 base (va_up w a (.inl (k, n, .inr (.inr (.inr (.inr (va_up f j.toNatClampNeg (some y)))))))) sz H' := by
    intro H' e1 e2 e3
    refine hR.put hsz e2 e3 ?_
    show H'[base + a]? = some (vp_cell (cy k) (n, .inr (.inr (.inr (.inr (fun i => (va_up f j.toNatClampNeg (some y) i).map (fun z => base + z)))))))
    rw [e1, vp_cell_q, arrV_store]
    congr 2
    funext q
    by_cases hq : q = j.toNatClampNeg
    · subst hq
      simp [updV, va_up, va_rf]
    · simp [updV, va_up, hq]
  have hci : ∃ q0 : vw_C, vwCl[ci]? = some q0 ∧ (az_tys cy)[k]? = some (cy k, .object q0.1) := by
    rcases hk with ⟨rfl, rfl⟩ | ⟨rfl, rfl⟩
    · exact ⟨_, rfl, rfl⟩
    · exact ⟨_, rfl, rfl⟩
  obtain ⟨q0, hc, ht⟩ := hci
  obtain ⟨hsy, haty⟩ := hR.inr hy (az_live hc)
  obtain ⟨r', hr', cellV, g1, g2, g3, -⟩ := haty
  have hcls := (hK.1 ci q0 hc).2
  obtain ⟨kA, comp, k1, k2, k3, -⟩ := (hK.2 k _ ht).2
  have hcomp : comp = D.1 ci := Option.some.inj (k3.symm.trans hcls.1)
  subst hcomp
  obtain ⟨kC, hkC, -⟩ := hcls.2
  exact W.aast hx hb hcell (fun q h => by cases h) (fun h => by cases h) k1 k2 rfl hkC ⟨h0, by rw [arrV_size]; exact hlt⟩ g1 (fun q h => by rw [g3] at h; cases h) (by rw [g2]; exact hkC) (by rw [g2]; exact va_assign hcls) rfl rfl hd (fun H' e1 e2 e3 => kk H' _ (hfin H' e1 e2 e3) e3)
theorem az_alen_ok {a k n : Nat} {A : (Nat → Int32) ⊕ (Nat → Int64) ⊕ (Nat → UInt32) ⊕ (Nat → UInt64) ⊕ (Nat → Option Nat)} {r : List Value} (hx : p.tables.exec = Jvm.exec) (hb : c.code = cc) (hK : va_K D vwCl (az_tys cy) s) (hR : az_Rw D cy b0 base w sz H) (hw : w a = .inl (k, n, A)) (hk : k < 5) (hd : decode cc pc = .ok (.arraylength, ln)) (hln : ln = 1)
    (kk : W p l e R s m args below meth c H locs cells slots Q (F0 m (pc + ln) ls (.int (nI n) :: r))) : W p l e R s m args below meth c H locs cells slots Q (F0 m pc ls (.ref (base + a) :: r)) := by
  subst hln
  have hP : va_P D vwCl [(base + a, .inl (cy k, n, az_tA base A))] H := fun z q hz => by
    have hk : z < 1 := (List.getElem?_eq_some_iff.mp hz).1
    rw [show z = 0 by omega] at hz
    cases hz
    exact (hR.inl hw).2
  have ht : ∃ ty, (az_tys cy)[k]? = some (cy k, ty) := by
    rcases (show k = 0 ∨ k = 1 ∨ k = 2 ∨ k = 3 ∨ k = 4 by omega) with rfl | rfl | rfl | rfl | rfl <;> exact ⟨_, rfl⟩
  obtain ⟨ty, ht⟩ := ht
  exact va_alen hx hb hK hP 0 k rfl ht rfl hd kk
/-- the words of a making -/
def az_nw (own : String) (ins : Instr) (t u : Nat) (js : List Nat) : Bool := match ins with
  | .new idx => match vwCl[t]?, js with
    | some q, [j1, j2, j3] => decide (u = q.2.2) && decide (lw_tbl[j1]? = some (.classLink own idx q.1)) && decide (lw_tbl[j2]? = some (.instantiable q.1 q.2.2)) && decide (lw_tbl[j3]? = some (.initialized q.1))
    | _, _ => false
  | .newarray ty => match js with
    | [j] => decide (lw_tbl[j]? = some (.arrayClass (newarray.typeOf ty))) && ((decide (ty = .int) && decide (u = 0)) || (decide (ty = .char) && decide (u = 1)) || (decide (ty = .boolean) && decide (u = 2)))
    | _ => false
  | .anewarray idx => match js with
    | [j1, j2] => (decide (u = 3) && decide (lw_tbl[j1]? = some (.classLink own idx "SwappedTables$Generation")) && decide (lw_tbl[j2]? = some (.arrayOver (.object "SwappedTables$Generation")))) || (decide (u = 4) && decide (lw_tbl[j1]? = some (.classLink own idx "SwappedTables$State")) && decide (lw_tbl[j2]? = some (.arrayOver (.object "SwappedTables$State"))))
    | _ => false
  | _ => true
theorem az_new_ok {idx : Nat} {r : List Value} (hx : p.tables.exec = Jvm.exec) (hb : c.code = cc) (hown : s.vm.findClass own = some m.cls) (hts : az_T args s) (hK : va_K D vwCl (az_tys cy) s) (hR : az_Rw D cy b0 base w sz H) (hd : decode cc pc = .ok (.new idx, ln)) (hln : ln = 3) (hst : az_nw own (.new idx) t u js = true) (hcells : cells + 1 ≤ R.cells) (hslots : slots + u ≤ R.slots)
    (kk : ∀ H1 : Heap, az_Rw D cy b0 base (va_up w sz (.inr (t, az_dv t u))) (sz + 1) H1 → (∀ q, q < H.size → H1[q]? = H[q]?) → W p l e R s m args below meth c H1 locs (cells + 1) (slots + u) Q (F0 m (pc + ln) ls (.ref (base + sz) :: r))) : W p l e R s m args below meth c H locs cells slots Q (F0 m pc ls r) := by
  subst hln
  simp only [az_nw] at hst
  split at hst
  · next q j1 j2 j3 hq =>
    simp only [Bool.and_eq_true] at hst
    obtain ⟨⟨⟨hu, h1⟩, h2⟩, h3⟩ := hst
    have hu : u = q.2.2 := of_decide_eq_true hu
    subst hu
    have hKn := hK.1 t q hq
    refine W.newcK hx hb hown (az_wd hts rfl h1) (az_wd hts rfl h2) (az_wd hts rfl h3) rfl hd hcells hslots hKn.2.1 hR.1 (fun H1 kC hkC e1 z1 o1 => ?_)
    refine kk H1 (hR.new (by rw [z1, hR.1]) (by rw [hR.1]; exact o1) ?_) (by rw [hR.1]; exact o1)
    refine ⟨q, hq, (u_born (az_ty t) (az_ub hts hq) (fun _ h => h) hKn hkC e1 (az_tys_ok t q hq)).to (fun k hk => ?_)⟩
    simp only [vp_V, az_dv, List.map_map]
    rw [List.getD_eq_getElem?_getD, List.getElem?_map, List.getElem?_range hk]
    show defaultValue (az_ty t k) = az_tv b0 base (defaultValue (az_ty t k))
    cases az_ty t k <;> rfl
  · cases hst
theorem az_newa_ok {ty : ArrayType} {n : Int32} {r : List Value} (hx : p.tables.exec = Jvm.exec) (hb : c.code = cc) (hts : az_T args s) (hK : va_K D vwCl (az_tys cy) s) (hR : az_Rw D cy b0 base w sz H) (hn : vp_in n 1000) (hd : decode cc pc = .ok (.newarray ty, ln)) (hln : ln = 2) (hst : az_nw own (.newarray ty) t u js = true) (hcells : cells + 1 ≤ R.cells) (hslots : slots + n.toNatClampNeg ≤ R.slots)
    (kk : ∀ H1 : Heap, az_Rw D cy b0 base (va_up w sz (.inl (u, n.toNatClampNeg, .inl (fun _ => 0)))) (sz + 1) H1 → (∀ q, q < H.size → H1[q]? = H[q]?) → W p l e R s m args below meth c H1 locs (cells + 1) (slots + n.toNatClampNeg) Q (F0 m (pc + ln) ls (.ref (base + sz) :: r))) : W p l e R s m args below meth c H locs cells slots Q (F0 m pc ls (.int n :: r)) := by
  subst hln
  simp only [az_nw] at hst
  split at hst
  · next j =>
    simp only [Bool.and_eq_true, Bool.or_eq_true, decide_eq_true_eq] at hst
    obtain ⟨h1, h2⟩ := hst
    have hn0 : ¬ n < 0 := fun q => hn (Or.inl q)
    have hn1 : n.toNatClampNeg < 1000 := Nat.not_le.mp fun q => hn (Or.inr q)
    rcases h2 with (⟨rfl, rfl⟩ | ⟨rfl, rfl⟩) | ⟨rfl, rfl⟩
    · refine va_newaK (atype := .int) hx hb (hts _ (List.mem_of_getElem? h1) rfl) rfl hd rfl hn0 rfl (by show n.toNatClampNeg * 4 ≤ _; omega) hcells hslots hR.1 (fun H1 cA e1 z1 o1 hAr hNm => ?_)
      have hc : cA = cy 0 := Option.some.inj (hNm.symm.trans (hK.2 0 _ rfl).2)
      subst hc
      exact kk H1 (hR.new (by rw [z1, hR.1]) (by rw [hR.1]; exact o1) e1) (by rw [hR.1]; exact o1)
    · refine va_newaK (atype := .char) hx hb (hts _ (List.mem_of_getElem? h1) rfl) rfl hd rfl hn0 rfl (by show n.toNatClampNeg * 2 ≤ _; omega) hcells hslots hR.1 (fun H1 cA e1 z1 o1 hAr hNm => ?_)
      have hc : cA = cy 1 := Option.some.inj (hNm.symm.trans (hK.2 1 _ rfl).2)
      subst hc
      exact kk H1 (hR.new (by rw [z1, hR.1]) (by rw [hR.1]; exact o1) e1) (by rw [hR.1]; exact o1)
    · refine va_newaK (atype := .boolean) hx hb (hts _ (List.mem_of_getElem? h1) rfl) rfl hd rfl hn0 rfl (by show n.toNatClampNeg * 1 ≤ _; omega) hcells hslots hR.1 (fun H1 cA e1 z1 o1 hAr hNm => ?_)
      have hc : cA = cy 2 := Option.some.inj (hNm.symm.trans (hK.2 2 _ rfl).2)
      subst hc
      exact kk H1 (hR.new (by rw [z1, hR.1]) (by rw [hR.1]; exact o1) e1) (by rw [hR.1]; exact o1)
  · cases hst
theorem az_anew_ok {idx : Nat} {n : Int32} {r : List Value} (hx : p.tables.exec = Jvm.exec) (hb : c.code = cc) (hown : s.vm.findClass own = some m.cls) (hts : az_T args s) (hK : va_K D vwCl (az_tys cy) s) (hR : az_Rw D cy b0 base w sz H) (hn : vp_in n 1000) (hd : decode cc pc = .ok (.anewarray idx, ln)) (hln : ln = 3) (hst : az_nw own (.anewarray idx) t u js = true) (hcells : cells + 1 ≤ R.cells) (hslots : slots + n.toNatClampNeg ≤ R.slots)
    (kk : ∀ H1 : Heap, az_Rw D cy b0 base (va_up w sz (.inl (u, n.toNatClampNeg, .inr (.inr (.inr (.inr (fun _ => none))))))) (sz + 1) H1 → (∀ q, q < H.size → H1[q]? = H[q]?) → W p l e R s m args below meth c H1 locs (cells + 1) (slots + n.toNatClampNeg) Q (F0 m (pc + ln) ls (.ref (base + sz) :: r))) : W p l e R s m args below meth c H locs cells slots Q (F0 m pc ls (.int n :: r)) := by
  subst hln
  simp only [az_nw] at hst
  split at hst
  · next j1 j2 =>
    simp only [Bool.and_eq_true, Bool.or_eq_true, decide_eq_true_eq] at hst
    have hn0 : ¬ n < 0 := fun q => hn (Or.inl q)
    have hn1 : n.toNatClampNeg < 1000 := Nat.not_le.mp fun q => hn (Or.inr q)
    have key : ∀ (C : String) (k0 : Nat), u = k0 → (az_tys cy)[k0]? = some (cy k0, .object C) → lw_tbl[j1]? = some (.classLink own idx C) → lw_tbl[j2]? = some (.arrayOver (.object C)) → W p l e R s m args below meth c H locs cells slots Q (F0 m pc ls (.int n :: r)) := by
      intro C k0 hu ht h1 h2
      subst hu
      refine W.anew hx hb hown (hts _ (List.mem_of_getElem? h1) rfl) (hts _ (List.mem_of_getElem? h2) rfl) rfl hd rfl hn0 (by omega) hcells hslots (fun cA kA comp f1 f2 f3 f4 => ?_)
      generalize hH1 : H.push ({ cls := cA, slots := Array.replicate n.toNatClampNeg .null, vm := .none } : Cell) = H1
      have z1 : H1.size = H.size + 1 := by rw [← hH1, Array.size_push]
      have e1 : H1[H.size]? = some (arrV cA n.toNatClampNeg (fun _ => .null)) := by rw [← hH1, Array.getElem?_push_size, ← arrV_new]
      have o1 : ∀ q : Nat, q < H.size → H1[q]? = H[q]? := fun q hq => by rw [← hH1, Array.getElem?_push, if_neg (Nat.ne_of_lt hq)]
      obtain ⟨kA', comp', k1, k2, k3, k4⟩ := (hK.2 u _ ht).2
      have hc : cA = cy u := Option.some.inj (f1.symm.trans k4)
      subst hc
      rw [hR.1] at e1
      have hz : F0 m (pc + 3) ls (.ref (base + sz) :: r) = F0 m (pc + 3) ls (.ref H.size :: r) := by rw [hR.1]
      have hk2 := kk H1 (hR.new z1 o1 e1) o1
      rw [hz] at hk2
      exact hk2
    rcases hst with ⟨⟨hu, h1⟩, h2⟩ | ⟨⟨hu, h1⟩, h2⟩
    · exact key _ 3 hu rfl h1 h2
    · exact key _ 4 hu rfl h1 h2
  · cases hst
end AZ2
end
section
/-! calls; the static look at every instruction; the soundness of the abstract machine -/
def az_gw : List Jvm.Cond := lw_tbl.filter goodWord
theorem az_goodIn {y : MethodName} {b : ByteArray} {n : Nat} {r : Option FieldType} : GoodIn (.code y b n r :: az_gw) (.code y b n r :: az_gw) := by
  intro w hw
  rcases List.mem_cons.mp hw with rfl | hw
  · exact ⟨List.mem_cons_self, good_of_word rfl⟩
  · exact ⟨List.mem_cons_of_mem _ hw, good_of_word (List.mem_filter.mp hw).2⟩
theorem az_bad_use {w : Jvm.Cond} (hb : az_bad w = true) {A : Array Value} {U : State} (h : w.before #[] U = true) : w.before A U = true := by
  unfold az_bad at hb
  split at hb
  · exact va_Nw.use rfl h
  · exact va_Nw.use rfl h
  · exact va_AO.use h
  · cases hb
theorem az_bad_of {w : Jvm.Cond} (hb : az_bad w = true) {A : Array Value} {U : State} (h : w.before A U = true) : w.before #[] U = true := by
  unfold az_bad at hb
  split at hb
  · exact va_Nw.of rfl h
  · exact va_Nw.of rfl h
  · exact va_AO.of h
  · cases hb
theorem az_bad_warm {w : Jvm.Cond} (hb : az_bad w = true) {s U : State} (hW : s.WarmedH U.vm) (h : w.before #[] s = true) : w.before #[] U = true := by
  unfold az_bad at hb
  split at hb
  · exact va_Nw.warmF hW h
  · exact va_Nw.warmM hW h
  · exact va_AO.moved hW.alike h
  · cases hb
theorem az_bad_same {w : Jvm.Cond} (hb : az_bad w = true) {s U : State} (hv : s.vm = U.vm) (h : w.before #[] s = true) : w.before #[] U = true := by
  unfold az_bad at hb
  split at hb
  · exact va_Nw.same rfl hv h
  · exact va_Nw.same rfl hv h
  · exact va_AO.moved (by rw [hv]; exact Vm.Alike.refl _) h
  · cases hb
def az_N (U : State) : Prop := ∀ w ∈ lw_tbl, az_bad w = true → w.before #[] U = true
def az_nx (l : List az_E) (i pc ln : Nat) : Bool := match l[i + 1]? with
  | some q => decide (q.1 = pc + ln)
  | none => false
/-- the words of a call -/
def az_lw (own : String) (idx : Nat) (y : MethodName) (v : Int32) (j : Nat) : Bool := match lw_tbl[j]? with
  | some (.methodLink o i y') => decide (v = 0 ∧ o = own ∧ i = idx ∧ y' = y)
  | some (.methodLinkNest o i y' _) => decide (v = 1 ∧ o = own ∧ i = idx ∧ y' = y)
  | _ => false
def az_cw (h : az_H) (ins : Instr) (t u : Nat) (v : Int32) (js : List Nat) : Bool := match az_hs[t]? with
  | some h' => decide (t ≠ 0) && decide (h'.2.2.2.2.2.1 + 1 ≤ h.2.2.2.2.2.1) && decide (8 + (h'.2.2.2.1 + 11) + h'.2.2.2.2.2.2 ≤ h.2.2.2.2.2.2) && decide (h'.2.1.cls ≠ "java/lang/invoke/MethodHandle") && decide (h'.2.1.cls ≠ "java/lang/invoke/VarHandle") && decide ((parseMethodDescriptor h'.2.1.desc).map (fun d => d.parameters.length) = some u) && plainFor h'.2.1 &&
    (match ins, js with
    | .invokevirtual idx, [j0, j1, j2, j3, j4] => decide (u + 1 ≤ h'.2.2.2.1) && az_lw h.1 idx h'.2.1 v j0 && decide (lw_tbl[j1]? = some (.instanceMethod h'.2.1)) && decide (lw_tbl[j2]? = some (.initialized h'.2.1.cls)) && decide (lw_tbl[j3]? = some (.code h'.2.1 h'.2.2.1 h'.2.2.2.1 h'.2.2.2.2.1)) && decide (lw_tbl[j4]? = some (.selects h'.2.1.cls h'.2.1 h'.2.1))
    | .invokespecial idx, [j0, j1, j2, j3] => decide (u + 1 ≤ h'.2.2.2.1) && az_lw h.1 idx h'.2.1 v j0 && decide (lw_tbl[j1]? = some (.instanceMethod h'.2.1)) && decide (lw_tbl[j2]? = some (.initialized h'.2.1.cls)) && decide (lw_tbl[j3]? = some (.code h'.2.1 h'.2.2.1 h'.2.2.2.1 h'.2.2.2.2.1)) && decide (v = 0) && decide (h'.2.1.name = "<init>") && decide (h'.2.2.2.2.1 = none)
    | .invokestatic idx, [j0, j1, j2, j3] => decide (u ≤ h'.2.2.2.1) && az_lw h.1 idx h'.2.1 v j0 && decide (lw_tbl[j1]? = some (.static h'.2.1)) && decide (lw_tbl[j2]? = some (.initialized h'.2.1.cls)) && decide (lw_tbl[j3]? = some (.code h'.2.1 h'.2.2.1 h'.2.2.2.1 h'.2.2.2.2.1))
    | _, _ => false)
  | none => false
/-- the words of Object's constructor -/
def az_ow (h : az_H) (ins : Instr) (js : List Nat) : Bool := match ins, js with
  | .invokespecial idx, [j0, j1, j2] => decide (1 ≤ h.2.2.2.2.2.1) && decide (20 ≤ h.2.2.2.2.2.2) && decide (lw_tbl[j0]? = some (.methodLink h.1 idx Lib.objectInit)) && decide (lw_tbl[j1]? = some (.instanceMethod Lib.objectInit)) && decide (lw_tbl[j2]? = some (.code Lib.objectInit ⟨#[0xb1]⟩ 1 none))
  | _, _ => false
/-- the words of the one native method -/
def az_vw (h : az_H) (ins : Instr) (js : List Nat) : Bool := match ins, js with
  | .invokestatic idx, [j0, j1, j2, j3] => decide (1 ≤ h.2.2.2.2.2.1) && decide (23 ≤ h.2.2.2.2.2.2) && decide (lw_tbl[j0]? = some (.methodLink h.1 idx ⟨"java/lang/Float", "floatToRawIntBits", "(F)I"⟩)) && decide (lw_tbl[j1]? = some (.native ⟨"java/lang/Float", "floatToRawIntBits", "(F)I"⟩)) && decide (lw_tbl[j2]? = some (.static ⟨"java/lang/Float", "floatToRawIntBits", "(F)I"⟩)) && decide (lw_tbl[j3]? = some (.initialized "java/lang/Float"))
  | _, _ => false
def az_k2 (h : az_H) (l : List az_E) (i pc : Nat) (ins : Instr) (ln t u : Nat) (v : Int32) (ts js : List Nat) : Bool := match ins with
  | .goto _ => decide (ln = 3) && az_tg l pc (az_of ins) t
  | .ifCond _ _ => decide (ln = 3) && az_tg l pc (az_of ins) t && az_nx l i pc ln
  | .if_icmp _ _ => decide (ln = 3) && az_tg l pc (az_of ins) t && az_nx l i pc ln
  | .tableswitch _ _ _ _ => az_swc l pc ins t ts
  | .lookupswitch _ _ => az_swc l pc ins t ts
  | .ireturn => decide (ln = 1)
  | .areturn => decide (ln = 1)
  | .dreturn => decide (ln = 1)
  | .return_ => decide (ln = 1)
  | .getfield idx => decide (ln = 3) && az_nx l i pc ln && az_fw false h.1 h.2.1.name idx t u v js
  | .putfield idx => decide (ln = 3) && az_nx l i pc ln && az_fw true h.1 h.2.1.name idx t u v js
  | .new _ => decide (ln = 3) && az_nx l i pc ln && az_nw h.1 ins t u js
  | .newarray _ => decide (ln = 2) && az_nx l i pc ln && az_nw h.1 ins t u js
  | .anewarray _ => decide (ln = 3) && az_nx l i pc ln && az_nw h.1 ins t u js
  | .invokevirtual _ => decide (ln = 3) && az_nx l i pc ln && az_cw h ins t u v js
  | .invokespecial _ => decide (ln = 3) && az_nx l i pc ln && (if v = 2 then az_ow h ins js else az_cw h ins t u v js)
  | .invokestatic _ => decide (ln = 3) && az_nx l i pc ln && (if v = 3 then az_vw h ins js else az_cw h ins t u v js)
  | _ => decide (ln = az_len ins) && az_nx l i pc ln && az_im h.1 ins t u v js
def az_ck (h : az_H) (l : List az_E) (i : Nat) (e : az_E) : Bool := match e with
  | (pc, ins, ln, t, u, v, ts, js) => decide (decode h.2.2.1 pc = .ok (ins, ln)) && az_k2 h l i pc ins ln t u v ts js
def az_cki (h : az_H) (l : List az_E) : Nat → List az_E → Bool
  | _, [] => true
  | i, e :: es => az_ck h l i e && az_cki h l (i + 1) es
def az_ckM (h : az_H) (l : List az_E) : Bool := az_cki h l 0 l
theorem az_cki_at {h : az_H} {l : List az_E} : ∀ {es : List az_E} {i j : Nat} {e : az_E}, az_cki h l i es = true → es[j]? = some e → az_ck h l (i + j) e = true
  | [], _, _, _, _, h => by simp at h
  | e0 :: es, i, 0, e, h, hj => by
    simp only [az_cki, Bool.and_eq_true] at h
    simp only [List.getElem?_cons_zero, Option.some.injEq] at hj
    subst hj
    exact h.1
  | e0 :: es, i, j + 1, e, h, hj => by
    simp only [az_cki, Bool.and_eq_true] at h
    simp only [List.getElem?_cons_succ] at hj
    have := az_cki_at h.2 hj
    rw [show i + (j + 1) = i + 1 + j by omega]
    exact this
theorem az_k2_pu {h : az_H} {l : List az_E} {i pc : Nat} {ins : Instr} {ln t u : Nat} {v : Int32} {ts js : List Nat} {L st L' st' : List Value} (hpu : az_pu ins t u v L st = some (L', st')) (hk : az_k2 h l i pc ins ln t u v ts js = true) : ln = az_len ins ∧ az_nx l i pc ln = true ∧ az_im h.1 ins t u v js = true := by
  cases ins <;> first
    | exact nomatch (show (none : Option (List Value × List Value)) = some (L', st') from hpu)
    | (simp only [az_k2, Bool.and_eq_true, decide_eq_true_eq] at hk; exact ⟨hk.1.1, hk.1.2, hk.2⟩)
theorem az_k2_br {h : az_H} {l : List az_E} {i pc : Nat} {ins : Instr} {ln t u : Nat} {v : Int32} {ts js : List Nat} {st r : List Value} {q : Bool} (hbr : az_br ins st = some (q, r)) (hk : az_k2 h l i pc ins ln t u v ts js = true) : ln = 3 ∧ az_tg l pc (az_of ins) t = true ∧ (q = false → az_nx l i pc ln = true) := by
  cases ins <;> try exact nomatch (show (none : Option (Bool × List Value)) = some (q, r) from hbr)
  case goto z =>
    have hbr : some (true, st) = some (q, r) := hbr
    cases hbr
    simp only [az_k2, Bool.and_eq_true, decide_eq_true_eq] at hk
    exact ⟨hk.1, hk.2, fun h => by cases h⟩
  case ifCond cd z =>
    simp only [az_k2, Bool.and_eq_true, decide_eq_true_eq] at hk
    exact ⟨hk.1.1, hk.1.2, fun _ => hk.2⟩
  case if_icmp cd z =>
    simp only [az_k2, Bool.and_eq_true, decide_eq_true_eq] at hk
    exact ⟨hk.1.1, hk.1.2, fun _ => hk.2⟩
theorem az_k2_sw {h : az_H} {l : List az_E} {i pc : Nat} {ins : Instr} {ln t u : Nat} {v : Int32} {ts js : List Nat} {st r : List Value} {k : Nat} (hsw : az_sw ins t ts st = some (k, r)) (hk : az_k2 h l i pc ins ln t u v ts js = true) : az_swc l pc ins t ts = true := by
  unfold az_sw at hsw
  split at hsw
  · exact hk
  · exact hk
  · cases hsw
theorem az_k2_al {h : az_H} {l : List az_E} {i pc : Nat} {ins : Instr} {ln t u : Nat} {v : Int32} {ts js : List Nat} {k : Nat} (hal : az_al ins = some k) (hk : az_k2 h l i pc ins ln t u v ts js = true) : ln = 1 ∧ az_nx l i pc ln = true := by
  unfold az_al at hal
  split at hal <;> first | (simp only [az_k2, Bool.and_eq_true, decide_eq_true_eq] at hk; exact ⟨hk.1.1, hk.1.2⟩) | cases hal
theorem az_k2_as {h : az_H} {l : List az_E} {i pc : Nat} {ins : Instr} {ln t u : Nat} {v : Int32} {ts js : List Nat} {k : Nat} (hal : az_as ins = some k) (hk : az_k2 h l i pc ins ln t u v ts js = true) : ln = 1 ∧ az_nx l i pc ln = true := by
  unfold az_as at hal
  split at hal <;> first | (simp only [az_k2, Bool.and_eq_true, decide_eq_true_eq] at hk; exact ⟨hk.1.1, hk.1.2⟩) | cases hal
theorem az_k2_rt {h : az_H} {l : List az_E} {i pc : Nat} {ins : Instr} {ln t u : Nat} {v : Int32} {ts js : List Nat} {ret : Option FieldType} {st : List Value} {rv : Option Value} (hrt : az_rt ret ins st = some rv) (hk : az_k2 h l i pc ins ln t u v ts js = true) : ln = 1 := by
  unfold az_rt at hrt
  split at hrt <;> first | exact of_decide_eq_true hk | cases hrt
theorem az_nx_spec {l : List az_E} {i pc ln : Nat} (h : az_nx l i pc ln = true) : ∃ q : az_E, l[i + 1]? = some q ∧ q.1 = pc + ln := by
  unfold az_nx at h
  split at h
  · next q hq => exact ⟨q, hq, of_decide_eq_true h⟩
  · cases h
theorem az_lw_spec {own : String} {idx : Nat} {y : MethodName} {v : Int32} {j : Nat} (h : az_lw own idx y v j = true) : (v = 0 ∧ .methodLink own idx y ∈ lw_tbl) ∨ (v = 1 ∧ ∃ host, .methodLinkNest own idx y host ∈ lw_tbl) := by
  unfold az_lw at h
  split at h
  · next o i y' hj =>
    obtain ⟨h0, rfl, rfl, rfl⟩ := of_decide_eq_true h
    exact Or.inl ⟨h0, List.mem_of_getElem? hj⟩
  · next o i y' host hj =>
    obtain ⟨h0, rfl, rfl, rfl⟩ := of_decide_eq_true h
    exact Or.inr ⟨h0, host, List.mem_of_getElem? hj⟩
  · cases h
theorem az_tv_cat2 {b0 base : Nat} (x : Value) : (az_tv b0 base x).category = x.category := by
  cases x <;> rfl
theorem az_c8_map {b0 base : Nat} {rest : List Value} (h : az_c8 rest = true) : ((rest.map (az_tv b0 base)).map fun v => v.category).sum ≤ 8 := by
  have h1 := of_decide_eq_true h
  rw [List.map_map]
  have : (Value.category ∘ az_tv b0 base) = Value.category := funext (fun x => az_tv_cat2 x)
  show (List.map (Value.category ∘ az_tv b0 base) rest).sum ≤ 8
  rw [this]
  exact h1
/-- what is known of a frame's surroundings -/
def az_C (p : Program) (s : State) (m : MethodId) (args : Array Value) (meth : Method) (c : Code) (h : az_H) : Prop :=
  p.tables.exec = Jvm.exec ∧ c.code = h.2.2.1 ∧ c.maxLocals = h.2.2.2.1 ∧ meth.sig.returnType = h.2.2.2.2.1 ∧ s.vm.findClass h.1 = some m.cls ∧ az_T args s ∧ meth.locks = false ∧ (h.2.1.name = "<init>" → meth.name = "<init>")
/-- a method's contract, out of a run of the abstract machine -/
def az_Pc (D : va_G) (cy : Nat → ClassId) (b0 base : Nat) (As : List Value) (w : az_W) (sz : Nat) : Array Value → State → Prop := fun a U => a = (As.map (az_tv b0 base)).toArray ∧ az_Rw D cy b0 base w sz U.heap ∧ va_K D vwCl (az_tys cy) U ∧ az_N U
def az_Qc (D : va_G) (cy : Nat → ClassId) (b0 base : Nat) (r : Option Value) (w : az_W) (sz : Nat) : Array Value → State → Outcome → State → Prop := fun _ st o t => o = .returned (r.map (az_tv b0 base)) ∧ az_Rw D cy b0 base w sz t.heap ∧ ∀ q : Nat, q < base → t.heap[q]? = st.heap[q]?
def az_rm (h : az_H) (k n : Nat) : Room := { frames := h.2.2.2.2.2.1, cells := k, slots := n, locals := h.2.2.2.2.2.2 }
theorem az_blind {D : va_G} {cy : Nat → ClassId} {b0 base : Nat} {As : List Value} {w : az_W} {sz : Nat} : FrameBlind (az_Pc D cy b0 base As w sz) := by
  intro a U g mk q
  obtain ⟨q0, q1, qK, qN⟩ := q
  exact ⟨q0, q1, va_K.moved (u := U) (U := U.calling g mk a) (Vm.Alike.refl U.vm) qK, fun w hw hb => az_bad_same (s := U) (U := U.calling g mk a) hb rfl (qN w hw hb)⟩
def az_Sim (l : Launch) (X : az_X) : az_Q := fun M i L st w sz sl res =>
  sz ≤ res.2.2.1 ∧ sl ≤ res.2.2.2 ∧
  ∀ (h : az_H) (e0 : az_E), az_hs[M]? = some h → az_cd M i = some e0 →
  ∀ (p : Program) (e : Env) (R : Room) (s : State) (m : MethodId) (args : Array Value) (below : List Frame) (meth : Method) (c : Code) (D : va_G) (cy : Nat → ClassId) (b0 base : Nat) (Q : State → Prop),
    az_C p s m args meth c h → va_K D vwCl (az_tys cy) s → h.2.2.2.2.2.1 ≤ R.frames → h.2.2.2.2.2.2 ≤ R.locals →
  ∀ (H : Heap) (locs : List Loc) (cells slots : Nat) (ls : Array Slot),
    az_Rw D cy b0 base w sz H → az_LR b0 base ls h.2.2.2.1 L → (∀ q ∈ locs, base ≤ q.base) → (M = 0 → va_X b0 X.1 X.2 s H ∧ b0 < base) → cells + (res.2.2.1 - sz) ≤ R.cells → slots + (res.2.2.2 - sl) ≤ R.slots →
    (∀ (H' : Heap) (locs' : List Loc) (ls' : Array Slot) (st' : List Value) (pc' : Nat) (ins' : Instr), az_Rw D cy b0 base res.2.1 res.2.2.1 H' → (∀ q : Nat, q < base → H'[q]? = H[q]?) → (∀ q ∈ locs', base ≤ q.base) → az_rt h.2.2.2.2.1 ins' st' = some res.1 → decode h.2.2.1 pc' = .ok (ins', 1) →
      W p l e R s m args below meth c H' locs' (cells + (res.2.2.1 - sz)) (slots + (res.2.2.2 - sl)) Q (F0 m pc' ls' (st'.map (az_tv b0 base)))) →
    W p l e R s m args below meth c H locs cells slots Q (F0 m e0.1 ls (st.map (az_tv b0 base)))
theorem az_a1_sl {b0 base : Nat} : ∀ {As : List Value}, As.all az_a1 = true → lg_sl (As.map (az_tv b0 base)) = As.map (fun x => Slot.val (az_tv b0 base x))
  | [], _ => rfl
  | x :: As, h => by
    simp only [List.all_cons, Bool.and_eq_true] at h
    have ih := az_a1_sl (b0 := b0) (base := base) h.2
    have hx : ¬ (az_tv b0 base x).category = 2 := by
      rw [az_tv_cat2]
      have := h.1
      cases x <;> first | (intro q; cases q; done) | exact absurd this (by simp [az_a1])
    unfold lg_sl at ih ⊢
    simp only [List.map_cons, List.flatMap_cons, if_neg hx, ih]
    rfl
theorem az_a1_args {b0 base : Nat} : ∀ {As : List Value} {k j : Nat} {x : Value}, As.all az_a1 = true → As[j]? = some x → (k + j, az_tv b0 base x) ∈ lv_args k (As.map (az_tv b0 base))
  | [], _, _, _, _, h => by simp at h
  | y :: As, k, 0, x, h, hj => by
    simp only [List.getElem?_cons_zero, Option.some.injEq] at hj
    subst hj
    exact List.mem_cons_self
  | y :: As, k, j + 1, x, h, hj => by
    simp only [List.all_cons, Bool.and_eq_true] at h
    simp only [List.getElem?_cons_succ] at hj
    have hx : ¬ (az_tv b0 base y).category = 2 := by
      rw [az_tv_cat2]
      have := h.1
      cases y <;> first | (intro q; cases q; done) | exact absurd this (by simp [az_a1])
    have ih := az_a1_args (b0 := b0) (base := base) (k := k + 1) h.2 hj
    refine List.mem_cons.mpr (Or.inr ?_)
    rw [if_neg hx, show k + (j + 1) = k + 1 + j by omega]
    exact ih
theorem az_LR_entry {b0 base n : Nat} {As : List Value} (ha : As.all az_a1 = true) (hn : As.length ≤ n) : az_LR b0 base ((lg_sl (As.map (az_tv b0 base)) ++ List.replicate (n - (lg_sl (As.map (az_tv b0 base))).length) Slot.unset).toArray) n (az_L0 As n) := by
  have hlen : (lg_sl (As.map (az_tv b0 base))).length = As.length := by rw [az_a1_sl ha, List.length_map]
  have h1 := lv_entry (As.map (az_tv b0 base)) (n := n) (by rw [hlen]; exact hn)
  refine ⟨by simp [az_L0]; omega, h1.1, h1.2.1, fun q hq => h1.2.2 q ?_⟩
  obtain ⟨x, hx, hnn, he⟩ := az_en_inv hq
  unfold az_L0 at hx
  by_cases hl : q.1 < As.length
  · rw [List.getElem?_append_left hl] at hx
    have := az_a1_args (b0 := b0) (base := base) (k := 0) ha hx
    rw [Nat.zero_add, ← he] at this
    exact this
  · rw [List.getElem?_append_right (by omega), List.getElem?_replicate] at hx
    split at hx
    · cases hx
      exact absurd rfl hnn
    · cases hx
/-- a contract out of a walk, for any method that no native row stands for -/
theorem az_ofW {l : Launch} {y : MethodName} {ws ws' : List Jvm.Cond} {rm : Room} {Pc : Array Value → State → Prop} {Qc : Array Value → State → Outcome → State → Prop} {mc ms : Nat} {free : Addr → Prop} {cc : ByteArray} {maxL : Nat} {ret : Option FieldType}
    (hy : plainFor y = true) (hw : ws = Jvm.Cond.code y cc maxL ret :: ws')
    (body : ∀ p e s m args below meth c s₁, BodyLoose p l y (headSpec ws rm) cc maxL ret e s m args below meth c s₁ → c.maxLocals = maxL → Pc args s →
      W p l e (headSpec ws rm).room s m args below meth c s.heap [] 0 0 (MQ below Qc args s mc ms free) (entryFrame m args maxL)) : Met l y ws rm Pc Qc mc ms free := by
  refine MetFree.of_bodySF (code := cc) (maxLocals := maxL) (ret := ret) hy (fun args s m h hn => ?_) (fun p e s m args below meth c s₁ B hml hP _ => ?_)
  · obtain ⟨meth, c, h1, h2, h3, h4, h5, h6, -, -⟩ := Jvm.Cond.code_spec hn (atoms_spec (ws := ws) h _ (by rw [hw]; exact List.mem_cons_self))
    exact ⟨meth, c, h1, h2, h3, h4, h5, h6⟩
  · have hh0 : s₁.heap = s.heap := by rw [B.state]; rfl
    obtain ⟨t, a1, o, b1, b2, b3⟩ := body p e s m args below meth c s₁ B hml hP s₁ hh0 (Stand.of_body B)
    exact ⟨t, o, a1, b1, b2, ⟨b3.1, b3.2⟩⟩
set_option maxHeartbeats 2000000 in
theorem az_met {l : Launch} {X : az_X} {t : Nat} {h : az_H} {As : List Value} {w w1 : az_W} {sz sl sz1 sl1 : Nat} {r : Option Value} (hS : az_Sim l X t 0 (az_L0 As h.2.2.2.1) [] w sz sl (r, w1, sz1, sl1)) (ht : t ≠ 0) (hh : az_hs[t]? = some h) (e0 : az_E) (he0 : az_cd t 0 = some e0) (hpc : e0.1 = 0) (hpl : plainFor h.2.1 = true) (hcls : h.1 = h.2.1.cls) (ha : As.all az_a1 = true) (hn : As.length ≤ h.2.2.2.1) (D : va_G) (cy : Nat → ClassId) (b0 base : Nat) :
    Met l h.2.1 (.code h.2.1 h.2.2.1 h.2.2.2.1 h.2.2.2.2.1 :: az_gw) (az_rm h (sz1 - sz) (sl1 - sl)) (az_Pc D cy b0 base As w sz) (az_Qc D cy b0 base r w1 sz1) (sz1 - sz) (sl1 - sl) (fun q => base ≤ q) := by
  refine az_ofW (cc := h.2.2.1) (maxL := h.2.2.2.1) (ret := h.2.2.2.2.1) hpl rfl ?_
  intro p e s m args below meth c s₁ B hml hv
  obtain ⟨rfl, hR, hK, hN⟩ := hv
  have hts0 := atoms_spec (ws := .code h.2.1 h.2.2.1 h.2.2.2.1 h.2.2.2.2.1 :: az_gw) B.pre
  have hts1 : az_T (As.map (az_tv b0 base)).toArray s := by
    intro w hw h1
    simp only [az_us, Bool.or_eq_true] at h1
    rcases h1 with h1 | h1
    · exact hts0 w (List.mem_cons_of_mem _ (List.mem_filter.mpr ⟨hw, h1⟩))
    · exact az_bad_use h1 (hN w hw h1)
  have hC : az_C p s m (As.map (az_tv b0 base)).toArray meth c h := ⟨B.exec, B.bytes, hml, B.returns, by rw [hcls]; exact findClass_of_methodNamed B.named, hts1, B.notSynchronized, fun hi => by rw [(name_of_methodNamed B.named B.method).1]; exact hi⟩
  rw [lg_entry_eq]
  have hsim := hS.2.2 h e0 hh he0 p e (az_rm h (sz1 - sz) (sl1 - sl)) s m _ below meth c D cy b0 base (MQ below (az_Qc D cy b0 base r w1 sz1) (As.map (az_tv b0 base)).toArray s (sz1 - sz) (sl1 - sl) (fun q => base ≤ q)) hC hK (Nat.le_refl _) (Nat.le_refl _) s.heap [] 0 0 _ hR (az_LR_entry ha hn) (fun q hq => by cases hq) (fun h0 => absurd h0 ht) (by show 0 + (sz1 - sz) ≤ sz1 - sz; omega) (by show 0 + (sl1 - sl) ≤ sl1 - sl; omega) ?_
  · rw [hpc] at hsim
    exact hsim
  · intro H' locs' ls' st' pc' ins' hR' hfr hlo hrt hd
    refine W.cs (Nat.zero_add _) (Nat.zero_add _) ?_
    have hq : ∀ t : State, t.heap = H' → s.WarmedH t.vm → az_Qc D cy b0 base r w1 sz1 (As.map (az_tv b0 base)).toArray s (.returned (r.map (az_tv b0 base))) t := fun t ht _ => ⟨rfl, by rw [ht]; exact hR', by rw [ht]; exact hfr⟩
    have hret := hC.2.2.2.1
    unfold az_rt at hrt
    split at hrt
    · next v hre =>
      cases hrt
      rw [hre] at hret
      exact W.iret hC.1 hC.2.1 hret hq hlo hd hC.2.2.2.2.2.2.1
    · next v hre =>
      rw [hre] at hret
      split at hrt
      · next hv =>
        cases hrt
        exact W.zret (v := v) hC.1 hC.2.1 hret (by rcases hv with rfl | rfl <;> rfl) hq hlo hd hC.2.2.2.2.2.2.1
      · cases hrt
    · next nm a hre =>
      cases hrt
      rw [hre] at hret
      exact W.aret hC.1 hC.2.1 hret (Or.inl ⟨_, rfl⟩) (Or.inr ⟨_, rfl⟩) hq hlo hd hC.2.2.2.2.2.2.1
    · next x hre =>
      cases hrt
      rw [hre] at hret
      exact W.dret hC.1 hC.2.1 hret hq hlo hd hC.2.2.2.2.2.2.1
    · next hre =>
      cases hrt
      rw [hre] at hret
      exact W.vret hC.1 hC.2.1 hret hq hlo hd hC.2.2.2.2.2.2.1
    · cases hrt
end
section
section AZ3
variable {p : Program} {l : Launch} {e : Env} {R : Room} {s : State} {m : MethodId} {args : Array Value} {below : List Frame} {meth : Method} {c : Code} {H : Heap} {locs : List Loc} {cells slots : Nat} {Q : State → Prop}
variable {D : va_G} {cy : Nat → ClassId} {b0 base sz pc ln t u : Nat} {v : Int32} {js : List Nat} {ls : Array Slot} {w : az_W}
theorem az_ws_ht {h : az_H} (hts : az_T args s) (hcode : .code h.2.1 h.2.2.1 h.2.2.2.1 h.2.2.2.2.1 ∈ lw_tbl) : ∀ w ∈ (.code h.2.1 h.2.2.1 h.2.2.2.1 h.2.2.2.2.1 :: az_gw), w.before args s = true := by
  intro w hw
  rcases List.mem_cons.mp hw with rfl | hw
  · exact hts _ hcode rfl
  · obtain ⟨h1, h2⟩ := List.mem_filter.mp hw
    exact hts w h1 (by simp only [az_us, Bool.or_eq_true]; exact Or.inl h2)
set_option maxHeartbeats 2000000 in
theorem az_call_ok {h h' : az_H} {ins : Instr} {st As rest : List Value} {mc ms : Nat} {Pc : Array Value → State → Prop} {Qc : Array Value → State → Outcome → State → Prop} {free : Addr → Prop}
    (hC : az_C p s m args meth c h) (hK : va_K D vwCl (az_tys cy) s) (hR : az_Rw D cy b0 base w sz H) (hcw : az_cw h ins t u v js = true) (hh' : az_hs[t]? = some h')
    (hM : Met l h'.2.1 (.code h'.2.1 h'.2.2.1 h'.2.2.2.1 h'.2.2.2.2.1 :: az_gw) (az_rm h' mc ms) Pc Qc mc ms free) (hbl : FrameBlind Pc) (hpre : ∀ U : State, U.heap = H → s.WarmedH U.vm → Pc (As.map (az_tv b0 base)).toArray U)
    (hca : az_ca ins v h' w st u As rest) (hc8 : az_c8 rest = true) (hfr : h.2.2.2.2.2.1 ≤ R.frames) (hlo : h.2.2.2.2.2.2 ≤ R.locals) (hcells : cells + mc ≤ R.cells) (hslots : slots + ms ≤ R.slots) (hls : ls.size = h.2.2.2.1) (hd : decode h.2.2.1 pc = .ok (ins, 3)) :
    va_Run p l e R s m args below meth c H locs cells slots mc ms (F0 m pc ls (st.map (az_tv b0 base))) (rest.map (az_tv b0 base)) (Qc (As.map (az_tv b0 base)).toArray) free := by
  obtain ⟨hx, hb, hml, hret, hown, hts, hlocks, hin⟩ := hC
  unfold az_cw at hcw
  rw [hh'] at hcw
  obtain ⟨own', y', bytes', maxL', ret', fr', lo'⟩ := h'
  simp only [Bool.and_eq_true, decide_eq_true_eq] at hcw
  obtain ⟨⟨⟨⟨⟨⟨⟨ht0, hfr1⟩, hlo1⟩, hmh⟩, hvh⟩, har⟩, hpl⟩, hcw⟩ := hcw
  have hRm : (az_rm (own', y', bytes', maxL', ret', fr', lo') mc ms).frames + 1 ≤ R.frames ∧ 8 + (maxL' + 11) + (az_rm (own', y', bytes', maxL', ret', fr', lo') mc ms).locals ≤ R.locals := ⟨Nat.le_trans hfr1 hfr, Nat.le_trans hlo1 hlo⟩
  have hW8 : 2 * (F0 m pc ls (st.map (az_tv b0 base))).monitorRoom + ((rest.map (az_tv b0 base)).map fun v => v.category).sum ≤ 8 := by
    have := az_c8_map (b0 := b0) (base := base) hc8
    show 2 * 0 + _ ≤ 8
    omega
  rcases hca with ⟨idx, A0, b, ci, fs, rfl, hA, rfl, hwb, hcl, rfl⟩ | ⟨idx, A0, b, rfl, hA, rfl, rfl⟩ | ⟨idx, rfl, hA, rfl⟩
  · have hstk : (F0 m pc ls ((A0.reverse ++ .ref b :: rest).map (az_tv b0 base))).stack = (A0.map (az_tv b0 base)).reverse ++ .ref (base + b) :: rest.map (az_tv b0 base) := by
      show (A0.reverse ++ .ref b :: rest).map (az_tv b0 base) = _
      rw [List.map_append, List.map_reverse, List.map_cons]
      rfl
    split at hcw
    case h_1 idx' j0 j1 j2 j3 j4 hi =>
      cases hi
      simp only [Bool.and_eq_true, decide_eq_true_eq] at hcw
      obtain ⟨⟨⟨⟨⟨-, hl⟩, h1⟩, h2⟩, h3⟩, h4⟩ := hcw
      have hcode := List.mem_of_getElem? h3
      have hht := az_ws_ht (h := (own', y', bytes', maxL', ret', fr', lo')) hts hcode
      have hrecv : ∃ cellB : Cell, H[base + b]? = some cellB ∧ cellB.vm.isStatics = false ∧ s.vm.findClass y'.cls = some cellB.cls := by
        unfold az_cl at hcl
        split at hcl
        · next q hq =>
          have hqy : q.1 = y'.cls := of_decide_eq_true hcl
          obtain ⟨-, r1, hr1, cell, g1, g2, g3, -⟩ := hR.inr hwb (az_live hq)
          exact ⟨cell, g1, by rw [g3]; rfl, by rw [g2, ← hqy]; exact (hK.1 ci q hq).2.1⟩
        · cases hcl
      have hp : PreV s H y'.cls (base + b) Pc (A0.map (az_tv b0 base)) := ⟨hbl, hrecv, hpre⟩
      have hini : (Jvm.Cond.initialized y'.cls).before args s = true := hts _ (List.mem_of_getElem? h2) rfl
      rcases az_lw_spec hl with ⟨-, hl⟩ | ⟨-, host, hl⟩
      · exact va_runV (Ts := []) ⟨hx, hb, hml, hown, fun _ h => by cases h⟩ hM ⟨callB_of u hht az_goodIn rfl rfl rfl hini (hts _ hl rfl) ⟨hmh, hvh, har⟩ hRm, hts _ (List.mem_of_getElem? h1) rfl, hts _ (List.mem_of_getElem? h4) rfl⟩ hp rfl (by rw [List.length_map]; exact hA) hls hstk hW8 hd ⟨hcells, hslots⟩
      · exact va_runVN (Ts := []) ⟨hx, hb, hml, hown, fun _ h => by cases h⟩ hM ⟨va_cnB u hht az_goodIn rfl rfl rfl (az_bad_of rfl (hts _ hl rfl)) hini ⟨hmh, hvh, har⟩ hRm, hts _ (List.mem_of_getElem? h1) rfl, hts _ (List.mem_of_getElem? h4) rfl⟩ hp rfl (by rw [List.length_map]; exact hA) hls hstk hW8 hd ⟨hcells, hslots⟩
    case h_2 hi => cases hi
    case h_3 hi => cases hi
    case h_4 => cases hcw
  · have hstk : (F0 m pc ls ((A0.reverse ++ .ref b :: rest).map (az_tv b0 base))).stack = (A0.map (az_tv b0 base)).reverse ++ .ref (base + b) :: rest.map (az_tv b0 base) := by
      show (A0.reverse ++ .ref b :: rest).map (az_tv b0 base) = _
      rw [List.map_append, List.map_reverse, List.map_cons]
      rfl
    split at hcw
    case h_1 hi => cases hi
    case h_2 idx' j0 j1 j2 j3 hi =>
      cases hi
      simp only [Bool.and_eq_true, decide_eq_true_eq] at hcw
      obtain ⟨⟨⟨⟨⟨⟨⟨-, hl⟩, h1⟩, h2⟩, h3⟩, hv⟩, hnm⟩, hrt⟩ := hcw
      subst hrt
      have hcode := List.mem_of_getElem? h3
      have hht := az_ws_ht (h := (own', y', bytes', maxL', none, fr', lo')) hts hcode
      have hp : PreS s H Pc (.ref (base + b) :: A0.map (az_tv b0 base)) := ⟨hbl, hpre⟩
      have hini : (Jvm.Cond.initialized y'.cls).before args s = true := hts _ (List.mem_of_getElem? h2) rfl
      rcases az_lw_spec hl with ⟨-, hl⟩ | ⟨hv1, -⟩
      · exact va_runI (Ts := []) ⟨hx, hb, hml, hown, fun _ h => by cases h⟩ hM ⟨callB_of u hht az_goodIn rfl rfl rfl hini (hts _ hl rfl) ⟨hmh, hvh, har⟩ hRm, hnm, hts _ (List.mem_of_getElem? h1) rfl⟩ hp rfl (by rw [List.length_map]; exact hA) hls hstk hW8 hd ⟨hcells, hslots⟩
      · rw [hv] at hv1
        exact absurd hv1 (by decide)
    case h_3 hi => cases hi
    case h_4 => cases hcw
  · have hstk : (F0 m pc ls ((As.reverse ++ rest).map (az_tv b0 base))).stack = (As.map (az_tv b0 base)).reverse ++ rest.map (az_tv b0 base) := by
      show (As.reverse ++ rest).map (az_tv b0 base) = _
      rw [List.map_append, List.map_reverse]
    split at hcw
    case h_1 hi => cases hi
    case h_2 hi => cases hi
    case h_3 idx' j0 j1 j2 j3 hi =>
      cases hi
      simp only [Bool.and_eq_true, decide_eq_true_eq] at hcw
      obtain ⟨⟨⟨⟨-, hl⟩, h1⟩, h2⟩, h3⟩ := hcw
      have hcode := List.mem_of_getElem? h3
      have hht := az_ws_ht (h := (own', y', bytes', maxL', ret', fr', lo')) hts hcode
      have hp : PreS s H Pc (As.map (az_tv b0 base)) := ⟨hbl, hpre⟩
      have hini : (Jvm.Cond.initialized y'.cls).before args s = true := hts _ (List.mem_of_getElem? h2) rfl
      rcases az_lw_spec hl with ⟨-, hl⟩ | ⟨-, host, hl⟩
      · exact va_runS (Ts := []) ⟨hx, hb, hml, hown, fun _ h => by cases h⟩ hM ⟨callB_of u hht az_goodIn rfl rfl rfl hini (hts _ hl rfl) ⟨hmh, hvh, har⟩ hRm, hts _ (List.mem_of_getElem? h1) rfl⟩ hp rfl (by rw [List.length_map]; exact hA) hls hstk hW8 hd ⟨hcells, hslots⟩
      · exact va_runSN (Ts := []) ⟨hx, hb, hml, hown, fun _ h => by cases h⟩ hM ⟨va_cnB u hht az_goodIn rfl rfl rfl (az_bad_of rfl (hts _ hl rfl)) hini ⟨hmh, hvh, har⟩ hRm, hts _ (List.mem_of_getElem? h1) rfl, trivial⟩ hp rfl (by rw [List.length_map]; exact hA) hls hstk hW8 hd ⟨hcells, hslots⟩
    case h_4 => cases hcw
theorem az_cont {mc ms : Nat} {st0 rest : List Value} {a : Array Value} {r : Option Value} {w1 : az_W} {sz1 : Nat} (hr : va_Run p l e R s m args below meth c H locs cells slots mc ms (F0 m pc ls st0) rest (az_Qc D cy b0 base r w1 sz1 a) (fun q => base ≤ q)) (hlo : ∀ q ∈ locs, base ≤ q.base)
    (kk : ∀ (H1 : Heap) (locs1 : List Loc), az_Rw D cy b0 base w1 sz1 H1 → (∀ q : Nat, q < base → H1[q]? = H[q]?) → (∀ q ∈ locs1, base ≤ q.base) → W p l e R s m args below meth c H1 locs1 (cells + mc) (slots + ms) Q (F0 m (pc + 3) ls ((r.map (az_tv b0 base)).toList ++ rest))) : W p l e R s m args below meth c H locs cells slots Q (F0 m pc ls st0) := by
  intro T hT X
  obtain ⟨v, st₀, t, T', L, h0, X', hL, e1, e2, ⟨hv, hB, hz⟩, st⟩ := hr T hT X
  cases hv
  obtain ⟨t2, a1, b1⟩ := kk T'.heap (locs ++ L) (by rw [e1]; exact hB) (fun q h1 => by rw [e1, hz q h1, h0]) (fun q hq => by
      rcases List.mem_append.mp hq with h | h
      · exact hlo q h
      · exact hL q h) T' rfl X'
  exact ⟨t2, st t2 a1, b1⟩
end AZ3
end
section
/-! THE SOUNDNESS OF THE ABSTRACT MACHINE -/
def az_End (p : Program) (l : Launch) (e : Env) (R : Room) (s : State) (m : MethodId) (args : Array Value) (below : List Frame) (meth : Method) (c : Code) (D : va_G) (cy : Nat → ClassId) (b0 base : Nat) (Q : State → Prop) (h : az_H) (res : az_R) (H : Heap) (C S : Nat) : Prop :=
  ∀ (H' : Heap) (locs' : List Loc) (ls' : Array Slot) (st' : List Value) (pc' : Nat) (ins' : Instr), az_Rw D cy b0 base res.2.1 res.2.2.1 H' → (∀ q : Nat, q < base → H'[q]? = H[q]?) → (∀ q ∈ locs', base ≤ q.base) → az_rt h.2.2.2.2.1 ins' st' = some res.1 → decode h.2.2.1 pc' = .ok (ins', 1) →
      W p l e R s m args below meth c H' locs' C S Q (F0 m pc' ls' (st'.map (az_tv b0 base)))
def az_OK : Prop := ∀ (M : Nat) (h : az_H) (lc : List az_E), az_hs[M]? = some h → az_cs[M]? = some lc → az_ckM h lc = true ∧ (M ≠ 0 → h.1 = h.2.1.cls) ∧ ∃ e, lc[0]? = some e ∧ e.1 = 0
theorem az_cd_spec {M i : Nat} {e : az_E} (h : az_cd M i = some e) : ∃ lc, az_cs[M]? = some lc ∧ lc[i]? = some e := by
  unfold az_cd at h
  split at h
  · next lc hlc => exact ⟨lc, hlc, h⟩
  · cases h
theorem az_cd_of {M i : Nat} {e : az_E} {lc : List az_E} (h : az_cs[M]? = some lc) (he : lc[i]? = some e) : az_cd M i = some e := by
  unfold az_cd
  rw [h]
  exact he
theorem az_X_kept {b0 b L : Nat} {xs : Nat → Int32} {s : State} {H H1 : Heap} (h : va_X b L xs s H) (hq : H1[b]? = H[b]?) : va_X b L xs s H1 := by
  obtain ⟨scr, h1, h2⟩ := h
  exact ⟨scr, hq.trans h1, h2⟩
section AZ4
variable {p : Program} {l : Launch} {e : Env} {R : Room} {s : State} {m : MethodId} {args : Array Value} {below : List Frame} {meth : Method} {c : Code} {H H1 : Heap} {locs1 : List Loc} {cells slots : Nat} {Q : State → Prop}
variable {D : va_G} {cy : Nat → ClassId} {b0 base C S : Nat} {ls : Array Slot} {h : az_H} {X : az_X} {M k : Nat} {L st : List Value} {w : az_W} {sz sl : Nat} {res : az_R} {q : az_E}
theorem az_go (hP : az_Sim l X M k L st w sz sl res) (hh : az_hs[M]? = some h) (hq : az_cd M k = some q) (hC : az_C p s m args meth c h) (hK : va_K D vwCl (az_tys cy) s) (hfr : h.2.2.2.2.2.1 ≤ R.frames) (hlo : h.2.2.2.2.2.2 ≤ R.locals)
    (hR : az_Rw D cy b0 base w sz H1) (hLR : az_LR b0 base ls h.2.2.2.1 L) (hloc : ∀ q ∈ locs1, base ≤ q.base) (hb : ∀ q : Nat, q < base → H1[q]? = H[q]?) (hscr : M = 0 → va_X b0 X.1 X.2 s H ∧ b0 < base)
    (hc : cells + (res.2.2.1 - sz) = C) (hs : slots + (res.2.2.2 - sl) = S) (hce : C ≤ R.cells) (hsl : S ≤ R.slots) (hend : az_End p l e R s m args below meth c D cy b0 base Q h res H C S) :
    W p l e R s m args below meth c H1 locs1 cells slots Q (F0 m q.1 ls (st.map (az_tv b0 base))) := by
  subst hc
  subst hs
  exact hP.2.2 h q hh hq p e R s m args below meth c D cy b0 base Q hC hK hfr hlo H1 locs1 cells slots ls hR hLR hloc (fun h0 => ⟨az_X_kept (b0 := b0) (hscr h0).1 (hb _ (hscr h0).2), (hscr h0).2⟩) hce hsl
    (fun H' locs' ls' st' pc' ins' h1 h2 h3 h4 h5 => hend H' locs' ls' st' pc' ins' h1 (fun q hq => (h2 q hq).trans (hb q hq)) h3 h4 h5)
end AZ4
set_option maxHeartbeats 4000000 in
theorem az_sound (hok : az_OK) (l : Launch) (X : az_X) : ∀ M i L st w sz sl res, az_st X (az_Sim l X) M i L st w sz sl res → az_Sim l X M i L st w sz sl res := by
  intro M i L st w sz sl res hst
  obtain ⟨pc, ins, ln, t, u, v, ts, js, hcd, hst⟩ := hst
  obtain ⟨lc, hlc, hent⟩ := az_cd_spec hcd
  have chk : ∀ h : az_H, az_hs[M]? = some h → decode h.2.2.1 pc = .ok (ins, ln) ∧ az_k2 h lc i pc ins ln t u v ts js = true := by
    intro h hh
    have h1 := az_cki_at (hok M h lc hh hlc).1 hent
    rw [Nat.zero_add] at h1
    simp only [az_ck, Bool.and_eq_true, decide_eq_true_eq] at h1
    exact h1
  have nxt : ∀ {h : az_H}, az_nx lc i pc ln = true → ∃ q : az_E, az_cd M (i + 1) = some q ∧ q.1 = pc + ln := by
    intro h hn
    obtain ⟨q, h1, h2⟩ := az_nx_spec hn
    exact ⟨q, az_cd_of hlc h1, h2⟩
  rcases hst with ⟨L', st', hpu, hP⟩ | ⟨q, r, hbr, hPt, hPf⟩ | ⟨k, r, hsw, hP⟩ | ⟨idx, a, r, fs, x, rfl, rfl, hw, hu, hP⟩ | ⟨idx, a, r, fs, x, rfl, rfl, hw, hu, hf, hP⟩ | ⟨j, q, r, rfl, rfl, hM, hj, hP⟩ | ⟨q, r, rfl, rfl, hM, hP⟩ | ⟨j, a, r, k, n, f, hal, rfl, hw, hj, hP⟩ | ⟨x, j, a, r, k, n, f, has, rfl, hw, hj, hP⟩ | ⟨j, a, r, k, n, f, y, rfl, rfl, hw, hk, hj, hy, hP⟩ | ⟨y, j, a, r, k, n, f, ci, fs, rfl, rfl, hw, hwy, hk, hj, hP⟩ | ⟨a, r, k, n, A, rfl, rfl, hw, hk, hP⟩ | ⟨idx, rfl, hP⟩ | ⟨ty, n, r, rfl, rfl, hn, hP⟩ | ⟨idx, n, r, rfl, rfl, hn, hP⟩ | ⟨h', As, rest, r, w1, sz1, sl1, hh', hv, hca, ha1, hc8, hPc, hP⟩ | ⟨idx, a, rest, rfl, rfl, rfl, hc8, hP⟩ | ⟨idx, b, rest, rfl, rfl, rfl, hc8, hP⟩ | ⟨h', rv, hh', hrt, rfl⟩
  · refine ⟨hP.1, hP.2.1, fun h e0 hh he0 p e R s m args below meth c D cy b0 base Q hC hK hfr hlo H locs cells slots ls hR hLR hloc hscr hce hsl hend => ?_⟩
    cases hcd.symm.trans he0
    obtain ⟨hd, hk2⟩ := chk h hh
    obtain ⟨hln, hnx, him⟩ := az_k2_pu hpu hk2
    obtain ⟨q, hq, hqpc⟩ := nxt (h := h) hnx
    refine az_pu_ok hC.1 hC.2.1 hC.2.2.2.2.1 hC.2.2.2.2.2.1 hpu hd hln him hLR (fun ls' hLR' => ?_)
    have h9 := az_go (H := H) (H1 := H) (ls := ls') (cells := cells) (slots := slots) hP hh hq hC hK hfr hlo hR hLR' hloc (fun _ _ => rfl) hscr rfl rfl hce hsl hend
    rw [hqpc] at h9
    exact h9
  · have hm : sz ≤ res.2.2.1 ∧ sl ≤ res.2.2.2 := by
      cases q with
      | true => exact ⟨(hPt rfl).1, (hPt rfl).2.1⟩
      | false => exact ⟨(hPf rfl).1, (hPf rfl).2.1⟩
    refine ⟨hm.1, hm.2, fun h e0 hh he0 p e R s m args below meth c D cy b0 base Q hC hK hfr hlo H locs cells slots ls hR hLR hloc hscr hce hsl hend => ?_⟩
    cases hcd.symm.trans he0
    obtain ⟨hd, hk2⟩ := chk h hh
    obtain ⟨hln, htg, hnx⟩ := az_k2_br hbr hk2
    obtain ⟨q1, hq1, hq2⟩ := az_tg_spec htg
    refine az_br_ok (tgt := q1.1) hC.1 hC.2.1 hbr hd hln hq2 (fun hqt => ?_) (fun hqf => ?_)
    · exact az_go (H := H) (hPt hqt) hh (az_cd_of hlc hq1) hC hK hfr hlo hR hLR hloc (fun _ _ => rfl) hscr rfl rfl hce hsl hend
    · obtain ⟨q, hq, hqpc⟩ := nxt (h := h) (hnx hqf)
      have h9 := az_go (H := H) (H1 := H) (ls := ls) (cells := cells) (slots := slots) (hPf hqf) hh hq hC hK hfr hlo hR hLR hloc (fun _ _ => rfl) hscr rfl rfl hce hsl hend
      rw [hqpc] at h9
      exact h9
  · refine ⟨hP.1, hP.2.1, fun h e0 hh he0 p e R s m args below meth c D cy b0 base Q hC hK hfr hlo H locs cells slots ls hR hLR hloc hscr hce hsl hend => ?_⟩
    cases hcd.symm.trans he0
    obtain ⟨hd, hk2⟩ := chk h hh
    exact az_sw_ok hC.1 hC.2.1 hsw hd (az_k2_sw hsw hk2) (fun q1 hq1 => az_go (H := H) hP hh (az_cd_of hlc hq1) hC hK hfr hlo hR hLR hloc (fun _ _ => rfl) hscr rfl rfl hce hsl hend)
  · refine ⟨hP.1, hP.2.1, fun h e0 hh he0 p e R s m args below meth c D cy b0 base Q hC hK hfr hlo H locs cells slots ls hR hLR hloc hscr hce hsl hend => ?_⟩
    cases hcd.symm.trans he0
    obtain ⟨hd, hk2⟩ := chk h hh
    simp only [az_k2, Bool.and_eq_true, decide_eq_true_eq] at hk2
    obtain ⟨⟨hln, hnx⟩, him⟩ := hk2
    obtain ⟨q, hq, hqpc⟩ := nxt (h := h) hnx
    refine az_get_ok hC.1 hC.2.1 hC.2.2.2.2.1 hC.2.2.2.2.2.1 hK hR hw hu hd hln him ?_
    have h9 := az_go (H := H) (H1 := H) (ls := ls) (cells := cells) (slots := slots) hP hh hq hC hK hfr hlo hR hLR hloc (fun _ _ => rfl) hscr rfl rfl hce hsl hend
    rw [hqpc] at h9
    exact h9
  · refine ⟨hP.1, hP.2.1, fun h e0 hh he0 p e R s m args below meth c D cy b0 base Q hC hK hfr hlo H locs cells slots ls hR hLR hloc hscr hce hsl hend => ?_⟩
    cases hcd.symm.trans he0
    obtain ⟨hd, hk2⟩ := chk h hh
    simp only [az_k2, Bool.and_eq_true, decide_eq_true_eq] at hk2
    obtain ⟨⟨hln, hnx⟩, him⟩ := hk2
    obtain ⟨q, hq, hqpc⟩ := nxt (h := h) hnx
    refine az_put_ok hC.1 hC.2.1 hC.2.2.2.2.1 hC.2.2.2.2.2.2.2 hC.2.2.2.2.2.1 hK hR hw hu hf hd hln him (fun H1 z hR1 o1 => ?_)
    have h9 := az_go (H := H) (H1 := H1) (locs1 := locs ++ [⟨base + a, z⟩]) (ls := ls) (cells := cells) (slots := slots) hP hh hq hC hK hfr hlo hR1 hLR (fun q hq => by
        rcases List.mem_append.mp hq with h1 | h1
        · exact hloc q h1
        · cases List.mem_singleton.mp h1
          exact (Nat.le_add_right base a : base ≤ base + a)) (fun q hq => o1 q (by omega)) hscr rfl rfl hce hsl hend
    rw [hqpc] at h9
    exact h9
  · refine ⟨hP.1, hP.2.1, fun h e0 hh he0 p e R s m args below meth c D cy b0 base Q hC hK hfr hlo H locs cells slots ls hR hLR hloc hscr hce hsl hend => ?_⟩
    cases hcd.symm.trans he0
    obtain ⟨hd, hk2⟩ := chk h hh
    simp only [az_k2, Bool.and_eq_true, decide_eq_true_eq] at hk2
    obtain ⟨⟨hln, hnx⟩, him⟩ := hk2
    obtain ⟨q, hq, hqpc⟩ := nxt (h := h) hnx
    obtain ⟨hX, hbb⟩ := hscr hM
    have hln1 : ln = 1 := hln
    subst hln1
    refine va_sld (H0 := H) (A := fun q => base ≤ q) hC.1 hC.2.1 hX (by obtain ⟨scr, h1, -⟩ := hX; exact (Array.getElem?_eq_some_iff.mp h1).1) (Nat.not_le.mpr hbb) ⟨Nat.le_refl _, fun _ _ _ => rfl, hloc⟩ hj hd ?_
    have h9 := az_go (H := H) (H1 := H) (ls := ls) (cells := cells) (slots := slots) hP hh hq hC hK hfr hlo hR hLR hloc (fun _ _ => rfl) hscr rfl rfl hce hsl hend
    rw [hqpc] at h9
    exact h9
  · refine ⟨hP.1, hP.2.1, fun h e0 hh he0 p e R s m args below meth c D cy b0 base Q hC hK hfr hlo H locs cells slots ls hR hLR hloc hscr hce hsl hend => ?_⟩
    cases hcd.symm.trans he0
    obtain ⟨hd, hk2⟩ := chk h hh
    simp only [az_k2, Bool.and_eq_true, decide_eq_true_eq] at hk2
    obtain ⟨⟨hln, hnx⟩, him⟩ := hk2
    obtain ⟨q, hq, hqpc⟩ := nxt (h := h) hnx
    obtain ⟨hX, hbb⟩ := hscr hM
    have hln1 : ln = 1 := hln
    subst hln1
    refine va_slen (H0 := H) (A := fun q => base ≤ q) hC.1 hC.2.1 hX (by obtain ⟨scr, h1, -⟩ := hX; exact (Array.getElem?_eq_some_iff.mp h1).1) (Nat.not_le.mpr hbb) ⟨Nat.le_refl _, fun _ _ _ => rfl, hloc⟩ hd ?_
    have h9 := az_go (H := H) (H1 := H) (ls := ls) (cells := cells) (slots := slots) hP hh hq hC hK hfr hlo hR hLR hloc (fun _ _ => rfl) hscr rfl rfl hce hsl hend
    rw [hqpc] at h9
    exact h9
  · refine ⟨hP.1, hP.2.1, fun h e0 hh he0 p e R s m args below meth c D cy b0 base Q hC hK hfr hlo H locs cells slots ls hR hLR hloc hscr hce hsl hend => ?_⟩
    cases hcd.symm.trans he0
    obtain ⟨hd, hk2⟩ := chk h hh
    obtain ⟨hln, hnx⟩ := az_k2_al hal hk2
    obtain ⟨q, hq, hqpc⟩ := nxt (h := h) hnx
    refine az_ald_ok hC.1 hC.2.1 hK hR hal hw hj hd hln ?_
    have h9 := az_go (H := H) (H1 := H) (ls := ls) (cells := cells) (slots := slots) hP hh hq hC hK hfr hlo hR hLR hloc (fun _ _ => rfl) hscr rfl rfl hce hsl hend
    rw [hqpc] at h9
    exact h9
  · refine ⟨hP.1, hP.2.1, fun h e0 hh he0 p e R s m args below meth c D cy b0 base Q hC hK hfr hlo H locs cells slots ls hR hLR hloc hscr hce hsl hend => ?_⟩
    cases hcd.symm.trans he0
    obtain ⟨hd, hk2⟩ := chk h hh
    obtain ⟨hln, hnx⟩ := az_k2_as has hk2
    obtain ⟨q, hq, hqpc⟩ := nxt (h := h) hnx
    refine az_ast_ok hC.1 hC.2.1 hK hR has hw hj hd hln (fun H1 z hR1 o1 => ?_)
    have h9 := az_go (H := H) (H1 := H1) (locs1 := locs ++ [⟨base + a, z⟩]) (ls := ls) (cells := cells) (slots := slots) hP hh hq hC hK hfr hlo hR1 hLR (fun q hq => by
        rcases List.mem_append.mp hq with h1 | h1
        · exact hloc q h1
        · cases List.mem_singleton.mp h1
          exact (Nat.le_add_right base a : base ≤ base + a)) (fun q hq => o1 q (by omega)) hscr rfl rfl hce hsl hend
    rw [hqpc] at h9
    exact h9
  · refine ⟨hP.1, hP.2.1, fun h e0 hh he0 p e R s m args below meth c D cy b0 base Q hC hK hfr hlo H locs cells slots ls hR hLR hloc hscr hce hsl hend => ?_⟩
    cases hcd.symm.trans he0
    obtain ⟨hd, hk2⟩ := chk h hh
    simp only [az_k2, Bool.and_eq_true, decide_eq_true_eq] at hk2
    obtain ⟨⟨hln, hnx⟩, him⟩ := hk2
    obtain ⟨q, hq, hqpc⟩ := nxt (h := h) hnx
    refine az_aald_ok hC.1 hC.2.1 hK hR hw hk hj hy hd hln ?_
    have h9 := az_go (H := H) (H1 := H) (ls := ls) (cells := cells) (slots := slots) hP hh hq hC hK hfr hlo hR hLR hloc (fun _ _ => rfl) hscr rfl rfl hce hsl hend
    rw [hqpc] at h9
    exact h9
  · refine ⟨hP.1, hP.2.1, fun h e0 hh he0 p e R s m args below meth c D cy b0 base Q hC hK hfr hlo H locs cells slots ls hR hLR hloc hscr hce hsl hend => ?_⟩
    cases hcd.symm.trans he0
    obtain ⟨hd, hk2⟩ := chk h hh
    simp only [az_k2, Bool.and_eq_true, decide_eq_true_eq] at hk2
    obtain ⟨⟨hln, hnx⟩, him⟩ := hk2
    obtain ⟨q, hq, hqpc⟩ := nxt (h := h) hnx
    refine az_aast_ok hC.1 hC.2.1 hK hR hw hwy hk hj hd hln (fun H1 z hR1 o1 => ?_)
    have h9 := az_go (H := H) (H1 := H1) (locs1 := locs ++ [⟨base + a, z⟩]) (ls := ls) (cells := cells) (slots := slots) hP hh hq hC hK hfr hlo hR1 hLR (fun q hq => by
        rcases List.mem_append.mp hq with h1 | h1
        · exact hloc q h1
        · cases List.mem_singleton.mp h1
          exact (Nat.le_add_right base a : base ≤ base + a)) (fun q hq => o1 q (by omega)) hscr rfl rfl hce hsl hend
    rw [hqpc] at h9
    exact h9
  · refine ⟨hP.1, hP.2.1, fun h e0 hh he0 p e R s m args below meth c D cy b0 base Q hC hK hfr hlo H locs cells slots ls hR hLR hloc hscr hce hsl hend => ?_⟩
    cases hcd.symm.trans he0
    obtain ⟨hd, hk2⟩ := chk h hh
    simp only [az_k2, Bool.and_eq_true, decide_eq_true_eq] at hk2
    obtain ⟨⟨hln, hnx⟩, him⟩ := hk2
    obtain ⟨q, hq, hqpc⟩ := nxt (h := h) hnx
    refine az_alen_ok hC.1 hC.2.1 hK hR hw hk hd hln ?_
    have h9 := az_go (H := H) (H1 := H) (ls := ls) (cells := cells) (slots := slots) hP hh hq hC hK hfr hlo hR hLR hloc (fun _ _ => rfl) hscr rfl rfl hce hsl hend
    rw [hqpc] at h9
    exact h9
  · refine ⟨Nat.le_trans (Nat.le_succ _) hP.1, Nat.le_trans (Nat.le_add_right _ _) hP.2.1, fun h e0 hh he0 p e R s m args below meth c D cy b0 base Q hC hK hfr hlo H locs cells slots ls hR hLR hloc hscr hce hsl hend => ?_⟩
    cases hcd.symm.trans he0
    obtain ⟨hd, hk2⟩ := chk h hh
    simp only [az_k2, Bool.and_eq_true, decide_eq_true_eq] at hk2
    obtain ⟨⟨hln, hnx⟩, him⟩ := hk2
    obtain ⟨q, hq, hqpc⟩ := nxt (h := h) hnx
    refine az_new_ok hC.1 hC.2.1 hC.2.2.2.2.1 hC.2.2.2.2.2.1 hK hR hd hln him (by have := hP.1; omega) (by have := hP.2.1; omega) (fun H1 hR1 o1 => ?_)
    have h9 := az_go (H := H) (H1 := H1) (ls := ls) (cells := cells + 1) (slots := slots + u) (C := cells + (res.2.2.1 - sz)) (S := slots + (res.2.2.2 - sl)) hP hh hq hC hK hfr hlo hR1 hLR hloc (fun q hq => o1 q (by rw [hR.1]; omega)) hscr (by have := hP.1; omega) (by have := hP.2.1; omega) hce hsl hend
    rw [hqpc] at h9
    exact h9
  · refine ⟨Nat.le_trans (Nat.le_succ _) hP.1, Nat.le_trans (Nat.le_add_right _ _) hP.2.1, fun h e0 hh he0 p e R s m args below meth c D cy b0 base Q hC hK hfr hlo H locs cells slots ls hR hLR hloc hscr hce hsl hend => ?_⟩
    cases hcd.symm.trans he0
    obtain ⟨hd, hk2⟩ := chk h hh
    simp only [az_k2, Bool.and_eq_true, decide_eq_true_eq] at hk2
    obtain ⟨⟨hln, hnx⟩, him⟩ := hk2
    obtain ⟨q, hq, hqpc⟩ := nxt (h := h) hnx
    refine az_newa_ok hC.1 hC.2.1 hC.2.2.2.2.2.1 hK hR hn hd hln him (by have := hP.1; omega) (by have := hP.2.1; omega) (fun H1 hR1 o1 => ?_)
    have h9 := az_go (H := H) (H1 := H1) (ls := ls) (cells := cells + 1) (slots := slots + n.toNatClampNeg) (C := cells + (res.2.2.1 - sz)) (S := slots + (res.2.2.2 - sl)) hP hh hq hC hK hfr hlo hR1 hLR hloc (fun q hq => o1 q (by rw [hR.1]; omega)) hscr (by have := hP.1; omega) (by have := hP.2.1; omega) hce hsl hend
    rw [hqpc] at h9
    exact h9
  · refine ⟨Nat.le_trans (Nat.le_succ _) hP.1, Nat.le_trans (Nat.le_add_right _ _) hP.2.1, fun h e0 hh he0 p e R s m args below meth c D cy b0 base Q hC hK hfr hlo H locs cells slots ls hR hLR hloc hscr hce hsl hend => ?_⟩
    cases hcd.symm.trans he0
    obtain ⟨hd, hk2⟩ := chk h hh
    simp only [az_k2, Bool.and_eq_true, decide_eq_true_eq] at hk2
    obtain ⟨⟨hln, hnx⟩, him⟩ := hk2
    obtain ⟨q, hq, hqpc⟩ := nxt (h := h) hnx
    refine az_anew_ok hC.1 hC.2.1 hC.2.2.2.2.1 hC.2.2.2.2.2.1 hK hR hn hd hln him (by have := hP.1; omega) (by have := hP.2.1; omega) (fun H1 hR1 o1 => ?_)
    have h9 := az_go (H := H) (H1 := H1) (ls := ls) (cells := cells + 1) (slots := slots + n.toNatClampNeg) (C := cells + (res.2.2.1 - sz)) (S := slots + (res.2.2.2 - sl)) hP hh hq hC hK hfr hlo hR1 hLR hloc (fun q hq => o1 q (by rw [hR.1]; omega)) hscr (by have := hP.1; omega) (by have := hP.2.1; omega) hce hsl hend
    rw [hqpc] at h9
    exact h9
  · refine ⟨Nat.le_trans hPc.1 hP.1, Nat.le_trans hPc.2.1 hP.2.1, fun h e0 hh he0 p e R s m args below meth c D cy b0 base Q hC hK hfr hlo H locs cells slots ls hR hLR hloc hscr hce hsl hend => ?_⟩
    cases hcd.symm.trans he0
    obtain ⟨hd, hk2⟩ := chk h hh
    have hz1 : sz ≤ sz1 := hPc.1
    have hz2 : sl ≤ sl1 := hPc.2.1
    have hcwl : ln = 3 ∧ az_nx lc i pc ln = true ∧ az_cw h ins t u v js = true := by
      rcases hca with ⟨idx, A0, b, ci, fs, rfl, -⟩ | ⟨idx, A0, b, rfl, -⟩ | ⟨idx, rfl, -⟩
      · simp only [az_k2, Bool.and_eq_true, decide_eq_true_eq] at hk2
        exact ⟨hk2.1.1, hk2.1.2, hk2.2⟩
      · have hv2 : ¬ v = 2 := by rcases hv with rfl | rfl <;> decide
        simp only [az_k2, Bool.and_eq_true, decide_eq_true_eq, if_neg hv2] at hk2
        exact ⟨hk2.1.1, hk2.1.2, hk2.2⟩
      · have hv2 : ¬ v = 3 := by rcases hv with rfl | rfl <;> decide
        simp only [az_k2, Bool.and_eq_true, decide_eq_true_eq, if_neg hv2] at hk2
        exact ⟨hk2.1.1, hk2.1.2, hk2.2⟩
    obtain ⟨hln, hnx, hcw⟩ := hcwl
    subst hln
    obtain ⟨q, hq, hqpc⟩ := nxt (h := h) hnx
    have hfacts : t ≠ 0 ∧ plainFor h'.2.1 = true ∧ As.length ≤ h'.2.2.2.1 := by
      have hcw2 := hcw
      unfold az_cw at hcw2
      rw [hh'] at hcw2
      simp only [Bool.and_eq_true, decide_eq_true_eq] at hcw2
      obtain ⟨⟨⟨⟨⟨⟨⟨ht0, -⟩, -⟩, -⟩, -⟩, -⟩, hpl⟩, hcw2⟩ := hcw2
      refine ⟨ht0, hpl, ?_⟩
      rcases hca with ⟨idx, A0, b, ci, fs, rfl, hA, -, -, -, rfl⟩ | ⟨idx, A0, b, rfl, hA, -, rfl⟩ | ⟨idx, rfl, hA, -⟩
      · split at hcw2
        · simp only [Bool.and_eq_true, decide_eq_true_eq] at hcw2
          rw [List.length_cons, hA]
          exact hcw2.1.1.1.1.1
        · next hi => cases hi
        · next hi => cases hi
        · cases hcw2
      · split at hcw2
        · next hi => cases hi
        · simp only [Bool.and_eq_true, decide_eq_true_eq] at hcw2
          rw [List.length_cons, hA]
          exact hcw2.1.1.1.1.1.1.1
        · next hi => cases hi
        · cases hcw2
      · split at hcw2
        · next hi => cases hi
        · next hi => cases hi
        · simp only [Bool.and_eq_true, decide_eq_true_eq] at hcw2
          rw [hA]
          exact hcw2.1.1.1.1
        · cases hcw2
    obtain ⟨ht0, hpl, hAn⟩ := hfacts
    obtain ⟨lt, hlt⟩ : ∃ lt, az_cs[t]? = some lt := by
      have hlen : az_cs.length = az_hs.length := rfl
      have h1 := (List.getElem?_eq_some_iff.mp hh').1
      exact ⟨_, List.getElem?_eq_getElem (by rw [hlen]; exact h1)⟩
    obtain ⟨-, hcls, e1, he1, hpc1⟩ := hok t h' lt hh' hlt
    have hMet := az_met hPc ht0 hh' e1 (az_cd_of hlt he1) hpc1 hpl (hcls ht0) ha1 hAn D cy b0 base
    have hrun := az_call_ok (e := e) (R := R) (below := below) (meth := meth) (c := c) (H := H) (locs := locs) (cells := cells) (slots := slots) hC hK hR hcw hh' hMet az_blind (fun U hU hW => ⟨rfl, by rw [hU]; exact hR, va_K.moved hW.alike hK, fun w hw hb => az_bad_warm hb hW (az_bad_of hb (hC.2.2.2.2.2.1 w hw (by simp only [az_us, Bool.or_eq_true]; exact Or.inr hb)))⟩) hca hc8 hfr hlo (by have := hP.1; omega) (by have := hP.2.1; omega) (show ls.size = h.2.2.2.1 from hLR.2.1) hd
    refine az_cont hrun hloc (fun H1 locs1 hR1 hb1 hl1 => ?_)
    have h9 := az_go (H := H) (H1 := H1) (locs1 := locs1) (ls := ls) (cells := cells + (sz1 - sz)) (slots := slots + (sl1 - sl)) (C := cells + (res.2.2.1 - sz)) (S := slots + (res.2.2.2 - sl)) hP hh hq hC hK hfr hlo hR1 hLR hl1 hb1 hscr (by have := hP.1; omega) (by have := hP.2.1; omega) hce hsl hend
    rw [hqpc, List.map_append] at h9
    have e9 : (r.map (az_tv b0 base)).toList = r.toList.map (az_tv b0 base) := by cases r <;> rfl
    rw [e9]
    exact h9
  · refine ⟨hP.1, hP.2.1, fun h e0 hh he0 p e R s m args below meth c D cy b0 base Q hC hK hfr hlo H locs cells slots ls hR hLR hloc hscr hce hsl hend => ?_⟩
    cases hcd.symm.trans he0
    obtain ⟨hd, hk2⟩ := chk h hh
    simp only [az_k2, Bool.and_eq_true, decide_eq_true_eq, if_pos] at hk2
    obtain ⟨⟨hln, hnx⟩, how⟩ := hk2
    subst hln
    obtain ⟨q, hq, hqpc⟩ := nxt (h := h) hnx
    unfold az_ow at how
    split at how
    · next idx' j0 j1 j2 hi =>
      cases hi
      simp only [Bool.and_eq_true, decide_eq_true_eq] at how
      obtain ⟨⟨⟨⟨h1, h2⟩, h3⟩, h4⟩, h5⟩ := how
      have hc9 := az_c8_map (b0 := b0) (base := base) hc8
      refine W.objInit hC.1 hC.2.1 hC.2.2.2.2.1 (hC.2.2.2.2.2.1 _ (List.mem_of_getElem? h3) rfl) (hC.2.2.2.2.2.1 _ (List.mem_of_getElem? h4) rfl) (hC.2.2.2.2.2.1 _ (List.mem_of_getElem? h5) rfl) rfl (by rw [hC.2.2.1]; exact hLR.2.1) rfl hd (Nat.le_trans h1 hfr) (by show 2 * 0 + _ + 12 ≤ R.locals; omega) ?_
      have h9 := az_go (H := H) (H1 := H) (ls := ls) (cells := cells) (slots := slots) hP hh hq hC hK hfr hlo hR hLR hloc (fun _ _ => rfl) hscr rfl rfl hce hsl hend
      rw [hqpc] at h9
      exact h9
    · cases how
  · refine ⟨hP.1, hP.2.1, fun h e0 hh he0 p e R s m args below meth c D cy b0 base Q hC hK hfr hlo H locs cells slots ls hR hLR hloc hscr hce hsl hend => ?_⟩
    cases hcd.symm.trans he0
    obtain ⟨hd, hk2⟩ := chk h hh
    simp only [az_k2, Bool.and_eq_true, decide_eq_true_eq, if_pos] at hk2
    obtain ⟨⟨hln, hnx⟩, how⟩ := hk2
    subst hln
    obtain ⟨q, hq, hqpc⟩ := nxt (h := h) hnx
    unfold az_vw at how
    split at how
    · next idx' j0 j1 j2 j3 hi =>
      cases hi
      simp only [Bool.and_eq_true, decide_eq_true_eq] at how
      obtain ⟨⟨⟨⟨⟨h1, h2⟩, h3⟩, h4⟩, h5⟩, h6⟩ := how
      have hc9 := az_c8_map (b0 := b0) (base := base) hc8
      refine vn_f2i hC.1 hC.2.1 (by rw [hC.2.2.1]; exact hLR.2.1.symm) hC.2.2.2.2.1 (hC.2.2.2.2.2.1 _ (List.mem_of_getElem? h3) rfl) (hC.2.2.2.2.2.1 _ (List.mem_of_getElem? h4) rfl) (hC.2.2.2.2.2.1 _ (List.mem_of_getElem? h5) rfl) (hC.2.2.2.2.2.1 _ (List.mem_of_getElem? h6) rfl) (Nat.le_trans h1 hfr) (by omega) hd ?_
      have h9 := az_go (H := H) (H1 := H) (ls := ls) (cells := cells) (slots := slots) hP hh hq hC hK hfr hlo hR hLR hloc (fun _ _ => rfl) hscr rfl rfl hce hsl hend
      rw [hqpc] at h9
      exact h9
    · cases how
  · refine ⟨Nat.le_refl _, Nat.le_refl _, fun h e0 hh he0 p e R s m args below meth c D cy b0 base Q hC hK hfr hlo H locs cells slots ls hR hLR hloc hscr hce hsl hend => ?_⟩
    cases hcd.symm.trans he0
    obtain ⟨hd, hk2⟩ := chk h hh
    cases hh.symm.trans hh'
    have hln := az_k2_rt hrt hk2
    subst hln
    have h9 := hend H locs ls st pc ins hR (fun _ _ => rfl) hloc hrt hd
    refine W.cs (by show cells = cells + (sz - sz); omega) (by show slots = slots + (sl - sl); omega) h9
end
section
/-! the static look at every instruction of every method -/
def az_ckA (M : Nat) : Bool := match az_hs[M]?, az_cs[M]? with
  | some h, some lc => az_ckM h lc && (decide (M = 0) || decide (h.1 = h.2.1.cls)) && (match lc[0]? with
    | some e => decide (e.1 = 0)
    | none => false)
  | _, _ => false
theorem az_cki_split {h : az_H} {l : List az_E} (n : Nat) : ∀ {es : List az_E} {i : Nat}, az_cki h l i (es.take n) = true → az_cki h l (i + n) (es.drop n) = true → az_cki h l i es = true := by
  induction n with
  | zero =>
    intro es i _ h2
    exact h2
  | succ n ih =>
    intro es i h1 h2
    cases es with
    | nil => rfl
    | cons e es =>
      simp only [List.take_succ_cons, az_cki, Bool.and_eq_true] at h1
      simp only [List.drop_succ_cons] at h2
      simp only [az_cki, Bool.and_eq_true]
      refine ⟨h1.1, ih h1.2 ?_⟩
      rw [show i + 1 + n = i + (n + 1) by omega]
      exact h2
def az_h0 : az_H := (RL, yL_law, cL_law, 8, some .boolean, 8, 177)
theorem az_l0 : az_cki az_h0 az_m0 0 ((az_m0).take 30) = true := by decide +kernel
theorem az_l30 : az_cki az_h0 az_m0 30 (((az_m0).drop 30).take 30) = true := by decide +kernel
theorem az_l60 : az_cki az_h0 az_m0 60 ((((az_m0).drop 30).drop 30).take 30) = true := by decide +kernel
theorem az_l90 : az_cki az_h0 az_m0 90 (((((az_m0).drop 30).drop 30).drop 30).take 30) = true := by decide +kernel
theorem az_l120 : az_cki az_h0 az_m0 120 ((((((az_m0).drop 30).drop 30).drop 30).drop 30).take 30) = true := by decide +kernel
theorem az_l150 : az_cki az_h0 az_m0 150 (((((((az_m0).drop 30).drop 30).drop 30).drop 30).drop 30).take 30) = true := by decide +kernel
theorem az_l180 : az_cki az_h0 az_m0 180 ((((((((az_m0).drop 30).drop 30).drop 30).drop 30).drop 30).drop 30).take 30) = true := by decide +kernel
theorem az_l210 : az_cki az_h0 az_m0 210 (((((((((az_m0).drop 30).drop 30).drop 30).drop 30).drop 30).drop 30).drop 30).take 30) = true := by decide +kernel
theorem az_l240 : az_cki az_h0 az_m0 240 ((((((((((az_m0).drop 30).drop 30).drop 30).drop 30).drop 30).drop 30).drop 30).drop 30).take 30) = true := by decide +kernel
theorem az_l270 : az_cki az_h0 az_m0 270 (((((((((((az_m0).drop 30).drop 30).drop 30).drop 30).drop 30).drop 30).drop 30).drop 30).drop 30).take 30) = true := by decide +kernel
theorem az_l300 : az_cki az_h0 az_m0 300 ((((((((((((az_m0).drop 30).drop 30).drop 30).drop 30).drop 30).drop 30).drop 30).drop 30).drop 30).drop 30).take 30) = true := by decide +kernel
theorem az_l330 : az_cki az_h0 az_m0 330 (((((((((((((az_m0).drop 30).drop 30).drop 30).drop 30).drop 30).drop 30).drop 30).drop 30).drop 30).drop 30).drop 30).take 30) = true := by decide +kernel
theorem az_l360 : az_cki az_h0 az_m0 360 ((((((((((((((az_m0).drop 30).drop 30).drop 30).drop 30).drop 30).drop 30).drop 30).drop 30).drop 30).drop 30).drop 30).drop 30).take 30) = true := by decide +kernel
theorem az_l390 : az_cki az_h0 az_m0 390 ((((((((((((((az_m0).drop 30).drop 30).drop 30).drop 30).drop 30).drop 30).drop 30).drop 30).drop 30).drop 30).drop 30).drop 30).drop 30) = true := by decide +kernel
theorem az_lall : az_cki az_h0 az_m0 0 az_m0 = true := (az_cki_split 30 az_l0 (az_cki_split 30 az_l30 (az_cki_split 30 az_l60 (az_cki_split 30 az_l90 (az_cki_split 30 az_l120 (az_cki_split 30 az_l150 (az_cki_split 30 az_l180 (az_cki_split 30 az_l210 (az_cki_split 30 az_l240 (az_cki_split 30 az_l270 (az_cki_split 30 az_l300 (az_cki_split 30 az_l330 (az_cki_split 30 az_l360 az_l390)))))))))))))
end
section
theorem az_ka0 : az_ckA 0 = true := by
  have h : az_ckM az_h0 az_m0 = true := az_lall
  show (az_ckM az_h0 az_m0 && (decide (0 = 0) || decide (az_h0.1 = az_h0.2.1.cls)) && (match az_m0[0]? with
    | some e => decide (e.1 = 0)
    | none => false)) = true
  rw [h]
  rfl
theorem az_ka1 : az_ckA 1 = true := by decide +kernel
theorem az_ka2 : az_ckA 2 = true := by decide +kernel
theorem az_ka3 : az_ckA 3 = true := by decide +kernel
theorem az_ka4 : az_ckA 4 = true := by decide +kernel
theorem az_ka5 : az_ckA 5 = true := by decide +kernel
theorem az_ka6 : az_ckA 6 = true := by decide +kernel
theorem az_ka7 : az_ckA 7 = true := by decide +kernel
theorem az_ka8 : az_ckA 8 = true := by decide +kernel
theorem az_ka9 : az_ckA 9 = true := by decide +kernel
theorem az_ka10 : az_ckA 10 = true := by decide +kernel
theorem az_ka11 : az_ckA 11 = true := by decide +kernel
theorem az_ka12 : az_ckA 12 = true := by decide +kernel
theorem az_ka13 : az_ckA 13 = true := by decide +kernel
theorem az_ka14 : az_ckA 14 = true := by decide +kernel
theorem az_ka15 : az_ckA 15 = true := by decide +kernel
theorem az_ka16 : az_ckA 16 = true := by decide +kernel
theorem az_ka17 : az_ckA 17 = true := by decide +kernel
theorem az_ka18 : az_ckA 18 = true := by decide +kernel
theorem az_ka19 : az_ckA 19 = true := by decide +kernel
theorem az_ka20 : az_ckA 20 = true := by decide +kernel
theorem az_ka21 : az_ckA 21 = true := by decide +kernel
theorem az_ka22 : az_ckA 22 = true := by decide +kernel
theorem az_ka23 : az_ckA 23 = true := by decide +kernel
theorem az_ka24 : az_ckA 24 = true := by decide +kernel
theorem az_ka25 : az_ckA 25 = true := by decide +kernel
theorem az_ka26 : az_ckA 26 = true := by decide +kernel
theorem az_ka27 : az_ckA 27 = true := by decide +kernel
theorem az_ka28 : az_ckA 28 = true := by decide +kernel
theorem az_ka29 : az_ckA 29 = true := by decide +kernel
theorem az_ka30 : az_ckA 30 = true := by decide +kernel
theorem az_ka31 : az_ckA 31 = true := by decide +kernel
theorem az_ka32 : az_ckA 32 = true := by decide +kernel
theorem az_ka33 : az_ckA 33 = true := by decide +kernel
theorem az_ka34 : az_ckA 34 = true := by decide +kernel
theorem az_ka35 : az_ckA 35 = true := by decide +kernel
theorem az_ka36 : az_ckA 36 = true := by decide +kernel
theorem az_ka37 : az_ckA 37 = true := by decide +kernel
theorem az_ka38 : az_ckA 38 = true := by decide +kernel
theorem az_ka39 : az_ckA 39 = true := by decide +kernel
theorem az_ka40 : az_ckA 40 = true := by decide +kernel
theorem az_ka41 : az_ckA 41 = true := by decide +kernel
theorem az_ka42 : az_ckA 42 = true := by decide +kernel
theorem az_ka43 : az_ckA 43 = true := by decide +kernel
theorem az_ka44 : az_ckA 44 = true := by decide +kernel
theorem az_ka45 : az_ckA 45 = true := by decide +kernel
theorem az_ka46 : az_ckA 46 = true := by decide +kernel
theorem az_ka47 : az_ckA 47 = true := by decide +kernel
theorem az_ka48 : az_ckA 48 = true := by decide +kernel
theorem az_ka49 : az_ckA 49 = true := by decide +kernel
theorem az_ka50 : az_ckA 50 = true := by decide +kernel
theorem az_ka51 : az_ckA 51 = true := by decide +kernel
theorem az_ka52 : az_ckA 52 = true := by decide +kernel
theorem az_ka53 : az_ckA 53 = true := by decide +kernel
theorem az_ka54 : az_ckA 54 = true := by decide +kernel
theorem az_ka55 : az_ckA 55 = true := by decide +kernel
theorem az_ka56 : az_ckA 56 = true := by decide +kernel
theorem az_ka57 : az_ckA 57 = true := by decide +kernel
theorem az_ka58 : az_ckA 58 = true := by decide +kernel
theorem az_ka59 : az_ckA 59 = true := by decide +kernel
theorem az_ka60 : az_ckA 60 = true := by decide +kernel
theorem az_ka61 : az_ckA 61 = true := by decide +kernel
theorem az_ka62 : az_ckA 62 = true := by decide +kernel
theorem az_ka63 : az_ckA 63 = true := by decide +kernel
theorem az_ka64 : az_ckA 64 = true := by decide +kernel
theorem az_ka65 : az_ckA 65 = true := by decide +kernel
theorem az_ka66 : az_ckA 66 = true := by decide +kernel
theorem az_ka67 : az_ckA 67 = true := by decide +kernel
theorem az_ka68 : az_ckA 68 = true := by decide +kernel
theorem az_ka69 : az_ckA 69 = true := by decide +kernel
theorem az_ka70 : az_ckA 70 = true := by decide +kernel
theorem az_ka71 : az_ckA 71 = true := by decide +kernel
theorem az_ka72 : az_ckA 72 = true := by decide +kernel
theorem az_ka73 : az_ckA 73 = true := by decide +kernel
theorem az_ka74 : az_ckA 74 = true := by decide +kernel
theorem az_ka75 : az_ckA 75 = true := by decide +kernel
theorem az_ka76 : az_ckA 76 = true := by decide +kernel
theorem az_ka77 : az_ckA 77 = true := by decide +kernel
theorem az_ka78 : az_ckA 78 = true := by decide +kernel
theorem az_ka79 : az_ckA 79 = true := by decide +kernel
theorem az_ka80 : az_ckA 80 = true := by decide +kernel
theorem az_ka81 : az_ckA 81 = true := by decide +kernel
theorem az_ka82 : az_ckA 82 = true := by decide +kernel
theorem az_ka83 : az_ckA 83 = true := by decide +kernel
theorem az_ka84 : az_ckA 84 = true := by decide +kernel
theorem az_ka85 : az_ckA 85 = true := by decide +kernel
theorem az_ka86 : az_ckA 86 = true := by decide +kernel
theorem az_ka87 : az_ckA 87 = true := by decide +kernel
theorem az_ka88 : az_ckA 88 = true := by decide +kernel
theorem az_ka89 : az_ckA 89 = true := by decide +kernel
theorem az_ka90 : az_ckA 90 = true := by decide +kernel
theorem az_ka91 : az_ckA 91 = true := by decide +kernel
theorem az_ka92 : az_ckA 92 = true := by decide +kernel
theorem az_ka93 : az_ckA 93 = true := by decide +kernel
theorem az_ka94 : az_ckA 94 = true := by decide +kernel
theorem az_ka95 : az_ckA 95 = true := by decide +kernel
theorem az_ka96 : az_ckA 96 = true := by decide +kernel
theorem az_ka97 : az_ckA 97 = true := by decide +kernel
theorem az_ka98 : az_ckA 98 = true := by decide +kernel
theorem az_ka99 : az_ckA 99 = true := by decide +kernel
theorem az_ka100 : az_ckA 100 = true := by decide +kernel
theorem az_ka101 : az_ckA 101 = true := by decide +kernel
theorem az_ka102 : az_ckA 102 = true := by decide +kernel
theorem az_ka103 : az_ckA 103 = true := by decide +kernel
theorem az_ka104 : az_ckA 104 = true := by decide +kernel
theorem az_ka105 : az_ckA 105 = true := by decide +kernel
theorem az_ka106 : az_ckA 106 = true := by decide +kernel
theorem az_ka107 : az_ckA 107 = true := by decide +kernel
theorem az_ka108 : az_ckA 108 = true := by decide +kernel
theorem az_ka109 : az_ckA 109 = true := by decide +kernel
theorem az_ka110 : az_ckA 110 = true := by decide +kernel
theorem az_ka111 : az_ckA 111 = true := by decide +kernel
theorem az_ka112 : az_ckA 112 = true := by decide +kernel
theorem az_ka113 : az_ckA 113 = true := by decide +kernel
theorem az_ka114 : az_ckA 114 = true := by decide +kernel
theorem az_ka115 : az_ckA 115 = true := by decide +kernel
theorem az_ka116 : az_ckA 116 = true := by decide +kernel
theorem az_ka117 : az_ckA 117 = true := by decide +kernel
theorem az_ka118 : az_ckA 118 = true := by decide +kernel
theorem az_ka119 : az_ckA 119 = true := by decide +kernel
theorem az_ka120 : az_ckA 120 = true := by decide +kernel
theorem az_ka121 : az_ckA 121 = true := by decide +kernel
theorem az_ka122 : az_ckA 122 = true := by decide +kernel
theorem az_ka123 : az_ckA 123 = true := by decide +kernel
theorem az_ka124 : az_ckA 124 = true := by decide +kernel
theorem az_ka125 : az_ckA 125 = true := by decide +kernel
theorem az_ka126 : az_ckA 126 = true := by decide +kernel
theorem az_ka127 : az_ckA 127 = true := by decide +kernel
theorem az_ka128 : az_ckA 128 = true := by decide +kernel
theorem az_ka129 : az_ckA 129 = true := by decide +kernel
theorem az_ka130 : az_ckA 130 = true := by decide +kernel
theorem az_ka131 : az_ckA 131 = true := by decide +kernel
theorem az_ka132 : az_ckA 132 = true := by decide +kernel
theorem az_ka133 : az_ckA 133 = true := by decide +kernel
theorem az_ka134 : az_ckA 134 = true := by decide +kernel
theorem az_ka135 : az_ckA 135 = true := by decide +kernel
theorem az_ka136 : az_ckA 136 = true := by decide +kernel
theorem az_ka137 : az_ckA 137 = true := by decide +kernel
theorem az_ka138 : az_ckA 138 = true := by decide +kernel
theorem az_ka139 : az_ckA 139 = true := by decide +kernel
theorem az_ka140 : az_ckA 140 = true := by decide +kernel
theorem az_ka141 : az_ckA 141 = true := by decide +kernel
theorem az_ka142 : az_ckA 142 = true := by decide +kernel
theorem az_ka143 : az_ckA 143 = true := by decide +kernel
theorem az_ka144 : az_ckA 144 = true := by decide +kernel
theorem az_ka145 : az_ckA 145 = true := by decide +kernel
theorem az_ka146 : az_ckA 146 = true := by decide +kernel
theorem az_ka147 : az_ckA 147 = true := by decide +kernel
theorem az_ka148 : az_ckA 148 = true := by decide +kernel
theorem az_ka149 : az_ckA 149 = true := by decide +kernel
theorem az_ka150 : az_ckA 150 = true := by decide +kernel
theorem az_ka151 : az_ckA 151 = true := by decide +kernel
theorem az_ka152 : az_ckA 152 = true := by decide +kernel
theorem az_ka153 : az_ckA 153 = true := by decide +kernel
theorem az_ka154 : az_ckA 154 = true := by decide +kernel
theorem az_ka155 : az_ckA 155 = true := by decide +kernel
theorem az_ka156 : az_ckA 156 = true := by decide +kernel
theorem az_ka157 : az_ckA 157 = true := by decide +kernel
theorem az_ka158 : az_ckA 158 = true := by decide +kernel
theorem az_ka159 : az_ckA 159 = true := by decide +kernel
theorem az_ka160 : az_ckA 160 = true := by decide +kernel
theorem az_ka161 : az_ckA 161 = true := by decide +kernel
theorem az_ka162 : az_ckA 162 = true := by decide +kernel
theorem az_ka163 : az_ckA 163 = true := by decide +kernel
theorem az_ka164 : az_ckA 164 = true := by decide +kernel
theorem az_ka165 : az_ckA 165 = true := by decide +kernel
theorem az_ka166 : az_ckA 166 = true := by decide +kernel
theorem az_ka167 : az_ckA 167 = true := by decide +kernel
theorem az_ka168 : az_ckA 168 = true := by decide +kernel
theorem az_ka169 : az_ckA 169 = true := by decide +kernel
theorem az_ka170 : az_ckA 170 = true := by decide +kernel
theorem az_ka171 : az_ckA 171 = true := by decide +kernel
theorem az_ka172 : az_ckA 172 = true := by decide +kernel
theorem az_ka173 : az_ckA 173 = true := by decide +kernel
theorem az_ka174 : az_ckA 174 = true := by decide +kernel
theorem az_ka175 : az_ckA 175 = true := by decide +kernel
theorem az_ka176 : az_ckA 176 = true := by decide +kernel
theorem az_ka177 : az_ckA 177 = true := by decide +kernel
theorem az_ka178 : az_ckA 178 = true := by decide +kernel
theorem az_ka179 : az_ckA 179 = true := by decide +kernel
theorem az_ka180 : az_ckA 180 = true := by decide +kernel
theorem az_ka181 : az_ckA 181 = true := by decide +kernel
theorem az_ka182 : az_ckA 182 = true := by decide +kernel
theorem az_ka183 : az_ckA 183 = true := by decide +kernel
theorem az_ka184 : az_ckA 184 = true := by decide +kernel
theorem az_ka185 : az_ckA 185 = true := by decide +kernel
theorem az_ka186 : az_ckA 186 = true := by decide +kernel
theorem az_ka187 : az_ckA 187 = true := by decide +kernel
theorem az_ka188 : az_ckA 188 = true := by decide +kernel
theorem az_ka189 : az_ckA 189 = true := by decide +kernel
theorem az_ka190 : az_ckA 190 = true := by decide +kernel
theorem az_ka191 : az_ckA 191 = true := by decide +kernel
theorem az_ka192 : az_ckA 192 = true := by decide +kernel
theorem az_ka193 : az_ckA 193 = true := by decide +kernel
theorem az_ka194 : az_ckA 194 = true := by decide +kernel
theorem az_ka195 : az_ckA 195 = true := by decide +kernel
theorem az_kall : ∀ M, M < 196 → az_ckA M = true := by
  intro M hM
  rcases Nat.lt_or_ge M 98 with h1 | h1
  · rcases Nat.lt_or_ge M 49 with h2 | h2
    · rcases Nat.lt_or_ge M 24 with h3 | h3
      · rcases Nat.lt_or_ge M 12 with h4 | h4
        · rcases Nat.lt_or_ge M 6 with h5 | h5
          · rcases Nat.lt_or_ge M 3 with h6 | h6
            · rcases Nat.lt_or_ge M 1 with h7 | h7
              · have e : M = 0 := by omega
                rw [e]
                exact az_ka0
              · rcases Nat.lt_or_ge M 2 with h8 | h8
                · have e : M = 1 := by omega
                  rw [e]
                  exact az_ka1
                · have e : M = 2 := by omega
                  rw [e]
                  exact az_ka2
            · rcases Nat.lt_or_ge M 4 with h7 | h7
              · have e : M = 3 := by omega
                rw [e]
                exact az_ka3
              · rcases Nat.lt_or_ge M 5 with h8 | h8
                · have e : M = 4 := by omega
                  rw [e]
                  exact az_ka4
                · have e : M = 5 := by omega
                  rw [e]
                  exact az_ka5
          · rcases Nat.lt_or_ge M 9 with h6 | h6
            · rcases Nat.lt_or_ge M 7 with h7 | h7
              · have e : M = 6 := by omega
                rw [e]
                exact az_ka6
              · rcases Nat.lt_or_ge M 8 with h8 | h8
                · have e : M = 7 := by omega
                  rw [e]
                  exact az_ka7
                · have e : M = 8 := by omega
                  rw [e]
                  exact az_ka8
            · rcases Nat.lt_or_ge M 10 with h7 | h7
              · have e : M = 9 := by omega
                rw [e]
                exact az_ka9
              · rcases Nat.lt_or_ge M 11 with h8 | h8
                · have e : M = 10 := by omega
                  rw [e]
                  exact az_ka10
                · have e : M = 11 := by omega
                  rw [e]
                  exact az_ka11
        · rcases Nat.lt_or_ge M 18 with h5 | h5
          · rcases Nat.lt_or_ge M 15 with h6 | h6
            · rcases Nat.lt_or_ge M 13 with h7 | h7
              · have e : M = 12 := by omega
                rw [e]
                exact az_ka12
              · rcases Nat.lt_or_ge M 14 with h8 | h8
                · have e : M = 13 := by omega
                  rw [e]
                  exact az_ka13
                · have e : M = 14 := by omega
                  rw [e]
                  exact az_ka14
            · rcases Nat.lt_or_ge M 16 with h7 | h7
              · have e : M = 15 := by omega
                rw [e]
                exact az_ka15
              · rcases Nat.lt_or_ge M 17 with h8 | h8
                · have e : M = 16 := by omega
                  rw [e]
                  exact az_ka16
                · have e : M = 17 := by omega
                  rw [e]
                  exact az_ka17
          · rcases Nat.lt_or_ge M 21 with h6 | h6
            · rcases Nat.lt_or_ge M 19 with h7 | h7
              · have e : M = 18 := by omega
                rw [e]
                exact az_ka18
              · rcases Nat.lt_or_ge M 20 with h8 | h8
                · have e : M = 19 := by omega
                  rw [e]
                  exact az_ka19
                · have e : M = 20 := by omega
                  rw [e]
                  exact az_ka20
            · rcases Nat.lt_or_ge M 22 with h7 | h7
              · have e : M = 21 := by omega
                rw [e]
                exact az_ka21
              · rcases Nat.lt_or_ge M 23 with h8 | h8
                · have e : M = 22 := by omega
                  rw [e]
                  exact az_ka22
                · have e : M = 23 := by omega
                  rw [e]
                  exact az_ka23
      · rcases Nat.lt_or_ge M 36 with h4 | h4
        · rcases Nat.lt_or_ge M 30 with h5 | h5
          · rcases Nat.lt_or_ge M 27 with h6 | h6
            · rcases Nat.lt_or_ge M 25 with h7 | h7
              · have e : M = 24 := by omega
                rw [e]
                exact az_ka24
              · rcases Nat.lt_or_ge M 26 with h8 | h8
                · have e : M = 25 := by omega
                  rw [e]
                  exact az_ka25
                · have e : M = 26 := by omega
                  rw [e]
                  exact az_ka26
            · rcases Nat.lt_or_ge M 28 with h7 | h7
              · have e : M = 27 := by omega
                rw [e]
                exact az_ka27
              · rcases Nat.lt_or_ge M 29 with h8 | h8
                · have e : M = 28 := by omega
                  rw [e]
                  exact az_ka28
                · have e : M = 29 := by omega
                  rw [e]
                  exact az_ka29
          · rcases Nat.lt_or_ge M 33 with h6 | h6
            · rcases Nat.lt_or_ge M 31 with h7 | h7
              · have e : M = 30 := by omega
                rw [e]
                exact az_ka30
              · rcases Nat.lt_or_ge M 32 with h8 | h8
                · have e : M = 31 := by omega
                  rw [e]
                  exact az_ka31
                · have e : M = 32 := by omega
                  rw [e]
                  exact az_ka32
            · rcases Nat.lt_or_ge M 34 with h7 | h7
              · have e : M = 33 := by omega
                rw [e]
                exact az_ka33
              · rcases Nat.lt_or_ge M 35 with h8 | h8
                · have e : M = 34 := by omega
                  rw [e]
                  exact az_ka34
                · have e : M = 35 := by omega
                  rw [e]
                  exact az_ka35
        · rcases Nat.lt_or_ge M 42 with h5 | h5
          · rcases Nat.lt_or_ge M 39 with h6 | h6
            · rcases Nat.lt_or_ge M 37 with h7 | h7
              · have e : M = 36 := by omega
                rw [e]
                exact az_ka36
              · rcases Nat.lt_or_ge M 38 with h8 | h8
                · have e : M = 37 := by omega
                  rw [e]
                  exact az_ka37
                · have e : M = 38 := by omega
                  rw [e]
                  exact az_ka38
            · rcases Nat.lt_or_ge M 40 with h7 | h7
              · have e : M = 39 := by omega
                rw [e]
                exact az_ka39
              · rcases Nat.lt_or_ge M 41 with h8 | h8
                · have e : M = 40 := by omega
                  rw [e]
                  exact az_ka40
                · have e : M = 41 := by omega
                  rw [e]
                  exact az_ka41
          · rcases Nat.lt_or_ge M 45 with h6 | h6
            · rcases Nat.lt_or_ge M 43 with h7 | h7
              · have e : M = 42 := by omega
                rw [e]
                exact az_ka42
              · rcases Nat.lt_or_ge M 44 with h8 | h8
                · have e : M = 43 := by omega
                  rw [e]
                  exact az_ka43
                · have e : M = 44 := by omega
                  rw [e]
                  exact az_ka44
            · rcases Nat.lt_or_ge M 47 with h7 | h7
              · rcases Nat.lt_or_ge M 46 with h8 | h8
                · have e : M = 45 := by omega
                  rw [e]
                  exact az_ka45
                · have e : M = 46 := by omega
                  rw [e]
                  exact az_ka46
              · rcases Nat.lt_or_ge M 48 with h8 | h8
                · have e : M = 47 := by omega
                  rw [e]
                  exact az_ka47
                · have e : M = 48 := by omega
                  rw [e]
                  exact az_ka48
    · rcases Nat.lt_or_ge M 73 with h3 | h3
      · rcases Nat.lt_or_ge M 61 with h4 | h4
        · rcases Nat.lt_or_ge M 55 with h5 | h5
          · rcases Nat.lt_or_ge M 52 with h6 | h6
            · rcases Nat.lt_or_ge M 50 with h7 | h7
              · have e : M = 49 := by omega
                rw [e]
                exact az_ka49
              · rcases Nat.lt_or_ge M 51 with h8 | h8
                · have e : M = 50 := by omega
                  rw [e]
                  exact az_ka50
                · have e : M = 51 := by omega
                  rw [e]
                  exact az_ka51
            · rcases Nat.lt_or_ge M 53 with h7 | h7
              · have e : M = 52 := by omega
                rw [e]
                exact az_ka52
              · rcases Nat.lt_or_ge M 54 with h8 | h8
                · have e : M = 53 := by omega
                  rw [e]
                  exact az_ka53
                · have e : M = 54 := by omega
                  rw [e]
                  exact az_ka54
          · rcases Nat.lt_or_ge M 58 with h6 | h6
            · rcases Nat.lt_or_ge M 56 with h7 | h7
              · have e : M = 55 := by omega
                rw [e]
                exact az_ka55
              · rcases Nat.lt_or_ge M 57 with h8 | h8
                · have e : M = 56 := by omega
                  rw [e]
                  exact az_ka56
                · have e : M = 57 := by omega
                  rw [e]
                  exact az_ka57
            · rcases Nat.lt_or_ge M 59 with h7 | h7
              · have e : M = 58 := by omega
                rw [e]
                exact az_ka58
              · rcases Nat.lt_or_ge M 60 with h8 | h8
                · have e : M = 59 := by omega
                  rw [e]
                  exact az_ka59
                · have e : M = 60 := by omega
                  rw [e]
                  exact az_ka60
        · rcases Nat.lt_or_ge M 67 with h5 | h5
          · rcases Nat.lt_or_ge M 64 with h6 | h6
            · rcases Nat.lt_or_ge M 62 with h7 | h7
              · have e : M = 61 := by omega
                rw [e]
                exact az_ka61
              · rcases Nat.lt_or_ge M 63 with h8 | h8
                · have e : M = 62 := by omega
                  rw [e]
                  exact az_ka62
                · have e : M = 63 := by omega
                  rw [e]
                  exact az_ka63
            · rcases Nat.lt_or_ge M 65 with h7 | h7
              · have e : M = 64 := by omega
                rw [e]
                exact az_ka64
              · rcases Nat.lt_or_ge M 66 with h8 | h8
                · have e : M = 65 := by omega
                  rw [e]
                  exact az_ka65
                · have e : M = 66 := by omega
                  rw [e]
                  exact az_ka66
          · rcases Nat.lt_or_ge M 70 with h6 | h6
            · rcases Nat.lt_or_ge M 68 with h7 | h7
              · have e : M = 67 := by omega
                rw [e]
                exact az_ka67
              · rcases Nat.lt_or_ge M 69 with h8 | h8
                · have e : M = 68 := by omega
                  rw [e]
                  exact az_ka68
                · have e : M = 69 := by omega
                  rw [e]
                  exact az_ka69
            · rcases Nat.lt_or_ge M 71 with h7 | h7
              · have e : M = 70 := by omega
                rw [e]
                exact az_ka70
              · rcases Nat.lt_or_ge M 72 with h8 | h8
                · have e : M = 71 := by omega
                  rw [e]
                  exact az_ka71
                · have e : M = 72 := by omega
                  rw [e]
                  exact az_ka72
      · rcases Nat.lt_or_ge M 85 with h4 | h4
        · rcases Nat.lt_or_ge M 79 with h5 | h5
          · rcases Nat.lt_or_ge M 76 with h6 | h6
            · rcases Nat.lt_or_ge M 74 with h7 | h7
              · have e : M = 73 := by omega
                rw [e]
                exact az_ka73
              · rcases Nat.lt_or_ge M 75 with h8 | h8
                · have e : M = 74 := by omega
                  rw [e]
                  exact az_ka74
                · have e : M = 75 := by omega
                  rw [e]
                  exact az_ka75
            · rcases Nat.lt_or_ge M 77 with h7 | h7
              · have e : M = 76 := by omega
                rw [e]
                exact az_ka76
              · rcases Nat.lt_or_ge M 78 with h8 | h8
                · have e : M = 77 := by omega
                  rw [e]
                  exact az_ka77
                · have e : M = 78 := by omega
                  rw [e]
                  exact az_ka78
          · rcases Nat.lt_or_ge M 82 with h6 | h6
            · rcases Nat.lt_or_ge M 80 with h7 | h7
              · have e : M = 79 := by omega
                rw [e]
                exact az_ka79
              · rcases Nat.lt_or_ge M 81 with h8 | h8
                · have e : M = 80 := by omega
                  rw [e]
                  exact az_ka80
                · have e : M = 81 := by omega
                  rw [e]
                  exact az_ka81
            · rcases Nat.lt_or_ge M 83 with h7 | h7
              · have e : M = 82 := by omega
                rw [e]
                exact az_ka82
              · rcases Nat.lt_or_ge M 84 with h8 | h8
                · have e : M = 83 := by omega
                  rw [e]
                  exact az_ka83
                · have e : M = 84 := by omega
                  rw [e]
                  exact az_ka84
        · rcases Nat.lt_or_ge M 91 with h5 | h5
          · rcases Nat.lt_or_ge M 88 with h6 | h6
            · rcases Nat.lt_or_ge M 86 with h7 | h7
              · have e : M = 85 := by omega
                rw [e]
                exact az_ka85
              · rcases Nat.lt_or_ge M 87 with h8 | h8
                · have e : M = 86 := by omega
                  rw [e]
                  exact az_ka86
                · have e : M = 87 := by omega
                  rw [e]
                  exact az_ka87
            · rcases Nat.lt_or_ge M 89 with h7 | h7
              · have e : M = 88 := by omega
                rw [e]
                exact az_ka88
              · rcases Nat.lt_or_ge M 90 with h8 | h8
                · have e : M = 89 := by omega
                  rw [e]
                  exact az_ka89
                · have e : M = 90 := by omega
                  rw [e]
                  exact az_ka90
          · rcases Nat.lt_or_ge M 94 with h6 | h6
            · rcases Nat.lt_or_ge M 92 with h7 | h7
              · have e : M = 91 := by omega
                rw [e]
                exact az_ka91
              · rcases Nat.lt_or_ge M 93 with h8 | h8
                · have e : M = 92 := by omega
                  rw [e]
                  exact az_ka92
                · have e : M = 93 := by omega
                  rw [e]
                  exact az_ka93
            · rcases Nat.lt_or_ge M 96 with h7 | h7
              · rcases Nat.lt_or_ge M 95 with h8 | h8
                · have e : M = 94 := by omega
                  rw [e]
                  exact az_ka94
                · have e : M = 95 := by omega
                  rw [e]
                  exact az_ka95
              · rcases Nat.lt_or_ge M 97 with h8 | h8
                · have e : M = 96 := by omega
                  rw [e]
                  exact az_ka96
                · have e : M = 97 := by omega
                  rw [e]
                  exact az_ka97
  · rcases Nat.lt_or_ge M 147 with h2 | h2
    · rcases Nat.lt_or_ge M 122 with h3 | h3
      · rcases Nat.lt_or_ge M 110 with h4 | h4
        · rcases Nat.lt_or_ge M 104 with h5 | h5
          · rcases Nat.lt_or_ge M 101 with h6 | h6
            · rcases Nat.lt_or_ge M 99 with h7 | h7
              · have e : M = 98 := by omega
                rw [e]
                exact az_ka98
              · rcases Nat.lt_or_ge M 100 with h8 | h8
                · have e : M = 99 := by omega
                  rw [e]
                  exact az_ka99
                · have e : M = 100 := by omega
                  rw [e]
                  exact az_ka100
            · rcases Nat.lt_or_ge M 102 with h7 | h7
              · have e : M = 101 := by omega
                rw [e]
                exact az_ka101
              · rcases Nat.lt_or_ge M 103 with h8 | h8
                · have e : M = 102 := by omega
                  rw [e]
                  exact az_ka102
                · have e : M = 103 := by omega
                  rw [e]
                  exact az_ka103
          · rcases Nat.lt_or_ge M 107 with h6 | h6
            · rcases Nat.lt_or_ge M 105 with h7 | h7
              · have e : M = 104 := by omega
                rw [e]
                exact az_ka104
              · rcases Nat.lt_or_ge M 106 with h8 | h8
                · have e : M = 105 := by omega
                  rw [e]
                  exact az_ka105
                · have e : M = 106 := by omega
                  rw [e]
                  exact az_ka106
            · rcases Nat.lt_or_ge M 108 with h7 | h7
              · have e : M = 107 := by omega
                rw [e]
                exact az_ka107
              · rcases Nat.lt_or_ge M 109 with h8 | h8
                · have e : M = 108 := by omega
                  rw [e]
                  exact az_ka108
                · have e : M = 109 := by omega
                  rw [e]
                  exact az_ka109
        · rcases Nat.lt_or_ge M 116 with h5 | h5
          · rcases Nat.lt_or_ge M 113 with h6 | h6
            · rcases Nat.lt_or_ge M 111 with h7 | h7
              · have e : M = 110 := by omega
                rw [e]
                exact az_ka110
              · rcases Nat.lt_or_ge M 112 with h8 | h8
                · have e : M = 111 := by omega
                  rw [e]
                  exact az_ka111
                · have e : M = 112 := by omega
                  rw [e]
                  exact az_ka112
            · rcases Nat.lt_or_ge M 114 with h7 | h7
              · have e : M = 113 := by omega
                rw [e]
                exact az_ka113
              · rcases Nat.lt_or_ge M 115 with h8 | h8
                · have e : M = 114 := by omega
                  rw [e]
                  exact az_ka114
                · have e : M = 115 := by omega
                  rw [e]
                  exact az_ka115
          · rcases Nat.lt_or_ge M 119 with h6 | h6
            · rcases Nat.lt_or_ge M 117 with h7 | h7
              · have e : M = 116 := by omega
                rw [e]
                exact az_ka116
              · rcases Nat.lt_or_ge M 118 with h8 | h8
                · have e : M = 117 := by omega
                  rw [e]
                  exact az_ka117
                · have e : M = 118 := by omega
                  rw [e]
                  exact az_ka118
            · rcases Nat.lt_or_ge M 120 with h7 | h7
              · have e : M = 119 := by omega
                rw [e]
                exact az_ka119
              · rcases Nat.lt_or_ge M 121 with h8 | h8
                · have e : M = 120 := by omega
                  rw [e]
                  exact az_ka120
                · have e : M = 121 := by omega
                  rw [e]
                  exact az_ka121
      · rcases Nat.lt_or_ge M 134 with h4 | h4
        · rcases Nat.lt_or_ge M 128 with h5 | h5
          · rcases Nat.lt_or_ge M 125 with h6 | h6
            · rcases Nat.lt_or_ge M 123 with h7 | h7
              · have e : M = 122 := by omega
                rw [e]
                exact az_ka122
              · rcases Nat.lt_or_ge M 124 with h8 | h8
                · have e : M = 123 := by omega
                  rw [e]
                  exact az_ka123
                · have e : M = 124 := by omega
                  rw [e]
                  exact az_ka124
            · rcases Nat.lt_or_ge M 126 with h7 | h7
              · have e : M = 125 := by omega
                rw [e]
                exact az_ka125
              · rcases Nat.lt_or_ge M 127 with h8 | h8
                · have e : M = 126 := by omega
                  rw [e]
                  exact az_ka126
                · have e : M = 127 := by omega
                  rw [e]
                  exact az_ka127
          · rcases Nat.lt_or_ge M 131 with h6 | h6
            · rcases Nat.lt_or_ge M 129 with h7 | h7
              · have e : M = 128 := by omega
                rw [e]
                exact az_ka128
              · rcases Nat.lt_or_ge M 130 with h8 | h8
                · have e : M = 129 := by omega
                  rw [e]
                  exact az_ka129
                · have e : M = 130 := by omega
                  rw [e]
                  exact az_ka130
            · rcases Nat.lt_or_ge M 132 with h7 | h7
              · have e : M = 131 := by omega
                rw [e]
                exact az_ka131
              · rcases Nat.lt_or_ge M 133 with h8 | h8
                · have e : M = 132 := by omega
                  rw [e]
                  exact az_ka132
                · have e : M = 133 := by omega
                  rw [e]
                  exact az_ka133
        · rcases Nat.lt_or_ge M 140 with h5 | h5
          · rcases Nat.lt_or_ge M 137 with h6 | h6
            · rcases Nat.lt_or_ge M 135 with h7 | h7
              · have e : M = 134 := by omega
                rw [e]
                exact az_ka134
              · rcases Nat.lt_or_ge M 136 with h8 | h8
                · have e : M = 135 := by omega
                  rw [e]
                  exact az_ka135
                · have e : M = 136 := by omega
                  rw [e]
                  exact az_ka136
            · rcases Nat.lt_or_ge M 138 with h7 | h7
              · have e : M = 137 := by omega
                rw [e]
                exact az_ka137
              · rcases Nat.lt_or_ge M 139 with h8 | h8
                · have e : M = 138 := by omega
                  rw [e]
                  exact az_ka138
                · have e : M = 139 := by omega
                  rw [e]
                  exact az_ka139
          · rcases Nat.lt_or_ge M 143 with h6 | h6
            · rcases Nat.lt_or_ge M 141 with h7 | h7
              · have e : M = 140 := by omega
                rw [e]
                exact az_ka140
              · rcases Nat.lt_or_ge M 142 with h8 | h8
                · have e : M = 141 := by omega
                  rw [e]
                  exact az_ka141
                · have e : M = 142 := by omega
                  rw [e]
                  exact az_ka142
            · rcases Nat.lt_or_ge M 145 with h7 | h7
              · rcases Nat.lt_or_ge M 144 with h8 | h8
                · have e : M = 143 := by omega
                  rw [e]
                  exact az_ka143
                · have e : M = 144 := by omega
                  rw [e]
                  exact az_ka144
              · rcases Nat.lt_or_ge M 146 with h8 | h8
                · have e : M = 145 := by omega
                  rw [e]
                  exact az_ka145
                · have e : M = 146 := by omega
                  rw [e]
                  exact az_ka146
    · rcases Nat.lt_or_ge M 171 with h3 | h3
      · rcases Nat.lt_or_ge M 159 with h4 | h4
        · rcases Nat.lt_or_ge M 153 with h5 | h5
          · rcases Nat.lt_or_ge M 150 with h6 | h6
            · rcases Nat.lt_or_ge M 148 with h7 | h7
              · have e : M = 147 := by omega
                rw [e]
                exact az_ka147
              · rcases Nat.lt_or_ge M 149 with h8 | h8
                · have e : M = 148 := by omega
                  rw [e]
                  exact az_ka148
                · have e : M = 149 := by omega
                  rw [e]
                  exact az_ka149
            · rcases Nat.lt_or_ge M 151 with h7 | h7
              · have e : M = 150 := by omega
                rw [e]
                exact az_ka150
              · rcases Nat.lt_or_ge M 152 with h8 | h8
                · have e : M = 151 := by omega
                  rw [e]
                  exact az_ka151
                · have e : M = 152 := by omega
                  rw [e]
                  exact az_ka152
          · rcases Nat.lt_or_ge M 156 with h6 | h6
            · rcases Nat.lt_or_ge M 154 with h7 | h7
              · have e : M = 153 := by omega
                rw [e]
                exact az_ka153
              · rcases Nat.lt_or_ge M 155 with h8 | h8
                · have e : M = 154 := by omega
                  rw [e]
                  exact az_ka154
                · have e : M = 155 := by omega
                  rw [e]
                  exact az_ka155
            · rcases Nat.lt_or_ge M 157 with h7 | h7
              · have e : M = 156 := by omega
                rw [e]
                exact az_ka156
              · rcases Nat.lt_or_ge M 158 with h8 | h8
                · have e : M = 157 := by omega
                  rw [e]
                  exact az_ka157
                · have e : M = 158 := by omega
                  rw [e]
                  exact az_ka158
        · rcases Nat.lt_or_ge M 165 with h5 | h5
          · rcases Nat.lt_or_ge M 162 with h6 | h6
            · rcases Nat.lt_or_ge M 160 with h7 | h7
              · have e : M = 159 := by omega
                rw [e]
                exact az_ka159
              · rcases Nat.lt_or_ge M 161 with h8 | h8
                · have e : M = 160 := by omega
                  rw [e]
                  exact az_ka160
                · have e : M = 161 := by omega
                  rw [e]
                  exact az_ka161
            · rcases Nat.lt_or_ge M 163 with h7 | h7
              · have e : M = 162 := by omega
                rw [e]
                exact az_ka162
              · rcases Nat.lt_or_ge M 164 with h8 | h8
                · have e : M = 163 := by omega
                  rw [e]
                  exact az_ka163
                · have e : M = 164 := by omega
                  rw [e]
                  exact az_ka164
          · rcases Nat.lt_or_ge M 168 with h6 | h6
            · rcases Nat.lt_or_ge M 166 with h7 | h7
              · have e : M = 165 := by omega
                rw [e]
                exact az_ka165
              · rcases Nat.lt_or_ge M 167 with h8 | h8
                · have e : M = 166 := by omega
                  rw [e]
                  exact az_ka166
                · have e : M = 167 := by omega
                  rw [e]
                  exact az_ka167
            · rcases Nat.lt_or_ge M 169 with h7 | h7
              · have e : M = 168 := by omega
                rw [e]
                exact az_ka168
              · rcases Nat.lt_or_ge M 170 with h8 | h8
                · have e : M = 169 := by omega
                  rw [e]
                  exact az_ka169
                · have e : M = 170 := by omega
                  rw [e]
                  exact az_ka170
      · rcases Nat.lt_or_ge M 183 with h4 | h4
        · rcases Nat.lt_or_ge M 177 with h5 | h5
          · rcases Nat.lt_or_ge M 174 with h6 | h6
            · rcases Nat.lt_or_ge M 172 with h7 | h7
              · have e : M = 171 := by omega
                rw [e]
                exact az_ka171
              · rcases Nat.lt_or_ge M 173 with h8 | h8
                · have e : M = 172 := by omega
                  rw [e]
                  exact az_ka172
                · have e : M = 173 := by omega
                  rw [e]
                  exact az_ka173
            · rcases Nat.lt_or_ge M 175 with h7 | h7
              · have e : M = 174 := by omega
                rw [e]
                exact az_ka174
              · rcases Nat.lt_or_ge M 176 with h8 | h8
                · have e : M = 175 := by omega
                  rw [e]
                  exact az_ka175
                · have e : M = 176 := by omega
                  rw [e]
                  exact az_ka176
          · rcases Nat.lt_or_ge M 180 with h6 | h6
            · rcases Nat.lt_or_ge M 178 with h7 | h7
              · have e : M = 177 := by omega
                rw [e]
                exact az_ka177
              · rcases Nat.lt_or_ge M 179 with h8 | h8
                · have e : M = 178 := by omega
                  rw [e]
                  exact az_ka178
                · have e : M = 179 := by omega
                  rw [e]
                  exact az_ka179
            · rcases Nat.lt_or_ge M 181 with h7 | h7
              · have e : M = 180 := by omega
                rw [e]
                exact az_ka180
              · rcases Nat.lt_or_ge M 182 with h8 | h8
                · have e : M = 181 := by omega
                  rw [e]
                  exact az_ka181
                · have e : M = 182 := by omega
                  rw [e]
                  exact az_ka182
        · rcases Nat.lt_or_ge M 189 with h5 | h5
          · rcases Nat.lt_or_ge M 186 with h6 | h6
            · rcases Nat.lt_or_ge M 184 with h7 | h7
              · have e : M = 183 := by omega
                rw [e]
                exact az_ka183
              · rcases Nat.lt_or_ge M 185 with h8 | h8
                · have e : M = 184 := by omega
                  rw [e]
                  exact az_ka184
                · have e : M = 185 := by omega
                  rw [e]
                  exact az_ka185
            · rcases Nat.lt_or_ge M 187 with h7 | h7
              · have e : M = 186 := by omega
                rw [e]
                exact az_ka186
              · rcases Nat.lt_or_ge M 188 with h8 | h8
                · have e : M = 187 := by omega
                  rw [e]
                  exact az_ka187
                · have e : M = 188 := by omega
                  rw [e]
                  exact az_ka188
          · rcases Nat.lt_or_ge M 192 with h6 | h6
            · rcases Nat.lt_or_ge M 190 with h7 | h7
              · have e : M = 189 := by omega
                rw [e]
                exact az_ka189
              · rcases Nat.lt_or_ge M 191 with h8 | h8
                · have e : M = 190 := by omega
                  rw [e]
                  exact az_ka190
                · have e : M = 191 := by omega
                  rw [e]
                  exact az_ka191
            · rcases Nat.lt_or_ge M 194 with h7 | h7
              · rcases Nat.lt_or_ge M 193 with h8 | h8
                · have e : M = 192 := by omega
                  rw [e]
                  exact az_ka192
                · have e : M = 193 := by omega
                  rw [e]
                  exact az_ka193
              · rcases Nat.lt_or_ge M 195 with h8 | h8
                · have e : M = 194 := by omega
                  rw [e]
                  exact az_ka194
                · have e : M = 195 := by omega
                  rw [e]
                  exact az_ka195
theorem az_ok : az_OK := by
  intro M h lc hh hl
  have hM : M < 196 := (List.getElem?_eq_some_iff.mp hh).1
  have h1 := az_kall M hM
  unfold az_ckA at h1
  rw [hh, hl] at h1
  simp only [Bool.and_eq_true, Bool.or_eq_true, decide_eq_true_eq] at h1
  obtain ⟨⟨h2, h3⟩, h4⟩ := h1
  refine ⟨h2, fun h0 => h3.resolve_left h0, ?_⟩
  split at h4
  · next e he => exact ⟨e, he, of_decide_eq_true h4⟩
  · cases h4
end
section
/-! the rules: an instruction, a lemma (written by wip/whole/gen11.py) -/
section AZ5
variable {X : az_X} {M i pc ln t u : Nat} {v : Int32} {ts js : List Nat} {L st L' st' : List Value} {w : az_W} {sz sl : Nat} {res : az_R}
theorem ev_pu {ins : Instr} (hk : az_cd M i = some (pc, ins, ln, t, u, v, ts, js)) (hp : az_pu ins t u v L st = some (L', st')) (h : az_Ev X M (i + 1) L' st' w sz sl res) : az_Ev X M i L st w sz sl res := az_Ev.step ⟨_, _, _, _, _, _, _, _, hk, Or.inl ⟨_, _, hp, h⟩⟩
theorem ev_br {ins : Instr} {q : Bool} (hk : az_cd M i = some (pc, ins, ln, t, u, v, ts, js)) (hp : az_br ins st = some (q, st')) (h1 : q = true → az_Ev X M t L st' w sz sl res) (h2 : q = false → az_Ev X M (i + 1) L st' w sz sl res) : az_Ev X M i L st w sz sl res := az_Ev.step ⟨_, _, _, _, _, _, _, _, hk, Or.inr (Or.inl ⟨_, _, hp, h1, h2⟩)⟩
theorem ev_cong {L2 st2 : List Value} {w2 : az_W} (h : az_Ev X M i L2 st2 w2 sz sl res) (h1 : L = L2) (h2 : st = st2) (h3 : w = w2) : az_Ev X M i L st w sz sl res := by
  subst h1; subst h2; subst h3; exact h
theorem ev_res {r2 : az_R} (h : az_Ev X M i L st w sz sl r2) (e : r2 = res) : az_Ev X M i L st w sz sl res := e ▸ h
/-- going down to a bound -/
theorem az_ind (N : Nat) (P : Nat → Prop) (h : ∀ j, j ≤ N → (j < N → P (j + 1)) → P j) : ∀ j, j ≤ N → P j := by
  have key : ∀ n j, j + n = N → P j := by
    intro n
    induction n with
    | zero => intro j hj; exact h j (by omega) (fun q => by omega)
    | succ n ih => intro j hj; exact h j (by omega) (fun _ => ih (j + 1) (by omega))
  intro j hj
  exact key (N - j) j (by omega)
def zb (b : Bool) : Int32 := if b = true then 1 else 0
theorem az_nr_zb (b : Bool) : az_nr 2 (zb b) = zb b := by cases b <;> rfl
theorem zb_t : zb true = 1 := rfl
theorem zb_f : zb false = 0 := rfl
theorem zb01 (b : Bool) : zb b = 0 ∨ zb b = 1 := by cases b <;> simp [zb]

theorem E_iconst {z : Int} (hk : az_cd M i = some (pc, .iconst z, ln, t, u, v, ts, js)) (h : az_Ev X M (i + 1) (L) (.int v :: st) w sz sl res) : az_Ev X M i (L) (st) w sz sl res := ev_pu hk rfl h
theorem E_bipush {z : Int} (hk : az_cd M i = some (pc, .bipush z, ln, t, u, v, ts, js)) (h : az_Ev X M (i + 1) (L) (.int v :: st) w sz sl res) : az_Ev X M i (L) (st) w sz sl res := ev_pu hk rfl h
theorem E_sipush {z : Int} (hk : az_cd M i = some (pc, .sipush z, ln, t, u, v, ts, js)) (h : az_Ev X M (i + 1) (L) (.int v :: st) w sz sl res) : az_Ev X M i (L) (st) w sz sl res := ev_pu hk rfl h
theorem E_ldcI {z : Nat} (hk : az_cd M i = some (pc, .ldc z, ln, t, 0, v, ts, js)) (h : az_Ev X M (i + 1) L (.int v :: st) w sz sl res) : az_Ev X M i L st w sz sl res := ev_pu hk rfl h
theorem E_ldcF {z : Nat} (hk : az_cd M i = some (pc, .ldc z, ln, t, 1, v, ts, js)) (h : az_Ev X M (i + 1) L (.float (UInt32.ofNat t) :: st) w sz sl res) : az_Ev X M i L st w sz sl res := ev_pu hk rfl h
theorem E_ldc_wI {z : Nat} (hk : az_cd M i = some (pc, .ldc_w z, ln, t, 0, v, ts, js)) (h : az_Ev X M (i + 1) L (.int v :: st) w sz sl res) : az_Ev X M i L st w sz sl res := ev_pu hk rfl h
theorem E_ldc_wF {z : Nat} (hk : az_cd M i = some (pc, .ldc_w z, ln, t, 1, v, ts, js)) (h : az_Ev X M (i + 1) L (.float (UInt32.ofNat t) :: st) w sz sl res) : az_Ev X M i L st w sz sl res := ev_pu hk rfl h
theorem E_ldc2 {z : Nat} (hk : az_cd M i = some (pc, .ldc2_w z, ln, t, 2, v, ts, js)) (h : az_Ev X M (i + 1) L (.double (UInt64.ofNat t) :: st) w sz sl res) : az_Ev X M i L st w sz sl res := ev_pu hk rfl h
theorem E_fconst0 (hk : az_cd M i = some (pc, .fconst 0, ln, t, u, v, ts, js)) (h : az_Ev X M (i + 1) (L) (.float 0 :: st) w sz sl res) : az_Ev X M i (L) (st) w sz sl res := ev_pu hk rfl h
theorem E_fconst1 (hk : az_cd M i = some (pc, .fconst 1, ln, t, u, v, ts, js)) (h : az_Ev X M (i + 1) (L) (.float 0x3f800000 :: st) w sz sl res) : az_Ev X M i (L) (st) w sz sl res := ev_pu hk rfl h
theorem E_fconst2 (hk : az_cd M i = some (pc, .fconst 2, ln, t, u, v, ts, js)) (h : az_Ev X M (i + 1) (L) (.float 0x40000000 :: st) w sz sl res) : az_Ev X M i (L) (st) w sz sl res := ev_pu hk rfl h
theorem E_il0 {l : List Value} {x : Int32} (hk : az_cd M i = some (pc, .iload_n 0, ln, t, u, v, ts, js)) (h : az_Ev X M (i + 1) (.int x :: l) (.int x :: st) w sz sl res) : az_Ev X M i (.int x :: l) (st) w sz sl res := ev_pu hk rfl h
theorem E_al0 {l : List Value} {x : Nat} (hk : az_cd M i = some (pc, .aload_n 0, ln, t, u, v, ts, js)) (h : az_Ev X M (i + 1) (.ref x :: l) (.ref x :: st) w sz sl res) : az_Ev X M i (.ref x :: l) (st) w sz sl res := ev_pu hk rfl h
theorem E_as0 {l : List Value} {a : Value} {x : Nat} (hk : az_cd M i = some (pc, .astore_n 0, ln, t, u, v, ts, js)) (hn : az_nd 0 (a :: l) = true) (h : az_Ev X M (i + 1) (.ref x :: l) (st) w sz sl res) : az_Ev X M i (a :: l) (.ref x :: st) w sz sl res := ev_pu hk (by simp only [az_pu, az_s1]; exact if_pos ⟨rfl, hn, by show 0 < List.length _; simp only [List.length_cons]; omega⟩) h
theorem E_fl0 {l : List Value} {x : UInt32} (hk : az_cd M i = some (pc, .fload_n 0, ln, t, u, v, ts, js)) (h : az_Ev X M (i + 1) (.float x :: l) (.float x :: st) w sz sl res) : az_Ev X M i (.float x :: l) (st) w sz sl res := ev_pu hk rfl h
theorem E_fs0 {l : List Value} {a : Value} {x : UInt32} (hk : az_cd M i = some (pc, .fstore_n 0, ln, t, u, v, ts, js)) (hn : az_nd 0 (a :: l) = true) (h : az_Ev X M (i + 1) (.float x :: l) (st) w sz sl res) : az_Ev X M i (a :: l) (.float x :: st) w sz sl res := ev_pu hk (by simp only [az_pu, az_s1]; exact if_pos ⟨rfl, hn, by show 0 < List.length _; simp only [List.length_cons]; omega⟩) h
theorem E_is0 {l : List Value} {a : Value} {x : Int32} (hk : az_cd M i = some (pc, .istore_n 0, ln, t, u, v, ts, js)) (hn : az_nd 0 (a :: l) = true) (h : az_Ev X M (i + 1) (.int x :: l) (st) w sz sl res) : az_Ev X M i (a :: l) (.int x :: st) w sz sl res := ev_pu hk (by simp only [az_pu, az_s1]; exact if_pos ⟨rfl, hn, by show 0 < List.length _; simp only [List.length_cons]; omega⟩) h
theorem E_inc0 {l : List Value} {x : Int32} {z : Int} (hk : az_cd M i = some (pc, .iinc 0 z, ln, t, u, v, ts, js)) (hn : az_nd 0 (.int x :: l) = true) (h : az_Ev X M (i + 1) (.int (x + v) :: l) (st) w sz sl res) : az_Ev X M i (.int x :: l) (st) w sz sl res := ev_pu hk (by simp only [az_pu, az_inc, List.getElem?_cons_succ, List.getElem?_cons_zero]; exact if_pos ⟨hn, by show 0 < List.length _; simp only [List.length_cons]; omega⟩) h
theorem E_il1 {a0 : Value} {l : List Value} {x : Int32} (hk : az_cd M i = some (pc, .iload_n 1, ln, t, u, v, ts, js)) (h : az_Ev X M (i + 1) (a0 :: .int x :: l) (.int x :: st) w sz sl res) : az_Ev X M i (a0 :: .int x :: l) (st) w sz sl res := ev_pu hk rfl h
theorem E_al1 {a0 : Value} {l : List Value} {x : Nat} (hk : az_cd M i = some (pc, .aload_n 1, ln, t, u, v, ts, js)) (h : az_Ev X M (i + 1) (a0 :: .ref x :: l) (.ref x :: st) w sz sl res) : az_Ev X M i (a0 :: .ref x :: l) (st) w sz sl res := ev_pu hk rfl h
theorem E_as1 {a0 : Value} {l : List Value} {a : Value} {x : Nat} (hk : az_cd M i = some (pc, .astore_n 1, ln, t, u, v, ts, js)) (hn : az_nd 1 (a0 :: a :: l) = true) (h : az_Ev X M (i + 1) (a0 :: .ref x :: l) (st) w sz sl res) : az_Ev X M i (a0 :: a :: l) (.ref x :: st) w sz sl res := ev_pu hk (by simp only [az_pu, az_s1]; exact if_pos ⟨rfl, hn, by show 1 < List.length _; simp only [List.length_cons]; omega⟩) h
theorem E_fl1 {a0 : Value} {l : List Value} {x : UInt32} (hk : az_cd M i = some (pc, .fload_n 1, ln, t, u, v, ts, js)) (h : az_Ev X M (i + 1) (a0 :: .float x :: l) (.float x :: st) w sz sl res) : az_Ev X M i (a0 :: .float x :: l) (st) w sz sl res := ev_pu hk rfl h
theorem E_fs1 {a0 : Value} {l : List Value} {a : Value} {x : UInt32} (hk : az_cd M i = some (pc, .fstore_n 1, ln, t, u, v, ts, js)) (hn : az_nd 1 (a0 :: a :: l) = true) (h : az_Ev X M (i + 1) (a0 :: .float x :: l) (st) w sz sl res) : az_Ev X M i (a0 :: a :: l) (.float x :: st) w sz sl res := ev_pu hk (by simp only [az_pu, az_s1]; exact if_pos ⟨rfl, hn, by show 1 < List.length _; simp only [List.length_cons]; omega⟩) h
theorem E_is1 {a0 : Value} {l : List Value} {a : Value} {x : Int32} (hk : az_cd M i = some (pc, .istore_n 1, ln, t, u, v, ts, js)) (hn : az_nd 1 (a0 :: a :: l) = true) (h : az_Ev X M (i + 1) (a0 :: .int x :: l) (st) w sz sl res) : az_Ev X M i (a0 :: a :: l) (.int x :: st) w sz sl res := ev_pu hk (by simp only [az_pu, az_s1]; exact if_pos ⟨rfl, hn, by show 1 < List.length _; simp only [List.length_cons]; omega⟩) h
theorem E_inc1 {a0 : Value} {l : List Value} {x : Int32} {z : Int} (hk : az_cd M i = some (pc, .iinc 1 z, ln, t, u, v, ts, js)) (hn : az_nd 1 (a0 :: .int x :: l) = true) (h : az_Ev X M (i + 1) (a0 :: .int (x + v) :: l) (st) w sz sl res) : az_Ev X M i (a0 :: .int x :: l) (st) w sz sl res := ev_pu hk (by simp only [az_pu, az_inc, List.getElem?_cons_succ, List.getElem?_cons_zero]; exact if_pos ⟨hn, by show 1 < List.length _; simp only [List.length_cons]; omega⟩) h
theorem E_il2 {a0 a1 : Value} {l : List Value} {x : Int32} (hk : az_cd M i = some (pc, .iload_n 2, ln, t, u, v, ts, js)) (h : az_Ev X M (i + 1) (a0 :: a1 :: .int x :: l) (.int x :: st) w sz sl res) : az_Ev X M i (a0 :: a1 :: .int x :: l) (st) w sz sl res := ev_pu hk rfl h
theorem E_al2 {a0 a1 : Value} {l : List Value} {x : Nat} (hk : az_cd M i = some (pc, .aload_n 2, ln, t, u, v, ts, js)) (h : az_Ev X M (i + 1) (a0 :: a1 :: .ref x :: l) (.ref x :: st) w sz sl res) : az_Ev X M i (a0 :: a1 :: .ref x :: l) (st) w sz sl res := ev_pu hk rfl h
theorem E_as2 {a0 a1 : Value} {l : List Value} {a : Value} {x : Nat} (hk : az_cd M i = some (pc, .astore_n 2, ln, t, u, v, ts, js)) (hn : az_nd 2 (a0 :: a1 :: a :: l) = true) (h : az_Ev X M (i + 1) (a0 :: a1 :: .ref x :: l) (st) w sz sl res) : az_Ev X M i (a0 :: a1 :: a :: l) (.ref x :: st) w sz sl res := ev_pu hk (by simp only [az_pu, az_s1]; exact if_pos ⟨rfl, hn, by show 2 < List.length _; simp only [List.length_cons]; omega⟩) h
theorem E_fl2 {a0 a1 : Value} {l : List Value} {x : UInt32} (hk : az_cd M i = some (pc, .fload_n 2, ln, t, u, v, ts, js)) (h : az_Ev X M (i + 1) (a0 :: a1 :: .float x :: l) (.float x :: st) w sz sl res) : az_Ev X M i (a0 :: a1 :: .float x :: l) (st) w sz sl res := ev_pu hk rfl h
theorem E_fs2 {a0 a1 : Value} {l : List Value} {a : Value} {x : UInt32} (hk : az_cd M i = some (pc, .fstore_n 2, ln, t, u, v, ts, js)) (hn : az_nd 2 (a0 :: a1 :: a :: l) = true) (h : az_Ev X M (i + 1) (a0 :: a1 :: .float x :: l) (st) w sz sl res) : az_Ev X M i (a0 :: a1 :: a :: l) (.float x :: st) w sz sl res := ev_pu hk (by simp only [az_pu, az_s1]; exact if_pos ⟨rfl, hn, by show 2 < List.length _; simp only [List.length_cons]; omega⟩) h
theorem E_is2 {a0 a1 : Value} {l : List Value} {a : Value} {x : Int32} (hk : az_cd M i = some (pc, .istore_n 2, ln, t, u, v, ts, js)) (hn : az_nd 2 (a0 :: a1 :: a :: l) = true) (h : az_Ev X M (i + 1) (a0 :: a1 :: .int x :: l) (st) w sz sl res) : az_Ev X M i (a0 :: a1 :: a :: l) (.int x :: st) w sz sl res := ev_pu hk (by simp only [az_pu, az_s1]; exact if_pos ⟨rfl, hn, by show 2 < List.length _; simp only [List.length_cons]; omega⟩) h
theorem E_inc2 {a0 a1 : Value} {l : List Value} {x : Int32} {z : Int} (hk : az_cd M i = some (pc, .iinc 2 z, ln, t, u, v, ts, js)) (hn : az_nd 2 (a0 :: a1 :: .int x :: l) = true) (h : az_Ev X M (i + 1) (a0 :: a1 :: .int (x + v) :: l) (st) w sz sl res) : az_Ev X M i (a0 :: a1 :: .int x :: l) (st) w sz sl res := ev_pu hk (by simp only [az_pu, az_inc, List.getElem?_cons_succ, List.getElem?_cons_zero]; exact if_pos ⟨hn, by show 2 < List.length _; simp only [List.length_cons]; omega⟩) h
theorem E_il3 {a0 a1 a2 : Value} {l : List Value} {x : Int32} (hk : az_cd M i = some (pc, .iload_n 3, ln, t, u, v, ts, js)) (h : az_Ev X M (i + 1) (a0 :: a1 :: a2 :: .int x :: l) (.int x :: st) w sz sl res) : az_Ev X M i (a0 :: a1 :: a2 :: .int x :: l) (st) w sz sl res := ev_pu hk rfl h
theorem E_al3 {a0 a1 a2 : Value} {l : List Value} {x : Nat} (hk : az_cd M i = some (pc, .aload_n 3, ln, t, u, v, ts, js)) (h : az_Ev X M (i + 1) (a0 :: a1 :: a2 :: .ref x :: l) (.ref x :: st) w sz sl res) : az_Ev X M i (a0 :: a1 :: a2 :: .ref x :: l) (st) w sz sl res := ev_pu hk rfl h
theorem E_as3 {a0 a1 a2 : Value} {l : List Value} {a : Value} {x : Nat} (hk : az_cd M i = some (pc, .astore_n 3, ln, t, u, v, ts, js)) (hn : az_nd 3 (a0 :: a1 :: a2 :: a :: l) = true) (h : az_Ev X M (i + 1) (a0 :: a1 :: a2 :: .ref x :: l) (st) w sz sl res) : az_Ev X M i (a0 :: a1 :: a2 :: a :: l) (.ref x :: st) w sz sl res := ev_pu hk (by simp only [az_pu, az_s1]; exact if_pos ⟨rfl, hn, by show 3 < List.length _; simp only [List.length_cons]; omega⟩) h
theorem E_fl3 {a0 a1 a2 : Value} {l : List Value} {x : UInt32} (hk : az_cd M i = some (pc, .fload_n 3, ln, t, u, v, ts, js)) (h : az_Ev X M (i + 1) (a0 :: a1 :: a2 :: .float x :: l) (.float x :: st) w sz sl res) : az_Ev X M i (a0 :: a1 :: a2 :: .float x :: l) (st) w sz sl res := ev_pu hk rfl h
theorem E_fs3 {a0 a1 a2 : Value} {l : List Value} {a : Value} {x : UInt32} (hk : az_cd M i = some (pc, .fstore_n 3, ln, t, u, v, ts, js)) (hn : az_nd 3 (a0 :: a1 :: a2 :: a :: l) = true) (h : az_Ev X M (i + 1) (a0 :: a1 :: a2 :: .float x :: l) (st) w sz sl res) : az_Ev X M i (a0 :: a1 :: a2 :: a :: l) (.float x :: st) w sz sl res := ev_pu hk (by simp only [az_pu, az_s1]; exact if_pos ⟨rfl, hn, by show 3 < List.length _; simp only [List.length_cons]; omega⟩) h
theorem E_is3 {a0 a1 a2 : Value} {l : List Value} {a : Value} {x : Int32} (hk : az_cd M i = some (pc, .istore_n 3, ln, t, u, v, ts, js)) (hn : az_nd 3 (a0 :: a1 :: a2 :: a :: l) = true) (h : az_Ev X M (i + 1) (a0 :: a1 :: a2 :: .int x :: l) (st) w sz sl res) : az_Ev X M i (a0 :: a1 :: a2 :: a :: l) (.int x :: st) w sz sl res := ev_pu hk (by simp only [az_pu, az_s1]; exact if_pos ⟨rfl, hn, by show 3 < List.length _; simp only [List.length_cons]; omega⟩) h
theorem E_inc3 {a0 a1 a2 : Value} {l : List Value} {x : Int32} {z : Int} (hk : az_cd M i = some (pc, .iinc 3 z, ln, t, u, v, ts, js)) (hn : az_nd 3 (a0 :: a1 :: a2 :: .int x :: l) = true) (h : az_Ev X M (i + 1) (a0 :: a1 :: a2 :: .int (x + v) :: l) (st) w sz sl res) : az_Ev X M i (a0 :: a1 :: a2 :: .int x :: l) (st) w sz sl res := ev_pu hk (by simp only [az_pu, az_inc, List.getElem?_cons_succ, List.getElem?_cons_zero]; exact if_pos ⟨hn, by show 3 < List.length _; simp only [List.length_cons]; omega⟩) h
theorem E_il4 {a0 a1 a2 a3 : Value} {l : List Value} {x : Int32} (hk : az_cd M i = some (pc, .iload 4, ln, t, u, v, ts, js)) (h : az_Ev X M (i + 1) (a0 :: a1 :: a2 :: a3 :: .int x :: l) (.int x :: st) w sz sl res) : az_Ev X M i (a0 :: a1 :: a2 :: a3 :: .int x :: l) (st) w sz sl res := ev_pu hk rfl h
theorem E_dl4 {a0 a1 a2 a3 : Value} {l : List Value} {x : UInt64} (hk : az_cd M i = some (pc, .dload 4, ln, t, u, v, ts, js)) (h : az_Ev X M (i + 1) (a0 :: a1 :: a2 :: a3 :: .double x :: l) (.double x :: st) w sz sl res) : az_Ev X M i (a0 :: a1 :: a2 :: a3 :: .double x :: l) (st) w sz sl res := ev_pu hk rfl h
theorem E_ds4 {a0 a1 a2 a3 : Value} {l : List Value} {a b : Value} {x : UInt64} (hk : az_cd M i = some (pc, .dstore 4, ln, t, u, v, ts, js)) (hn : az_nd 4 (a0 :: a1 :: a2 :: a3 :: a :: b :: l) = true) (h : az_Ev X M (i + 1) (a0 :: a1 :: a2 :: a3 :: .double x :: .null :: l) (st) w sz sl res) : az_Ev X M i (a0 :: a1 :: a2 :: a3 :: a :: b :: l) (.double x :: st) w sz sl res := ev_pu hk (by simp only [az_pu, az_s2]; exact if_pos ⟨hn, by show 4 + 1 < List.length _; simp only [List.length_cons]; omega⟩) h
theorem E_is4 {a0 a1 a2 a3 : Value} {l : List Value} {a : Value} {x : Int32} (hk : az_cd M i = some (pc, .istore 4, ln, t, u, v, ts, js)) (hn : az_nd 4 (a0 :: a1 :: a2 :: a3 :: a :: l) = true) (h : az_Ev X M (i + 1) (a0 :: a1 :: a2 :: a3 :: .int x :: l) (st) w sz sl res) : az_Ev X M i (a0 :: a1 :: a2 :: a3 :: a :: l) (.int x :: st) w sz sl res := ev_pu hk (by simp only [az_pu, az_s1]; exact if_pos ⟨rfl, hn, by show 4 < List.length _; simp only [List.length_cons]; omega⟩) h
theorem E_inc4 {a0 a1 a2 a3 : Value} {l : List Value} {x : Int32} {z : Int} (hk : az_cd M i = some (pc, .iinc 4 z, ln, t, u, v, ts, js)) (hn : az_nd 4 (a0 :: a1 :: a2 :: a3 :: .int x :: l) = true) (h : az_Ev X M (i + 1) (a0 :: a1 :: a2 :: a3 :: .int (x + v) :: l) (st) w sz sl res) : az_Ev X M i (a0 :: a1 :: a2 :: a3 :: .int x :: l) (st) w sz sl res := ev_pu hk (by simp only [az_pu, az_inc, List.getElem?_cons_succ, List.getElem?_cons_zero]; exact if_pos ⟨hn, by show 4 < List.length _; simp only [List.length_cons]; omega⟩) h
theorem E_il5 {a0 a1 a2 a3 a4 : Value} {l : List Value} {x : Int32} (hk : az_cd M i = some (pc, .iload 5, ln, t, u, v, ts, js)) (h : az_Ev X M (i + 1) (a0 :: a1 :: a2 :: a3 :: a4 :: .int x :: l) (.int x :: st) w sz sl res) : az_Ev X M i (a0 :: a1 :: a2 :: a3 :: a4 :: .int x :: l) (st) w sz sl res := ev_pu hk rfl h
theorem E_dl5 {a0 a1 a2 a3 a4 : Value} {l : List Value} {x : UInt64} (hk : az_cd M i = some (pc, .dload 5, ln, t, u, v, ts, js)) (h : az_Ev X M (i + 1) (a0 :: a1 :: a2 :: a3 :: a4 :: .double x :: l) (.double x :: st) w sz sl res) : az_Ev X M i (a0 :: a1 :: a2 :: a3 :: a4 :: .double x :: l) (st) w sz sl res := ev_pu hk rfl h
theorem E_ds5 {a0 a1 a2 a3 a4 : Value} {l : List Value} {a b : Value} {x : UInt64} (hk : az_cd M i = some (pc, .dstore 5, ln, t, u, v, ts, js)) (hn : az_nd 5 (a0 :: a1 :: a2 :: a3 :: a4 :: a :: b :: l) = true) (h : az_Ev X M (i + 1) (a0 :: a1 :: a2 :: a3 :: a4 :: .double x :: .null :: l) (st) w sz sl res) : az_Ev X M i (a0 :: a1 :: a2 :: a3 :: a4 :: a :: b :: l) (.double x :: st) w sz sl res := ev_pu hk (by simp only [az_pu, az_s2]; exact if_pos ⟨hn, by show 5 + 1 < List.length _; simp only [List.length_cons]; omega⟩) h
theorem E_is5 {a0 a1 a2 a3 a4 : Value} {l : List Value} {a : Value} {x : Int32} (hk : az_cd M i = some (pc, .istore 5, ln, t, u, v, ts, js)) (hn : az_nd 5 (a0 :: a1 :: a2 :: a3 :: a4 :: a :: l) = true) (h : az_Ev X M (i + 1) (a0 :: a1 :: a2 :: a3 :: a4 :: .int x :: l) (st) w sz sl res) : az_Ev X M i (a0 :: a1 :: a2 :: a3 :: a4 :: a :: l) (.int x :: st) w sz sl res := ev_pu hk (by simp only [az_pu, az_s1]; exact if_pos ⟨rfl, hn, by show 5 < List.length _; simp only [List.length_cons]; omega⟩) h
theorem E_inc5 {a0 a1 a2 a3 a4 : Value} {l : List Value} {x : Int32} {z : Int} (hk : az_cd M i = some (pc, .iinc 5 z, ln, t, u, v, ts, js)) (hn : az_nd 5 (a0 :: a1 :: a2 :: a3 :: a4 :: .int x :: l) = true) (h : az_Ev X M (i + 1) (a0 :: a1 :: a2 :: a3 :: a4 :: .int (x + v) :: l) (st) w sz sl res) : az_Ev X M i (a0 :: a1 :: a2 :: a3 :: a4 :: .int x :: l) (st) w sz sl res := ev_pu hk (by simp only [az_pu, az_inc, List.getElem?_cons_succ, List.getElem?_cons_zero]; exact if_pos ⟨hn, by show 5 < List.length _; simp only [List.length_cons]; omega⟩) h
theorem E_il6 {a0 a1 a2 a3 a4 a5 : Value} {l : List Value} {x : Int32} (hk : az_cd M i = some (pc, .iload 6, ln, t, u, v, ts, js)) (h : az_Ev X M (i + 1) (a0 :: a1 :: a2 :: a3 :: a4 :: a5 :: .int x :: l) (.int x :: st) w sz sl res) : az_Ev X M i (a0 :: a1 :: a2 :: a3 :: a4 :: a5 :: .int x :: l) (st) w sz sl res := ev_pu hk rfl h
theorem E_dl6 {a0 a1 a2 a3 a4 a5 : Value} {l : List Value} {x : UInt64} (hk : az_cd M i = some (pc, .dload 6, ln, t, u, v, ts, js)) (h : az_Ev X M (i + 1) (a0 :: a1 :: a2 :: a3 :: a4 :: a5 :: .double x :: l) (.double x :: st) w sz sl res) : az_Ev X M i (a0 :: a1 :: a2 :: a3 :: a4 :: a5 :: .double x :: l) (st) w sz sl res := ev_pu hk rfl h
theorem E_ds6 {a0 a1 a2 a3 a4 a5 : Value} {l : List Value} {a b : Value} {x : UInt64} (hk : az_cd M i = some (pc, .dstore 6, ln, t, u, v, ts, js)) (hn : az_nd 6 (a0 :: a1 :: a2 :: a3 :: a4 :: a5 :: a :: b :: l) = true) (h : az_Ev X M (i + 1) (a0 :: a1 :: a2 :: a3 :: a4 :: a5 :: .double x :: .null :: l) (st) w sz sl res) : az_Ev X M i (a0 :: a1 :: a2 :: a3 :: a4 :: a5 :: a :: b :: l) (.double x :: st) w sz sl res := ev_pu hk (by simp only [az_pu, az_s2]; exact if_pos ⟨hn, by show 6 + 1 < List.length _; simp only [List.length_cons]; omega⟩) h
theorem E_is6 {a0 a1 a2 a3 a4 a5 : Value} {l : List Value} {a : Value} {x : Int32} (hk : az_cd M i = some (pc, .istore 6, ln, t, u, v, ts, js)) (hn : az_nd 6 (a0 :: a1 :: a2 :: a3 :: a4 :: a5 :: a :: l) = true) (h : az_Ev X M (i + 1) (a0 :: a1 :: a2 :: a3 :: a4 :: a5 :: .int x :: l) (st) w sz sl res) : az_Ev X M i (a0 :: a1 :: a2 :: a3 :: a4 :: a5 :: a :: l) (.int x :: st) w sz sl res := ev_pu hk (by simp only [az_pu, az_s1]; exact if_pos ⟨rfl, hn, by show 6 < List.length _; simp only [List.length_cons]; omega⟩) h
theorem E_inc6 {a0 a1 a2 a3 a4 a5 : Value} {l : List Value} {x : Int32} {z : Int} (hk : az_cd M i = some (pc, .iinc 6 z, ln, t, u, v, ts, js)) (hn : az_nd 6 (a0 :: a1 :: a2 :: a3 :: a4 :: a5 :: .int x :: l) = true) (h : az_Ev X M (i + 1) (a0 :: a1 :: a2 :: a3 :: a4 :: a5 :: .int (x + v) :: l) (st) w sz sl res) : az_Ev X M i (a0 :: a1 :: a2 :: a3 :: a4 :: a5 :: .int x :: l) (st) w sz sl res := ev_pu hk (by simp only [az_pu, az_inc, List.getElem?_cons_succ, List.getElem?_cons_zero]; exact if_pos ⟨hn, by show 6 < List.length _; simp only [List.length_cons]; omega⟩) h
theorem E_il7 {a0 a1 a2 a3 a4 a5 a6 : Value} {l : List Value} {x : Int32} (hk : az_cd M i = some (pc, .iload 7, ln, t, u, v, ts, js)) (h : az_Ev X M (i + 1) (a0 :: a1 :: a2 :: a3 :: a4 :: a5 :: a6 :: .int x :: l) (.int x :: st) w sz sl res) : az_Ev X M i (a0 :: a1 :: a2 :: a3 :: a4 :: a5 :: a6 :: .int x :: l) (st) w sz sl res := ev_pu hk rfl h
theorem E_is7 {a0 a1 a2 a3 a4 a5 a6 : Value} {l : List Value} {a : Value} {x : Int32} (hk : az_cd M i = some (pc, .istore 7, ln, t, u, v, ts, js)) (hn : az_nd 7 (a0 :: a1 :: a2 :: a3 :: a4 :: a5 :: a6 :: a :: l) = true) (h : az_Ev X M (i + 1) (a0 :: a1 :: a2 :: a3 :: a4 :: a5 :: a6 :: .int x :: l) (st) w sz sl res) : az_Ev X M i (a0 :: a1 :: a2 :: a3 :: a4 :: a5 :: a6 :: a :: l) (.int x :: st) w sz sl res := ev_pu hk (by simp only [az_pu, az_s1]; exact if_pos ⟨rfl, hn, by show 7 < List.length _; simp only [List.length_cons]; omega⟩) h
theorem E_inc7 {a0 a1 a2 a3 a4 a5 a6 : Value} {l : List Value} {x : Int32} {z : Int} (hk : az_cd M i = some (pc, .iinc 7 z, ln, t, u, v, ts, js)) (hn : az_nd 7 (a0 :: a1 :: a2 :: a3 :: a4 :: a5 :: a6 :: .int x :: l) = true) (h : az_Ev X M (i + 1) (a0 :: a1 :: a2 :: a3 :: a4 :: a5 :: a6 :: .int (x + v) :: l) (st) w sz sl res) : az_Ev X M i (a0 :: a1 :: a2 :: a3 :: a4 :: a5 :: a6 :: .int x :: l) (st) w sz sl res := ev_pu hk (by simp only [az_pu, az_inc, List.getElem?_cons_succ, List.getElem?_cons_zero]; exact if_pos ⟨hn, by show 7 < List.length _; simp only [List.length_cons]; omega⟩) h
theorem E_alS0 {l : List Value} {x : Nat} (hk : az_cd M i = some (pc, .aload_n 0, ln, t, u, v, ts, js)) (h : az_Ev X M (i + 1) (.retAddr x :: l) (.retAddr x :: st) w sz sl res) : az_Ev X M i (.retAddr x :: l) (st) w sz sl res := ev_pu hk rfl h
theorem E_iadd {x y : Int32} (hk : az_cd M i = some (pc, .iadd, ln, t, u, v, ts, js)) (h : az_Ev X M (i + 1) (L) (.int (x + y) :: st) w sz sl res) : az_Ev X M i (L) (.int y :: .int x :: st) w sz sl res := ev_pu hk rfl h
theorem E_isub {x y : Int32} (hk : az_cd M i = some (pc, .isub, ln, t, u, v, ts, js)) (h : az_Ev X M (i + 1) (L) (.int (x - y) :: st) w sz sl res) : az_Ev X M i (L) (.int y :: .int x :: st) w sz sl res := ev_pu hk rfl h
theorem E_imul {x y : Int32} (hk : az_cd M i = some (pc, .imul, ln, t, u, v, ts, js)) (h : az_Ev X M (i + 1) (L) (.int (x * y) :: st) w sz sl res) : az_Ev X M i (L) (.int y :: .int x :: st) w sz sl res := ev_pu hk rfl h
theorem E_iand {x y : Int32} (hk : az_cd M i = some (pc, .iand, ln, t, u, v, ts, js)) (h : az_Ev X M (i + 1) (L) (.int (x &&& y) :: st) w sz sl res) : az_Ev X M i (L) (.int y :: .int x :: st) w sz sl res := ev_pu hk rfl h
theorem E_ior {x y : Int32} (hk : az_cd M i = some (pc, .ior, ln, t, u, v, ts, js)) (h : az_Ev X M (i + 1) (L) (.int (x ||| y) :: st) w sz sl res) : az_Ev X M i (L) (.int y :: .int x :: st) w sz sl res := ev_pu hk rfl h
theorem E_ixor {x y : Int32} (hk : az_cd M i = some (pc, .ixor, ln, t, u, v, ts, js)) (h : az_Ev X M (i + 1) (L) (.int (x ^^^ y) :: st) w sz sl res) : az_Ev X M i (L) (.int y :: .int x :: st) w sz sl res := ev_pu hk rfl h
theorem E_ishl {x y : Int32} (hk : az_cd M i = some (pc, .ishl, ln, t, u, v, ts, js)) (h : az_Ev X M (i + 1) (L) (.int (x <<< (y &&& 31)) :: st) w sz sl res) : az_Ev X M i (L) (.int y :: .int x :: st) w sz sl res := ev_pu hk rfl h
theorem E_ishr {x y : Int32} (hk : az_cd M i = some (pc, .ishr, ln, t, u, v, ts, js)) (h : az_Ev X M (i + 1) (L) (.int (x >>> (y &&& 31)) :: st) w sz sl res) : az_Ev X M i (L) (.int y :: .int x :: st) w sz sl res := ev_pu hk rfl h
theorem E_iushr {x y : Int32} (hk : az_cd M i = some (pc, .iushr, ln, t, u, v, ts, js)) (h : az_Ev X M (i + 1) (L) (.int ((x.toUInt32 >>> (y.toUInt32 &&& Int32.toUInt32 31)).toInt32) :: st) w sz sl res) : az_Ev X M i (L) (.int y :: .int x :: st) w sz sl res := ev_pu hk rfl h
theorem E_irem {x y : Int32} (hk : az_cd M i = some (pc, .irem, ln, t, u, v, ts, js)) (hy : ¬ y = 0) (h : az_Ev X M (i + 1) (L) (.int (x - x / y * y) :: st) w sz sl res) : az_Ev X M i (L) (.int y :: .int x :: st) w sz sl res := ev_pu hk (by simp only [az_pu, az_rem]; exact if_neg hy) h
theorem E_i2c {x : Int32} (hk : az_cd M i = some (pc, .i2c, ln, t, u, v, ts, js)) (h : az_Ev X M (i + 1) (L) (.int (x.toUInt32 % 65536).toInt32 :: st) w sz sl res) : az_Ev X M i (L) (.int x :: st) w sz sl res := ev_pu hk rfl h
theorem E_i2d {x : Int32} (hk : az_cd M i = some (pc, .i2d, ln, t, u, v, ts, js)) (h : az_Ev X M (i + 1) (L) (.double (FP.i2d x) :: st) w sz sl res) : az_Ev X M i (L) (.int x :: st) w sz sl res := ev_pu hk rfl h
theorem E_f2i {x : UInt32} (hk : az_cd M i = some (pc, .f2i, ln, t, u, v, ts, js)) (h : az_Ev X M (i + 1) (L) (.int (FP.f2i x) :: st) w sz sl res) : az_Ev X M i (L) (.float x :: st) w sz sl res := ev_pu hk rfl h
theorem E_d2f {x : UInt64} (hk : az_cd M i = some (pc, .d2f, ln, t, u, v, ts, js)) (hy : FP.d2f x &&& 0x7fffffff ≤ 0x7f800000) (h : az_Ev X M (i + 1) (L) (.float (FP.d2f x) :: st) w sz sl res) : az_Ev X M i (L) (.double x :: st) w sz sl res := ev_pu hk (by simp only [az_pu, az_df]; exact if_pos hy) h
theorem E_fsub {x y : UInt32} (hk : az_cd M i = some (pc, .fsub, ln, t, u, v, ts, js)) (hy : FP.fsub x y &&& 0x7fffffff ≤ 0x7f800000) (h : az_Ev X M (i + 1) (L) (.float (FP.fsub x y) :: st) w sz sl res) : az_Ev X M i (L) (.float y :: .float x :: st) w sz sl res := ev_pu hk (by simp only [az_pu, az_f2]; exact if_pos hy) h
theorem E_fmul {x y : UInt32} (hk : az_cd M i = some (pc, .fmul, ln, t, u, v, ts, js)) (hy : FP.fmul x y &&& 0x7fffffff ≤ 0x7f800000) (h : az_Ev X M (i + 1) (L) (.float (FP.fmul x y) :: st) w sz sl res) : az_Ev X M i (L) (.float y :: .float x :: st) w sz sl res := ev_pu hk (by simp only [az_pu, az_f2]; exact if_pos hy) h
theorem E_fdiv {x y : UInt32} (hk : az_cd M i = some (pc, .fdiv, ln, t, u, v, ts, js)) (hy : FP.fdiv x y &&& 0x7fffffff ≤ 0x7f800000) (h : az_Ev X M (i + 1) (L) (.float (FP.fdiv x y) :: st) w sz sl res) : az_Ev X M i (L) (.float y :: .float x :: st) w sz sl res := ev_pu hk (by simp only [az_pu, az_f2]; exact if_pos hy) h
theorem E_dsub {x y : UInt64} (hk : az_cd M i = some (pc, .dsub, ln, t, u, v, ts, js)) (hy : FP.dsub x y &&& 0x7fffffffffffffff ≤ 0x7ff0000000000000) (h : az_Ev X M (i + 1) (L) (.double (FP.dsub x y) :: st) w sz sl res) : az_Ev X M i (L) (.double y :: .double x :: st) w sz sl res := ev_pu hk (by simp only [az_pu, az_d2]; exact if_pos hy) h
theorem E_ddiv {x y : UInt64} (hk : az_cd M i = some (pc, .ddiv, ln, t, u, v, ts, js)) (hy : FP.ddiv x y &&& 0x7fffffffffffffff ≤ 0x7ff0000000000000) (h : az_Ev X M (i + 1) (L) (.double (FP.ddiv x y) :: st) w sz sl res) : az_Ev X M i (L) (.double y :: .double x :: st) w sz sl res := ev_pu hk (by simp only [az_pu, az_d2]; exact if_pos hy) h
theorem E_fcmp {x y : UInt32} {op : CmpOp} (hk : az_cd M i = some (pc, .fcmp op, ln, t, u, v, ts, js)) (h : az_Ev X M (i + 1) (L) (.int (Op.cmpValue (FP.fcmp x y) op) :: st) w sz sl res) : az_Ev X M i (L) (.float y :: .float x :: st) w sz sl res := ev_pu hk rfl h
theorem E_dcmp {x y : UInt64} {op : CmpOp} (hk : az_cd M i = some (pc, .dcmp op, ln, t, u, v, ts, js)) (h : az_Ev X M (i + 1) (L) (.int (Op.cmpValue (FP.dcmp x y) op) :: st) w sz sl res) : az_Ev X M i (L) (.double y :: .double x :: st) w sz sl res := ev_pu hk rfl h
theorem E_dupI {x : Int32} (hk : az_cd M i = some (pc, .dup, ln, t, u, v, ts, js)) (h : az_Ev X M (i + 1) (L) (.int x :: .int x :: st) w sz sl res) : az_Ev X M i (L) (.int x :: st) w sz sl res := ev_pu hk rfl h
theorem E_dupR {x : Nat} (hk : az_cd M i = some (pc, .dup, ln, t, u, v, ts, js)) (h : az_Ev X M (i + 1) (L) (.ref x :: .ref x :: st) w sz sl res) : az_Ev X M i (L) (.ref x :: st) w sz sl res := ev_pu hk rfl h
theorem E_dup2 {x : Int32} {a : Nat} (hk : az_cd M i = some (pc, .dup2, ln, t, u, v, ts, js)) (h : az_Ev X M (i + 1) (L) (.int x :: .ref a :: .int x :: .ref a :: st) w sz sl res) : az_Ev X M i (L) (.int x :: .ref a :: st) w sz sl res := ev_pu hk rfl h
theorem E_goto {z : Int} (hk : az_cd M i = some (pc, .goto z, ln, t, u, v, ts, js)) (h : az_Ev X M t L st w sz sl res) : az_Ev X M i L st w sz sl res := ev_br hk rfl (fun _ => h) (fun q => by cases q)
theorem E_ifeq {z : Int} {x : Int32} (hk : az_cd M i = some (pc, .ifCond .eq z, ln, t, u, v, ts, js)) (h1 : x = 0 → az_Ev X M t L st w sz sl res) (h2 : ¬ (x = 0) → az_Ev X M (i + 1) L st w sz sl res) : az_Ev X M i L (.int x :: st) w sz sl res := ev_br hk rfl (fun q => h1 (of_decide_eq_true q)) (fun q => h2 (of_decide_eq_false q))
theorem E_ifne {z : Int} {x : Int32} (hk : az_cd M i = some (pc, .ifCond .ne z, ln, t, u, v, ts, js)) (h1 : ¬ x = 0 → az_Ev X M t L st w sz sl res) (h2 : ¬ (¬ x = 0) → az_Ev X M (i + 1) L st w sz sl res) : az_Ev X M i L (.int x :: st) w sz sl res := ev_br hk rfl (fun q => h1 (of_decide_eq_true q)) (fun q => h2 (of_decide_eq_false q))
theorem E_iflt {z : Int} {x : Int32} (hk : az_cd M i = some (pc, .ifCond .lt z, ln, t, u, v, ts, js)) (h1 : x < 0 → az_Ev X M t L st w sz sl res) (h2 : ¬ (x < 0) → az_Ev X M (i + 1) L st w sz sl res) : az_Ev X M i L (.int x :: st) w sz sl res := ev_br hk rfl (fun q => h1 (of_decide_eq_true q)) (fun q => h2 (of_decide_eq_false q))
theorem E_ifge {z : Int} {x : Int32} (hk : az_cd M i = some (pc, .ifCond .ge z, ln, t, u, v, ts, js)) (h1 : 0 ≤ x → az_Ev X M t L st w sz sl res) (h2 : ¬ (0 ≤ x) → az_Ev X M (i + 1) L st w sz sl res) : az_Ev X M i L (.int x :: st) w sz sl res := ev_br hk rfl (fun q => h1 (of_decide_eq_true q)) (fun q => h2 (of_decide_eq_false q))
theorem E_ifgt {z : Int} {x : Int32} (hk : az_cd M i = some (pc, .ifCond .gt z, ln, t, u, v, ts, js)) (h1 : 0 < x → az_Ev X M t L st w sz sl res) (h2 : ¬ (0 < x) → az_Ev X M (i + 1) L st w sz sl res) : az_Ev X M i L (.int x :: st) w sz sl res := ev_br hk rfl (fun q => h1 (of_decide_eq_true q)) (fun q => h2 (of_decide_eq_false q))
theorem E_ifle {z : Int} {x : Int32} (hk : az_cd M i = some (pc, .ifCond .le z, ln, t, u, v, ts, js)) (h1 : x ≤ 0 → az_Ev X M t L st w sz sl res) (h2 : ¬ (x ≤ 0) → az_Ev X M (i + 1) L st w sz sl res) : az_Ev X M i L (.int x :: st) w sz sl res := ev_br hk rfl (fun q => h1 (of_decide_eq_true q)) (fun q => h2 (of_decide_eq_false q))
theorem E_iceq {z : Int} {x y : Int32} (hk : az_cd M i = some (pc, .if_icmp .eq z, ln, t, u, v, ts, js)) (h1 : x = y → az_Ev X M t L st w sz sl res) (h2 : ¬ (x = y) → az_Ev X M (i + 1) L st w sz sl res) : az_Ev X M i L (.int y :: .int x :: st) w sz sl res := ev_br hk rfl (fun q => h1 (of_decide_eq_true q)) (fun q => h2 (of_decide_eq_false q))
theorem E_icne {z : Int} {x y : Int32} (hk : az_cd M i = some (pc, .if_icmp .ne z, ln, t, u, v, ts, js)) (h1 : ¬ x = y → az_Ev X M t L st w sz sl res) (h2 : ¬ (¬ x = y) → az_Ev X M (i + 1) L st w sz sl res) : az_Ev X M i L (.int y :: .int x :: st) w sz sl res := ev_br hk rfl (fun q => h1 (of_decide_eq_true q)) (fun q => h2 (of_decide_eq_false q))
theorem E_iclt {z : Int} {x y : Int32} (hk : az_cd M i = some (pc, .if_icmp .lt z, ln, t, u, v, ts, js)) (h1 : x < y → az_Ev X M t L st w sz sl res) (h2 : ¬ (x < y) → az_Ev X M (i + 1) L st w sz sl res) : az_Ev X M i L (.int y :: .int x :: st) w sz sl res := ev_br hk rfl (fun q => h1 (of_decide_eq_true q)) (fun q => h2 (of_decide_eq_false q))
theorem E_icge {z : Int} {x y : Int32} (hk : az_cd M i = some (pc, .if_icmp .ge z, ln, t, u, v, ts, js)) (h1 : y ≤ x → az_Ev X M t L st w sz sl res) (h2 : ¬ (y ≤ x) → az_Ev X M (i + 1) L st w sz sl res) : az_Ev X M i L (.int y :: .int x :: st) w sz sl res := ev_br hk rfl (fun q => h1 (of_decide_eq_true q)) (fun q => h2 (of_decide_eq_false q))
theorem E_icgt {z : Int} {x y : Int32} (hk : az_cd M i = some (pc, .if_icmp .gt z, ln, t, u, v, ts, js)) (h1 : y < x → az_Ev X M t L st w sz sl res) (h2 : ¬ (y < x) → az_Ev X M (i + 1) L st w sz sl res) : az_Ev X M i L (.int y :: .int x :: st) w sz sl res := ev_br hk rfl (fun q => h1 (of_decide_eq_true q)) (fun q => h2 (of_decide_eq_false q))
theorem E_icle {z : Int} {x y : Int32} (hk : az_cd M i = some (pc, .if_icmp .le z, ln, t, u, v, ts, js)) (h1 : x ≤ y → az_Ev X M t L st w sz sl res) (h2 : ¬ (x ≤ y) → az_Ev X M (i + 1) L st w sz sl res) : az_Ev X M i L (.int y :: .int x :: st) w sz sl res := ev_br hk rfl (fun q => h1 (of_decide_eq_true q)) (fun q => h2 (of_decide_eq_false q))
theorem E_zeq {z : Int} {b : Bool} (hk : az_cd M i = some (pc, .ifCond .eq z, ln, t, u, v, ts, js)) (h1 : b = false → az_Ev X M t L st w sz sl res) (h2 : b = true → az_Ev X M (i + 1) L st w sz sl res) : az_Ev X M i L (.int (zb b) :: st) w sz sl res := E_ifeq hk (fun q => h1 (by cases b <;> first | rfl | exact absurd q (by decide))) (fun q => h2 (by cases b <;> first | rfl | exact absurd (show zb false = 0 from rfl) q))
theorem E_zne {z : Int} {b : Bool} (hk : az_cd M i = some (pc, .ifCond .ne z, ln, t, u, v, ts, js)) (h1 : b = true → az_Ev X M t L st w sz sl res) (h2 : b = false → az_Ev X M (i + 1) L st w sz sl res) : az_Ev X M i L (.int (zb b) :: st) w sz sl res := E_ifne hk (fun q => h1 (by cases b <;> first | rfl | exact absurd (show zb false = 0 from rfl) q)) (fun q => h2 (by cases b <;> first | rfl | exact absurd (show ¬ zb true = 0 by decide) q))
theorem E_sw {d lo hi : Int} {os : Array Int} {x : Int32} (hk : az_cd M i = some (pc, .tableswitch d lo hi os, ln, t, u, v, ts, js)) (hn : hi + 1 = lo + (ts.length : Int)) (h1 : ∀ j k : Nat, ts[j]? = some k → x.toInt = lo + (j : Int) → az_Ev X M k L st w sz sl res) (h2 : x.toInt < lo ∨ hi < x.toInt → az_Ev X M t L st w sz sl res) : az_Ev X M i L (.int x :: st) w sz sl res := by
  by_cases hc : x.toInt < lo ∨ hi < x.toInt
  · exact az_Ev.step ⟨_, _, _, _, _, _, _, _, hk, Or.inr (Or.inr (Or.inl ⟨t, st, by simp only [az_sw]; exact if_pos hc, h2 hc⟩))⟩
  · have hj : (x.toInt - lo).toNat < ts.length := by omega
    have he : ts[(x.toInt - lo).toNat]? = some ts[(x.toInt - lo).toNat] := List.getElem?_eq_getElem hj
    refine az_Ev.step ⟨_, _, _, _, _, _, _, _, hk, Or.inr (Or.inr (Or.inl ⟨_, st, ?_, h1 _ _ he (by omega)⟩))⟩
    simp only [az_sw]
    rw [if_neg hc, he]
theorem E_lk {d : Int} {ps : Array (Int × Int)} {x : Int32} (hk : az_cd M i = some (pc, .lookupswitch d ps, ln, t, u, v, ts, js)) (h : az_Ev X M (az_lk ps.toList ts x.toInt t) L st w sz sl res) : az_Ev X M i L (.int x :: st) w sz sl res := az_Ev.step ⟨_, _, _, _, _, _, _, _, hk, Or.inr (Or.inr (Or.inl ⟨_, _, rfl, h⟩))⟩
theorem E_get {z a : Nat} {fs : List Value} {x : Value} (hk : az_cd M i = some (pc, .getfield z, ln, t, u, v, ts, js)) (hw : w a = .inr (t, fs)) (hu : fs[u]? = some x) (h : az_Ev X M (i + 1) L (x :: st) w sz sl res) : az_Ev X M i L (.ref a :: st) w sz sl res := az_Ev.step ⟨_, _, _, _, _, _, _, _, hk, Or.inr (Or.inr (Or.inr (Or.inl ⟨_, _, _, _, _, rfl, rfl, hw, hu, h⟩)))⟩
theorem E_put {z a : Nat} {fs : List Value} {x : Value} (hk : az_cd M i = some (pc, .putfield z, ln, t, u, v, ts, js)) (hw : w a = .inr (t, fs)) (hu : u < fs.length) (hf : az_fit (az_ty t u) x = true) (h : az_Ev X M (i + 1) L st (va_up w a (.inr (t, fs.set u x))) sz sl res) : az_Ev X M i L (x :: .ref a :: st) w sz sl res := az_Ev.step ⟨_, _, _, _, _, _, _, _, hk, Or.inr (Or.inr (Or.inr (Or.inr (Or.inl ⟨_, _, _, _, _, rfl, rfl, hw, hu, hf, h⟩))))⟩
theorem E_sld {j : Int32} {q : Nat} (hk : az_cd M i = some (pc, .iaload, ln, t, u, v, ts, js)) (hM : M = 0) (hj : vp_in j X.1) (h : az_Ev X M (i + 1) L (.int (X.2 j.toNatClampNeg) :: st) w sz sl res) : az_Ev X M i L (.int j :: .retAddr q :: st) w sz sl res := az_Ev.step ⟨_, _, _, _, _, _, _, _, hk, Or.inr (Or.inr (Or.inr (Or.inr (Or.inr (Or.inl ⟨_, _, _, rfl, rfl, hM, hj, h⟩)))))⟩
theorem E_slen {q : Nat} (hk : az_cd M i = some (pc, .arraylength, ln, t, u, v, ts, js)) (hM : M = 0) (h : az_Ev X M (i + 1) L (.int (nI X.1) :: st) w sz sl res) : az_Ev X M i L (.retAddr q :: st) w sz sl res := az_Ev.step ⟨_, _, _, _, _, _, _, _, hk, Or.inr (Or.inr (Or.inr (Or.inr (Or.inr (Or.inr (Or.inl ⟨_, _, rfl, rfl, hM, h⟩))))))⟩
theorem E_ald {ins : Instr} {k n a j : Nat} {f : Nat → Int32} (hk : az_cd M i = some (pc, ins, ln, t, u, v, ts, js)) (hal : az_al ins = some k) (hw : w a = .inl (k, n, .inl f)) (hj : j < n) (hn : n < 2 ^ 31) (h : az_Ev X M (i + 1) L (.int (f j) :: st) w sz sl res) : az_Ev X M i L (.int (nI j) :: .ref a :: st) w sz sl res := az_Ev.step ⟨_, _, _, _, _, _, _, _, hk, Or.inr (Or.inr (Or.inr (Or.inr (Or.inr (Or.inr (Or.inr (Or.inl ⟨_, _, _, _, _, _, hal, rfl, hw, vp_in_nI hj hn, by rw [nI_clamp (Nat.lt_trans hj hn)]; exact h⟩)))))))⟩
theorem E_ast {ins : Instr} {k n a j : Nat} {x : Int32} {f : Nat → Int32} (hk : az_cd M i = some (pc, ins, ln, t, u, v, ts, js)) (has : az_as ins = some k) (hw : w a = .inl (k, n, .inl f)) (hj : j < n) (hn : n < 2 ^ 31) (h : az_Ev X M (i + 1) L st (va_up w a (.inl (k, n, .inl (upd f j (az_nr k x))))) sz sl res) : az_Ev X M i L (.int x :: .int (nI j) :: .ref a :: st) w sz sl res := az_Ev.step ⟨_, _, _, _, _, _, _, _, hk, Or.inr (Or.inr (Or.inr (Or.inr (Or.inr (Or.inr (Or.inr (Or.inr (Or.inl ⟨_, _, _, _, _, _, _, has, rfl, hw, vp_in_nI hj hn, by rw [nI_clamp (Nat.lt_trans hj hn)]; exact h⟩))))))))⟩
theorem E_iast {n a j : Nat} {x : Int32} {f : Nat → Int32} (hk : az_cd M i = some (pc, .iastore, ln, t, u, v, ts, js)) (hw : w a = .inl (0, n, .inl f)) (hj : j < n) (hn : n < 2 ^ 31) (h : az_Ev X M (i + 1) L st (va_up w a (.inl (0, n, .inl (upd f j x)))) sz sl res) : az_Ev X M i L (.int x :: .int (nI j) :: .ref a :: st) w sz sl res := E_ast hk rfl hw hj hn h
theorem E_zast {n a j : Nat} {b : Bool} {f : Nat → Int32} (hk : az_cd M i = some (pc, .bastore, ln, t, u, v, ts, js)) (hw : w a = .inl (2, n, .inl f)) (hj : j < n) (hn : n < 2 ^ 31) (h : az_Ev X M (i + 1) L st (va_up w a (.inl (2, n, .inl (upd f j (zb b))))) sz sl res) : az_Ev X M i L (.int (zb b) :: .int (nI j) :: .ref a :: st) w sz sl res := E_ast hk rfl hw hj hn (by rw [az_nr_zb]; exact h)
theorem E_aald {k n a j y : Nat} {f : Nat → Option Nat} (hk : az_cd M i = some (pc, .aaload, ln, t, u, v, ts, js)) (hw : w a = .inl (k, n, .inr (.inr (.inr (.inr f))))) (hk2 : k = 3 ∨ k = 4) (hj : j < n) (hn : n < 2 ^ 31) (hy : f j = some y) (h : az_Ev X M (i + 1) L (.ref y :: st) w sz sl res) : az_Ev X M i L (.int (nI j) :: .ref a :: st) w sz sl res := az_Ev.step ⟨_, _, _, _, _, _, _, _, hk, Or.inr (Or.inr (Or.inr (Or.inr (Or.inr (Or.inr (Or.inr (Or.inr (Or.inr (Or.inl ⟨_, _, _, _, _, _, _, rfl, rfl, hw, hk2, vp_in_nI hj hn, by rw [nI_clamp (Nat.lt_trans hj hn)]; exact hy, h⟩)))))))))⟩
theorem E_aast {k n a j y ci : Nat} {fs : List Value} {f : Nat → Option Nat} (hk : az_cd M i = some (pc, .aastore, ln, t, u, v, ts, js)) (hw : w a = .inl (k, n, .inr (.inr (.inr (.inr f))))) (hwy : w y = .inr (ci, fs)) (hk2 : (k = 3 ∧ ci = 2) ∨ (k = 4 ∧ ci = 6)) (hj : j < n) (hn : n < 2 ^ 31) (h : az_Ev X M (i + 1) L st (va_up w a (.inl (k, n, .inr (.inr (.inr (.inr (va_up f j (some y)))))))) sz sl res) : az_Ev X M i L (.ref y :: .int (nI j) :: .ref a :: st) w sz sl res := az_Ev.step ⟨_, _, _, _, _, _, _, _, hk, Or.inr (Or.inr (Or.inr (Or.inr (Or.inr (Or.inr (Or.inr (Or.inr (Or.inr (Or.inr (Or.inl ⟨_, _, _, _, _, _, _, _, _, rfl, rfl, hw, hwy, hk2, vp_in_nI hj hn, by rw [nI_clamp (Nat.lt_trans hj hn)]; exact h⟩))))))))))⟩
theorem E_alen {k n a : Nat} {A : (Nat → Int32) ⊕ (Nat → Int64) ⊕ (Nat → UInt32) ⊕ (Nat → UInt64) ⊕ (Nat → Option Nat)} (hk : az_cd M i = some (pc, .arraylength, ln, t, u, v, ts, js)) (hw : w a = .inl (k, n, A)) (hk2 : k < 5) (h : az_Ev X M (i + 1) L (.int (nI n) :: st) w sz sl res) : az_Ev X M i L (.ref a :: st) w sz sl res := az_Ev.step ⟨_, _, _, _, _, _, _, _, hk, Or.inr (Or.inr (Or.inr (Or.inr (Or.inr (Or.inr (Or.inr (Or.inr (Or.inr (Or.inr (Or.inr (Or.inl ⟨_, _, _, _, _, rfl, rfl, hw, hk2, h⟩)))))))))))⟩
theorem E_new {z : Nat} (hk : az_cd M i = some (pc, .new z, ln, t, u, v, ts, js)) (h : az_Ev X M (i + 1) L (.ref sz :: st) (va_up w sz (.inr (t, az_dv t u))) (sz + 1) (sl + u) res) : az_Ev X M i L st w sz sl res := az_Ev.step ⟨_, _, _, _, _, _, _, _, hk, Or.inr (Or.inr (Or.inr (Or.inr (Or.inr (Or.inr (Or.inr (Or.inr (Or.inr (Or.inr (Or.inr (Or.inr (Or.inl ⟨_, rfl, h⟩))))))))))))⟩
theorem E_newa {ty : ArrayType} {n : Nat} (hk : az_cd M i = some (pc, .newarray ty, ln, t, u, v, ts, js)) (hn : n < 1000) (h : az_Ev X M (i + 1) L (.ref sz :: st) (va_up w sz (.inl (u, n, .inl (fun _ => 0)))) (sz + 1) (sl + n) res) : az_Ev X M i L (.int (nI n) :: st) w sz sl res := az_Ev.step ⟨_, _, _, _, _, _, _, _, hk, Or.inr (Or.inr (Or.inr (Or.inr (Or.inr (Or.inr (Or.inr (Or.inr (Or.inr (Or.inr (Or.inr (Or.inr (Or.inr (Or.inl ⟨_, _, _, rfl, rfl, vp_in_nI hn (by decide), by rw [nI_clamp (Nat.lt_trans hn (by decide))]; exact h⟩)))))))))))))⟩
theorem E_anew {z n : Nat} (hk : az_cd M i = some (pc, .anewarray z, ln, t, u, v, ts, js)) (hn : n < 1000) (h : az_Ev X M (i + 1) L (.ref sz :: st) (va_up w sz (.inl (u, n, .inr (.inr (.inr (.inr (fun _ => none))))))) (sz + 1) (sl + n) res) : az_Ev X M i L (.int (nI n) :: st) w sz sl res := az_Ev.step ⟨_, _, _, _, _, _, _, _, hk, Or.inr (Or.inr (Or.inr (Or.inr (Or.inr (Or.inr (Or.inr (Or.inr (Or.inr (Or.inr (Or.inr (Or.inr (Or.inr (Or.inr (Or.inl ⟨_, _, _, rfl, rfl, vp_in_nI hn (by decide), by rw [nI_clamp (Nat.lt_trans hn (by decide))]; exact h⟩))))))))))))))⟩
/-- the class that a method is called on -/
def az_clt (t ci : Nat) : Bool := match az_hs[t]? with
  | some h => az_cl ci h
  | none => false
theorem az_clt_of {h : az_H} {ci : Nat} (hc : az_clt t ci = true) (hh : az_hs[t]? = some h) : az_cl ci h = true := by
  unfold az_clt at hc
  rw [hh] at hc
  exact hc
theorem ev_call {ins : Instr} {args rest : List Value} {r : Option Value} {w1 : az_W} {sz1 sl1 : Nat} (hk : az_cd M i = some (pc, ins, ln, t, u, v, ts, js)) (hv : v = 0 ∨ v = 1) (hca : ∀ h, az_hs[t]? = some h → az_ca ins v h w st u args rest) (ha : args.all az_a1 = true) (hc : az_c8 rest = true) (hm : az_M X t args w sz sl (r, w1, sz1, sl1)) (h : az_Ev X M (i + 1) L (r.toList ++ rest) w1 sz1 sl1 res) : az_Ev X M i L st w sz sl res := by
  obtain ⟨hd, h1, h2⟩ := hm
  exact az_Ev.step ⟨_, _, _, _, _, _, _, _, hk, Or.inr (Or.inr (Or.inr (Or.inr (Or.inr (Or.inr (Or.inr (Or.inr (Or.inr (Or.inr (Or.inr (Or.inr (Or.inr (Or.inr (Or.inr (Or.inl ⟨hd, args, rest, r, w1, sz1, sl1, h1, hv, hca hd h1, ha, hc, h2, h⟩)))))))))))))))⟩
theorem E_objinit {z a : Nat} {rest : List Value} (hk : az_cd M i = some (pc, .invokespecial z, ln, t, u, 2, ts, js)) (hc : az_c8 rest = true) (h : az_Ev X M (i + 1) L rest w sz sl res) : az_Ev X M i L (.ref a :: rest) w sz sl res := az_Ev.step ⟨_, _, _, _, _, _, _, _, hk, Or.inr (Or.inr (Or.inr (Or.inr (Or.inr (Or.inr (Or.inr (Or.inr (Or.inr (Or.inr (Or.inr (Or.inr (Or.inr (Or.inr (Or.inr (Or.inr (Or.inl ⟨_, _, _, rfl, rfl, rfl, hc, h⟩))))))))))))))))⟩
theorem E_f2bits {z : Nat} {b : UInt32} {rest : List Value} (hk : az_cd M i = some (pc, .invokestatic z, ln, t, u, 3, ts, js)) (hc : az_c8 rest = true) (h : az_Ev X M (i + 1) L (.int b.toInt32 :: rest) w sz sl res) : az_Ev X M i L (.float b :: rest) w sz sl res := az_Ev.step ⟨_, _, _, _, _, _, _, _, hk, Or.inr (Or.inr (Or.inr (Or.inr (Or.inr (Or.inr (Or.inr (Or.inr (Or.inr (Or.inr (Or.inr (Or.inr (Or.inr (Or.inr (Or.inr (Or.inr (Or.inr (Or.inl ⟨_, _, _, rfl, rfl, rfl, hc, h⟩)))))))))))))))))⟩
theorem ev_ret {ins : Instr} {hd : az_H} {rv : Option Value} (hk : az_cd M i = some (pc, ins, ln, t, u, v, ts, js)) (hh : az_hs[M]? = some hd) (hrt : az_rt hd.2.2.2.2.1 ins st = some rv) (he : res = (rv, w, sz, sl)) : az_Ev X M i L st w sz sl res := az_Ev.step ⟨_, _, _, _, _, _, _, _, hk, Or.inr (Or.inr (Or.inr (Or.inr (Or.inr (Or.inr (Or.inr (Or.inr (Or.inr (Or.inr (Or.inr (Or.inr (Or.inr (Or.inr (Or.inr (Or.inr (Or.inr (Or.inr ⟨hd, rv, hh, hrt, he⟩)))))))))))))))))⟩
theorem E_iret {hd : az_H} {x : Int32} (hk : az_cd M i = some (pc, .ireturn, ln, t, u, v, ts, js)) (hh : az_hs[M]? = some hd) (hr : hd.2.2.2.2.1 = some .int) (he : res = (some (.int x), w, sz, sl)) : az_Ev X M i L [.int x] w sz sl res := ev_ret hk hh (by rw [hr]; rfl) he
theorem E_zret {hd : az_H} {x : Int32} (hk : az_cd M i = some (pc, .ireturn, ln, t, u, v, ts, js)) (hh : az_hs[M]? = some hd) (hr : hd.2.2.2.2.1 = some .boolean) (hx : x = 0 ∨ x = 1) (he : res = (some (.int x), w, sz, sl)) : az_Ev X M i L [.int x] w sz sl res := ev_ret hk hh (by rw [hr]; simp only [az_rt]; exact if_pos hx) he
theorem E_vret {hd : az_H} (hk : az_cd M i = some (pc, .return_, ln, t, u, v, ts, js)) (hh : az_hs[M]? = some hd) (hr : hd.2.2.2.2.1 = none) (he : res = (none, w, sz, sl)) : az_Ev X M i L [] w sz sl res := ev_ret hk hh (by rw [hr]; rfl) he
theorem E_aret {hd : az_H} {c : String} {a : Nat} (hk : az_cd M i = some (pc, .areturn, ln, t, u, v, ts, js)) (hh : az_hs[M]? = some hd) (hr : hd.2.2.2.2.1 = some (.object c)) (he : res = (some (.ref a), w, sz, sl)) : az_Ev X M i L [.ref a] w sz sl res := ev_ret hk hh (by rw [hr]; rfl) he
theorem E_dret {hd : az_H} {x : UInt64} (hk : az_cd M i = some (pc, .dreturn, ln, t, u, v, ts, js)) (hh : az_hs[M]? = some hd) (hr : hd.2.2.2.2.1 = some .double) (he : res = (some (.double x), w, sz, sl)) : az_Ev X M i L [.double x] w sz sl res := ev_ret hk hh (by rw [hr]; rfl) he
theorem az_Mof {hd : az_H} {args : List Value} (hh : az_hs[M]? = some hd) (h : az_Ev X M 0 (az_L0 args hd.2.2.2.1) [] w sz sl res) : az_M X M args w sz sl res := ⟨hd, hh, h⟩
theorem E_cv0 {z b ci : Nat} {fs rest : List Value} {r : Option Value} {w1 : az_W} {sz1 sl1 : Nat} (hk : az_cd M i = some (pc, .invokevirtual z, ln, t, 0, v, ts, js)) (hv : v = 0 ∨ v = 1) (hw : w b = .inr (ci, fs)) (hcl : az_clt t ci = true) (ha : ([.ref b] : List Value).all az_a1 = true) (hc : az_c8 rest = true) (hm : az_M X t [.ref b] w sz sl (r, w1, sz1, sl1)) (h : az_Ev X M (i + 1) L (r.toList ++ rest) w1 sz1 sl1 res) : az_Ev X M i L (.ref b :: rest) w sz sl res := ev_call hk hv (fun hd hh => Or.inl ⟨z, [], b, ci, fs, rfl, rfl, rfl, hw, az_clt_of hcl hh, rfl⟩) ha hc hm h
theorem E_ci0 {z b : Nat} {rest : List Value} {r : Option Value} {w1 : az_W} {sz1 sl1 : Nat} (hk : az_cd M i = some (pc, .invokespecial z, ln, t, 0, v, ts, js)) (hv : v = 0 ∨ v = 1) (ha : ([.ref b] : List Value).all az_a1 = true) (hc : az_c8 rest = true) (hm : az_M X t [.ref b] w sz sl (r, w1, sz1, sl1)) (h : az_Ev X M (i + 1) L (r.toList ++ rest) w1 sz1 sl1 res) : az_Ev X M i L (.ref b :: rest) w sz sl res := ev_call hk hv (fun hd hh => Or.inr (Or.inl ⟨z, [], b, rfl, rfl, rfl, rfl⟩)) ha hc hm h
theorem E_cv1 {z b ci : Nat} {fs rest : List Value} {x0 : Value} {r : Option Value} {w1 : az_W} {sz1 sl1 : Nat} (hk : az_cd M i = some (pc, .invokevirtual z, ln, t, 1, v, ts, js)) (hv : v = 0 ∨ v = 1) (hw : w b = .inr (ci, fs)) (hcl : az_clt t ci = true) (ha : ([.ref b, x0] : List Value).all az_a1 = true) (hc : az_c8 rest = true) (hm : az_M X t [.ref b, x0] w sz sl (r, w1, sz1, sl1)) (h : az_Ev X M (i + 1) L (r.toList ++ rest) w1 sz1 sl1 res) : az_Ev X M i L (x0 :: .ref b :: rest) w sz sl res := ev_call hk hv (fun hd hh => Or.inl ⟨z, [x0], b, ci, fs, rfl, rfl, rfl, hw, az_clt_of hcl hh, rfl⟩) ha hc hm h
theorem E_ci1 {z b : Nat} {rest : List Value} {x0 : Value} {r : Option Value} {w1 : az_W} {sz1 sl1 : Nat} (hk : az_cd M i = some (pc, .invokespecial z, ln, t, 1, v, ts, js)) (hv : v = 0 ∨ v = 1) (ha : ([.ref b, x0] : List Value).all az_a1 = true) (hc : az_c8 rest = true) (hm : az_M X t [.ref b, x0] w sz sl (r, w1, sz1, sl1)) (h : az_Ev X M (i + 1) L (r.toList ++ rest) w1 sz1 sl1 res) : az_Ev X M i L (x0 :: .ref b :: rest) w sz sl res := ev_call hk hv (fun hd hh => Or.inr (Or.inl ⟨z, [x0], b, rfl, rfl, rfl, rfl⟩)) ha hc hm h
theorem E_cv2 {z b ci : Nat} {fs rest : List Value} {x0 x1 : Value} {r : Option Value} {w1 : az_W} {sz1 sl1 : Nat} (hk : az_cd M i = some (pc, .invokevirtual z, ln, t, 2, v, ts, js)) (hv : v = 0 ∨ v = 1) (hw : w b = .inr (ci, fs)) (hcl : az_clt t ci = true) (ha : ([.ref b, x0, x1] : List Value).all az_a1 = true) (hc : az_c8 rest = true) (hm : az_M X t [.ref b, x0, x1] w sz sl (r, w1, sz1, sl1)) (h : az_Ev X M (i + 1) L (r.toList ++ rest) w1 sz1 sl1 res) : az_Ev X M i L (x1 :: x0 :: .ref b :: rest) w sz sl res := ev_call hk hv (fun hd hh => Or.inl ⟨z, [x0, x1], b, ci, fs, rfl, rfl, rfl, hw, az_clt_of hcl hh, rfl⟩) ha hc hm h
theorem E_cv3 {z b ci : Nat} {fs rest : List Value} {x0 x1 x2 : Value} {r : Option Value} {w1 : az_W} {sz1 sl1 : Nat} (hk : az_cd M i = some (pc, .invokevirtual z, ln, t, 3, v, ts, js)) (hv : v = 0 ∨ v = 1) (hw : w b = .inr (ci, fs)) (hcl : az_clt t ci = true) (ha : ([.ref b, x0, x1, x2] : List Value).all az_a1 = true) (hc : az_c8 rest = true) (hm : az_M X t [.ref b, x0, x1, x2] w sz sl (r, w1, sz1, sl1)) (h : az_Ev X M (i + 1) L (r.toList ++ rest) w1 sz1 sl1 res) : az_Ev X M i L (x2 :: x1 :: x0 :: .ref b :: rest) w sz sl res := ev_call hk hv (fun hd hh => Or.inl ⟨z, [x0, x1, x2], b, ci, fs, rfl, rfl, rfl, hw, az_clt_of hcl hh, rfl⟩) ha hc hm h
theorem E_cs1 {z : Nat} {rest : List Value} {x0 : Value} {r : Option Value} {w1 : az_W} {sz1 sl1 : Nat} (hk : az_cd M i = some (pc, .invokestatic z, ln, t, 1, v, ts, js)) (hv : v = 0 ∨ v = 1) (ha : ([x0] : List Value).all az_a1 = true) (hc : az_c8 rest = true) (hm : az_M X t [x0] w sz sl (r, w1, sz1, sl1)) (h : az_Ev X M (i + 1) L (r.toList ++ rest) w1 sz1 sl1 res) : az_Ev X M i L (x0 :: rest) w sz sl res := ev_call hk hv (fun hd hh => Or.inr (Or.inr ⟨z, rfl, rfl, rfl⟩)) ha hc hm h
theorem E_cs2 {z : Nat} {rest : List Value} {x0 x1 : Value} {r : Option Value} {w1 : az_W} {sz1 sl1 : Nat} (hk : az_cd M i = some (pc, .invokestatic z, ln, t, 2, v, ts, js)) (hv : v = 0 ∨ v = 1) (ha : ([x0, x1] : List Value).all az_a1 = true) (hc : az_c8 rest = true) (hm : az_M X t [x0, x1] w sz sl (r, w1, sz1, sl1)) (h : az_Ev X M (i + 1) L (r.toList ++ rest) w1 sz1 sl1 res) : az_Ev X M i L (x1 :: x0 :: rest) w sz sl res := ev_call hk hv (fun hd hh => Or.inr (Or.inr ⟨z, rfl, rfl, rfl⟩)) ha hc hm h
theorem E_cs3 {z : Nat} {rest : List Value} {x0 x1 x2 : Value} {r : Option Value} {w1 : az_W} {sz1 sl1 : Nat} (hk : az_cd M i = some (pc, .invokestatic z, ln, t, 3, v, ts, js)) (hv : v = 0 ∨ v = 1) (ha : ([x0, x1, x2] : List Value).all az_a1 = true) (hc : az_c8 rest = true) (hm : az_M X t [x0, x1, x2] w sz sl (r, w1, sz1, sl1)) (h : az_Ev X M (i + 1) L (r.toList ++ rest) w1 sz1 sl1 res) : az_Ev X M i L (x2 :: x1 :: x0 :: rest) w sz sl res := ev_call hk hv (fun hd hh => Or.inr (Or.inr ⟨z, rfl, rfl, rfl⟩)) ha hc hm h
theorem E_cs4 {z : Nat} {rest : List Value} {x0 x1 x2 x3 : Value} {r : Option Value} {w1 : az_W} {sz1 sl1 : Nat} (hk : az_cd M i = some (pc, .invokestatic z, ln, t, 4, v, ts, js)) (hv : v = 0 ∨ v = 1) (ha : ([x0, x1, x2, x3] : List Value).all az_a1 = true) (hc : az_c8 rest = true) (hm : az_M X t [x0, x1, x2, x3] w sz sl (r, w1, sz1, sl1)) (h : az_Ev X M (i + 1) L (r.toList ++ rest) w1 sz1 sl1 res) : az_Ev X M i L (x3 :: x2 :: x1 :: x0 :: rest) w sz sl res := ev_call hk hv (fun hd hh => Or.inr (Or.inr ⟨z, rfl, rfl, rfl⟩)) ha hc hm h
end AZ5
end
section
/-! the instructions of the program, a row each (written by wip/whole/gen12.py) -/
theorem k0_0 : az_cd 0 0 = some (0, .new 7, 3, 8, 5, 0, [], [55, 56, 42]) := rfl
theorem k0_1 : az_cd 0 1 = some (3, .dup, 1, 0, 0, 0, [], []) := rfl
theorem k0_2 : az_cd 0 2 = some (4, .invokespecial 9, 3, 93, 0, 0, [], [57, 58, 42, 59]) := rfl
theorem k0_3 : az_cd 0 3 = some (7, .astore_n 1, 1, 0, 0, 0, [], []) := rfl
theorem k0_4 : az_cd 0 4 = some (8, .new 10, 3, 9, 10, 0, [], [745, 746, 51]) := rfl
theorem k0_5 : az_cd 0 5 = some (11, .dup, 1, 0, 0, 0, [], []) := rfl
theorem k0_6 : az_cd 0 6 = some (12, .invokespecial 12, 3, 127, 0, 0, [], [747, 748, 51, 749]) := rfl
theorem k0_7 : az_cd 0 7 = some (15, .astore_n 2, 1, 0, 0, 0, [], []) := rfl
theorem k0_8 : az_cd 0 8 = some (16, .iconst 0, 1, 0, 0, 0, [], []) := rfl
theorem k0_9 : az_cd 0 9 = some (17, .istore_n 3, 1, 0, 0, 0, [], []) := rfl
theorem k0_10 : az_cd 0 10 = some (18, .iload_n 3, 1, 0, 0, 0, [], []) := rfl
theorem k0_11 : az_cd 0 11 = some (19, .aload_n 0, 1, 0, 0, 0, [], []) := rfl
theorem k0_12 : az_cd 0 12 = some (20, .arraylength, 1, 0, 0, 0, [], []) := rfl
theorem k0_13 : az_cd 0 13 = some (21, .iconst 3, 1, 0, 0, 3, [], []) := rfl
theorem k0_14 : az_cd 0 14 = some (22, .isub, 1, 0, 0, 0, [], []) := rfl
theorem k0_15 : az_cd 0 15 = some (23, .if_icmp .gt 699, 3, 410, 0, 0, [], []) := rfl
theorem k0_16 : az_cd 0 16 = some (26, .aload_n 0, 1, 0, 0, 0, [], []) := rfl
theorem k0_17 : az_cd 0 17 = some (27, .iload_n 3, 1, 0, 0, 0, [], []) := rfl
theorem k0_18 : az_cd 0 18 = some (28, .iaload, 1, 0, 0, 0, [], []) := rfl
theorem k0_19 : az_cd 0 19 = some (29, .bipush 31, 2, 0, 0, 31, [], []) := rfl
theorem k0_20 : az_cd 0 20 = some (31, .iand, 1, 0, 0, 0, [], []) := rfl
theorem k0_21 : az_cd 0 21 = some (32, .tableswitch 684 0 25 #[120, 153, 176, 189, 202, 215, 228, 241, 254, 293, 306, 329, 354, 367, 380, 393, 406, 429, 452, 485, 518, 551, 584, 607, 648, 661], 120, 408, 0, 0, [22, 49, 66, 73, 80, 87, 94, 101, 108, 133, 140, 157, 176, 183, 190, 197, 204, 221, 238, 265, 292, 319, 346, 363, 384, 391], []) := rfl
theorem k0_22 : az_cd 0 22 = some (152, .aload_n 1, 1, 0, 0, 0, [], []) := rfl
theorem k0_23 : az_cd 0 23 = some (153, .aload_n 0, 1, 0, 0, 0, [], []) := rfl
theorem k0_24 : az_cd 0 24 = some (154, .iload_n 3, 1, 0, 0, 0, [], []) := rfl
theorem k0_25 : az_cd 0 25 = some (155, .iconst 1, 1, 0, 0, 1, [], []) := rfl
theorem k0_26 : az_cd 0 26 = some (156, .iadd, 1, 0, 0, 0, [], []) := rfl
theorem k0_27 : az_cd 0 27 = some (157, .iaload, 1, 0, 0, 0, [], []) := rfl
theorem k0_28 : az_cd 0 28 = some (158, .aload_n 0, 1, 0, 0, 0, [], []) := rfl
theorem k0_29 : az_cd 0 29 = some (159, .iload_n 3, 1, 0, 0, 0, [], []) := rfl
theorem k0_30 : az_cd 0 30 = some (160, .iconst 2, 1, 0, 0, 2, [], []) := rfl
theorem k0_31 : az_cd 0 31 = some (161, .iadd, 1, 0, 0, 0, [], []) := rfl
theorem k0_32 : az_cd 0 32 = some (162, .iaload, 1, 0, 0, 0, [], []) := rfl
theorem k0_33 : az_cd 0 33 = some (163, .invokevirtual 13, 3, 94, 2, 0, [], [244, 245, 42, 247, 246]) := rfl
theorem k0_34 : az_cd 0 34 = some (166, .aload_n 2, 1, 0, 0, 0, [], []) := rfl
theorem k0_35 : az_cd 0 35 = some (167, .aload_n 0, 1, 0, 0, 0, [], []) := rfl
theorem k0_36 : az_cd 0 36 = some (168, .iload_n 3, 1, 0, 0, 0, [], []) := rfl
theorem k0_37 : az_cd 0 37 = some (169, .iconst 1, 1, 0, 0, 1, [], []) := rfl
theorem k0_38 : az_cd 0 38 = some (170, .iadd, 1, 0, 0, 0, [], []) := rfl
theorem k0_39 : az_cd 0 39 = some (171, .iaload, 1, 0, 0, 0, [], []) := rfl
theorem k0_40 : az_cd 0 40 = some (172, .aload_n 0, 1, 0, 0, 0, [], []) := rfl
theorem k0_41 : az_cd 0 41 = some (173, .iload_n 3, 1, 0, 0, 0, [], []) := rfl
theorem k0_42 : az_cd 0 42 = some (174, .iconst 2, 1, 0, 0, 2, [], []) := rfl
theorem k0_43 : az_cd 0 43 = some (175, .iadd, 1, 0, 0, 0, [], []) := rfl
theorem k0_44 : az_cd 0 44 = some (176, .iaload, 1, 0, 0, 0, [], []) := rfl
theorem k0_45 : az_cd 0 45 = some (177, .invokevirtual 17, 3, 146, 2, 0, [], [782, 783, 51, 785, 784]) := rfl
theorem k0_46 : az_cd 0 46 = some (180, .if_icmp .eq 536, 3, 408, 0, 0, [], []) := rfl
theorem k0_47 : az_cd 0 47 = some (183, .iconst 0, 1, 0, 0, 0, [], []) := rfl
theorem k0_48 : az_cd 0 48 = some (184, .ireturn, 1, 0, 0, 0, [], []) := rfl
theorem k0_49 : az_cd 0 49 = some (185, .aload_n 1, 1, 0, 0, 0, [], []) := rfl
theorem k0_50 : az_cd 0 50 = some (186, .aload_n 0, 1, 0, 0, 0, [], []) := rfl
theorem k0_51 : az_cd 0 51 = some (187, .iload_n 3, 1, 0, 0, 0, [], []) := rfl
theorem k0_52 : az_cd 0 52 = some (188, .iconst 1, 1, 0, 0, 1, [], []) := rfl
theorem k0_53 : az_cd 0 53 = some (189, .iadd, 1, 0, 0, 0, [], []) := rfl
theorem k0_54 : az_cd 0 54 = some (190, .iaload, 1, 0, 0, 0, [], []) := rfl
theorem k0_55 : az_cd 0 55 = some (191, .invokevirtual 18, 3, 95, 1, 0, [], [310, 311, 42, 313, 312]) := rfl
theorem k0_56 : az_cd 0 56 = some (194, .aload_n 2, 1, 0, 0, 0, [], []) := rfl
theorem k0_57 : az_cd 0 57 = some (195, .aload_n 0, 1, 0, 0, 0, [], []) := rfl
theorem k0_58 : az_cd 0 58 = some (196, .iload_n 3, 1, 0, 0, 0, [], []) := rfl
theorem k0_59 : az_cd 0 59 = some (197, .iconst 1, 1, 0, 0, 1, [], []) := rfl
theorem k0_60 : az_cd 0 60 = some (198, .iadd, 1, 0, 0, 0, [], []) := rfl
theorem k0_61 : az_cd 0 61 = some (199, .iaload, 1, 0, 0, 0, [], []) := rfl
theorem k0_62 : az_cd 0 62 = some (200, .invokevirtual 22, 3, 147, 1, 0, [], [807, 808, 51, 810, 809]) := rfl
theorem k0_63 : az_cd 0 63 = some (203, .if_icmp .eq 513, 3, 408, 0, 0, [], []) := rfl
theorem k0_64 : az_cd 0 64 = some (206, .iconst 0, 1, 0, 0, 0, [], []) := rfl
theorem k0_65 : az_cd 0 65 = some (207, .ireturn, 1, 0, 0, 0, [], []) := rfl
theorem k0_66 : az_cd 0 66 = some (208, .aload_n 1, 1, 0, 0, 0, [], []) := rfl
theorem k0_67 : az_cd 0 67 = some (209, .invokevirtual 23, 3, 97, 0, 0, [], [314, 315, 42, 317, 316]) := rfl
theorem k0_68 : az_cd 0 68 = some (212, .aload_n 2, 1, 0, 0, 0, [], []) := rfl
theorem k0_69 : az_cd 0 69 = some (213, .invokevirtual 27, 3, 148, 0, 0, [], [811, 812, 51, 814, 813]) := rfl
theorem k0_70 : az_cd 0 70 = some (216, .if_icmp .eq 500, 3, 408, 0, 0, [], []) := rfl
theorem k0_71 : az_cd 0 71 = some (219, .iconst 0, 1, 0, 0, 0, [], []) := rfl
theorem k0_72 : az_cd 0 72 = some (220, .ireturn, 1, 0, 0, 0, [], []) := rfl
theorem k0_73 : az_cd 0 73 = some (221, .aload_n 1, 1, 0, 0, 0, [], []) := rfl
theorem k0_74 : az_cd 0 74 = some (222, .invokevirtual 28, 3, 98, 0, 0, [], [349, 350, 42, 352, 351]) := rfl
theorem k0_75 : az_cd 0 75 = some (225, .aload_n 2, 1, 0, 0, 0, [], []) := rfl
theorem k0_76 : az_cd 0 76 = some (226, .invokevirtual 31, 3, 149, 0, 0, [], [831, 832, 51, 834, 833]) := rfl
theorem k0_77 : az_cd 0 77 = some (229, .if_icmp .eq 487, 3, 408, 0, 0, [], []) := rfl
theorem k0_78 : az_cd 0 78 = some (232, .iconst 0, 1, 0, 0, 0, [], []) := rfl
theorem k0_79 : az_cd 0 79 = some (233, .ireturn, 1, 0, 0, 0, [], []) := rfl
theorem k0_80 : az_cd 0 80 = some (234, .aload_n 1, 1, 0, 0, 0, [], []) := rfl
theorem k0_81 : az_cd 0 81 = some (235, .invokevirtual 32, 3, 99, 0, 0, [], [357, 358, 42, 360, 359]) := rfl
theorem k0_82 : az_cd 0 82 = some (238, .aload_n 2, 1, 0, 0, 0, [], []) := rfl
theorem k0_83 : az_cd 0 83 = some (239, .invokevirtual 35, 3, 157, 0, 0, [], [839, 840, 51, 842, 841]) := rfl
theorem k0_84 : az_cd 0 84 = some (242, .if_icmp .eq 474, 3, 408, 0, 0, [], []) := rfl
theorem k0_85 : az_cd 0 85 = some (245, .iconst 0, 1, 0, 0, 0, [], []) := rfl
theorem k0_86 : az_cd 0 86 = some (246, .ireturn, 1, 0, 0, 0, [], []) := rfl
theorem k0_87 : az_cd 0 87 = some (247, .aload_n 1, 1, 0, 0, 0, [], []) := rfl
theorem k0_88 : az_cd 0 88 = some (248, .invokevirtual 36, 3, 100, 0, 0, [], [378, 379, 42, 381, 380]) := rfl
theorem k0_89 : az_cd 0 89 = some (251, .aload_n 2, 1, 0, 0, 0, [], []) := rfl
theorem k0_90 : az_cd 0 90 = some (252, .invokevirtual 39, 3, 158, 0, 0, [], [851, 852, 51, 854, 853]) := rfl
theorem k0_91 : az_cd 0 91 = some (255, .if_icmp .eq 461, 3, 408, 0, 0, [], []) := rfl
theorem k0_92 : az_cd 0 92 = some (258, .iconst 0, 1, 0, 0, 0, [], []) := rfl
theorem k0_93 : az_cd 0 93 = some (259, .ireturn, 1, 0, 0, 0, [], []) := rfl
theorem k0_94 : az_cd 0 94 = some (260, .aload_n 1, 1, 0, 0, 0, [], []) := rfl
theorem k0_95 : az_cd 0 95 = some (261, .invokevirtual 40, 3, 101, 0, 0, [], [496, 497, 42, 499, 498]) := rfl
theorem k0_96 : az_cd 0 96 = some (264, .aload_n 2, 1, 0, 0, 0, [], []) := rfl
theorem k0_97 : az_cd 0 97 = some (265, .invokevirtual 43, 3, 159, 0, 0, [], [914, 915, 51, 917, 916]) := rfl
theorem k0_98 : az_cd 0 98 = some (268, .if_icmp .eq 448, 3, 408, 0, 0, [], []) := rfl
theorem k0_99 : az_cd 0 99 = some (271, .iconst 0, 1, 0, 0, 0, [], []) := rfl
theorem k0_100 : az_cd 0 100 = some (272, .ireturn, 1, 0, 0, 0, [], []) := rfl
theorem k0_101 : az_cd 0 101 = some (273, .aload_n 1, 1, 0, 0, 0, [], []) := rfl
theorem k0_102 : az_cd 0 102 = some (274, .invokevirtual 44, 3, 102, 0, 0, [], [500, 501, 42, 503, 502]) := rfl
theorem k0_103 : az_cd 0 103 = some (277, .aload_n 2, 1, 0, 0, 0, [], []) := rfl
theorem k0_104 : az_cd 0 104 = some (278, .invokevirtual 47, 3, 160, 0, 0, [], [918, 919, 51, 921, 920]) := rfl
theorem k0_105 : az_cd 0 105 = some (281, .if_icmp .eq 435, 3, 408, 0, 0, [], []) := rfl
theorem k0_106 : az_cd 0 106 = some (284, .iconst 0, 1, 0, 0, 0, [], []) := rfl
theorem k0_107 : az_cd 0 107 = some (285, .ireturn, 1, 0, 0, 0, [], []) := rfl
theorem k0_108 : az_cd 0 108 = some (286, .aload_n 1, 1, 0, 0, 0, [], []) := rfl
theorem k0_109 : az_cd 0 109 = some (287, .aload_n 0, 1, 0, 0, 0, [], []) := rfl
theorem k0_110 : az_cd 0 110 = some (288, .iload_n 3, 1, 0, 0, 0, [], []) := rfl
theorem k0_111 : az_cd 0 111 = some (289, .iconst 1, 1, 0, 0, 1, [], []) := rfl
theorem k0_112 : az_cd 0 112 = some (290, .iadd, 1, 0, 0, 0, [], []) := rfl
theorem k0_113 : az_cd 0 113 = some (291, .iaload, 1, 0, 0, 0, [], []) := rfl
theorem k0_114 : az_cd 0 114 = some (292, .ifCond .eq 7, 3, 117, 0, 0, [], []) := rfl
theorem k0_115 : az_cd 0 115 = some (295, .iconst 1, 1, 0, 0, 1, [], []) := rfl
theorem k0_116 : az_cd 0 116 = some (296, .goto 4, 3, 118, 0, 0, [], []) := rfl
theorem k0_117 : az_cd 0 117 = some (299, .iconst 0, 1, 0, 0, 0, [], []) := rfl
theorem k0_118 : az_cd 0 118 = some (300, .invokevirtual 48, 3, 103, 1, 0, [], [506, 507, 42, 509, 508]) := rfl
theorem k0_119 : az_cd 0 119 = some (303, .aload_n 2, 1, 0, 0, 0, [], []) := rfl
theorem k0_120 : az_cd 0 120 = some (304, .aload_n 0, 1, 0, 0, 0, [], []) := rfl
theorem k0_121 : az_cd 0 121 = some (305, .iload_n 3, 1, 0, 0, 0, [], []) := rfl
theorem k0_122 : az_cd 0 122 = some (306, .iconst 1, 1, 0, 0, 1, [], []) := rfl
theorem k0_123 : az_cd 0 123 = some (307, .iadd, 1, 0, 0, 0, [], []) := rfl
theorem k0_124 : az_cd 0 124 = some (308, .iaload, 1, 0, 0, 0, [], []) := rfl
theorem k0_125 : az_cd 0 125 = some (309, .ifCond .eq 7, 3, 128, 0, 0, [], []) := rfl
theorem k0_126 : az_cd 0 126 = some (312, .iconst 1, 1, 0, 0, 1, [], []) := rfl
theorem k0_127 : az_cd 0 127 = some (313, .goto 4, 3, 129, 0, 0, [], []) := rfl
theorem k0_128 : az_cd 0 128 = some (316, .iconst 0, 1, 0, 0, 0, [], []) := rfl
theorem k0_129 : az_cd 0 129 = some (317, .invokevirtual 52, 3, 162, 1, 0, [], [922, 923, 51, 925, 924]) := rfl
theorem k0_130 : az_cd 0 130 = some (320, .if_icmp .eq 396, 3, 408, 0, 0, [], []) := rfl
theorem k0_131 : az_cd 0 131 = some (323, .iconst 0, 1, 0, 0, 0, [], []) := rfl
theorem k0_132 : az_cd 0 132 = some (324, .ireturn, 1, 0, 0, 0, [], []) := rfl
theorem k0_133 : az_cd 0 133 = some (325, .aload_n 1, 1, 0, 0, 0, [], []) := rfl
theorem k0_134 : az_cd 0 134 = some (326, .invokevirtual 53, 3, 104, 0, 0, [], [524, 525, 42, 527, 526]) := rfl
theorem k0_135 : az_cd 0 135 = some (329, .aload_n 2, 1, 0, 0, 0, [], []) := rfl
theorem k0_136 : az_cd 0 136 = some (330, .invokevirtual 56, 3, 164, 0, 0, [], [930, 931, 51, 933, 932]) := rfl
theorem k0_137 : az_cd 0 137 = some (333, .if_icmp .eq 383, 3, 408, 0, 0, [], []) := rfl
theorem k0_138 : az_cd 0 138 = some (336, .iconst 0, 1, 0, 0, 0, [], []) := rfl
theorem k0_139 : az_cd 0 139 = some (337, .ireturn, 1, 0, 0, 0, [], []) := rfl
theorem k0_140 : az_cd 0 140 = some (338, .aload_n 1, 1, 0, 0, 0, [], []) := rfl
theorem k0_141 : az_cd 0 141 = some (339, .aload_n 0, 1, 0, 0, 0, [], []) := rfl
theorem k0_142 : az_cd 0 142 = some (340, .iload_n 3, 1, 0, 0, 0, [], []) := rfl
theorem k0_143 : az_cd 0 143 = some (341, .iconst 1, 1, 0, 0, 1, [], []) := rfl
theorem k0_144 : az_cd 0 144 = some (342, .iadd, 1, 0, 0, 0, [], []) := rfl
theorem k0_145 : az_cd 0 145 = some (343, .iaload, 1, 0, 0, 0, [], []) := rfl
theorem k0_146 : az_cd 0 146 = some (344, .invokevirtual 57, 3, 105, 1, 0, [], [536, 537, 42, 539, 538]) := rfl
theorem k0_147 : az_cd 0 147 = some (347, .aload_n 2, 1, 0, 0, 0, [], []) := rfl
theorem k0_148 : az_cd 0 148 = some (348, .aload_n 0, 1, 0, 0, 0, [], []) := rfl
theorem k0_149 : az_cd 0 149 = some (349, .iload_n 3, 1, 0, 0, 0, [], []) := rfl
theorem k0_150 : az_cd 0 150 = some (350, .iconst 1, 1, 0, 0, 1, [], []) := rfl
theorem k0_151 : az_cd 0 151 = some (351, .iadd, 1, 0, 0, 0, [], []) := rfl
theorem k0_152 : az_cd 0 152 = some (352, .iaload, 1, 0, 0, 0, [], []) := rfl
theorem k0_153 : az_cd 0 153 = some (353, .invokevirtual 60, 3, 165, 1, 0, [], [938, 939, 51, 941, 940]) := rfl
theorem k0_154 : az_cd 0 154 = some (356, .if_icmp .eq 360, 3, 408, 0, 0, [], []) := rfl
theorem k0_155 : az_cd 0 155 = some (359, .iconst 0, 1, 0, 0, 0, [], []) := rfl
theorem k0_156 : az_cd 0 156 = some (360, .ireturn, 1, 0, 0, 0, [], []) := rfl
theorem k0_157 : az_cd 0 157 = some (361, .aload_n 1, 1, 0, 0, 0, [], []) := rfl
theorem k0_158 : az_cd 0 158 = some (362, .aload_n 0, 1, 0, 0, 0, [], []) := rfl
theorem k0_159 : az_cd 0 159 = some (363, .iload_n 3, 1, 0, 0, 0, [], []) := rfl
theorem k0_160 : az_cd 0 160 = some (364, .iconst 1, 1, 0, 0, 1, [], []) := rfl
theorem k0_161 : az_cd 0 161 = some (365, .iadd, 1, 0, 0, 0, [], []) := rfl
theorem k0_162 : az_cd 0 162 = some (366, .iaload, 1, 0, 0, 0, [], []) := rfl
theorem k0_163 : az_cd 0 163 = some (367, .i2c, 1, 0, 0, 0, [], []) := rfl
theorem k0_164 : az_cd 0 164 = some (368, .invokevirtual 61, 3, 106, 1, 0, [], [552, 553, 42, 555, 554]) := rfl
theorem k0_165 : az_cd 0 165 = some (371, .aload_n 2, 1, 0, 0, 0, [], []) := rfl
theorem k0_166 : az_cd 0 166 = some (372, .aload_n 0, 1, 0, 0, 0, [], []) := rfl
theorem k0_167 : az_cd 0 167 = some (373, .iload_n 3, 1, 0, 0, 0, [], []) := rfl
theorem k0_168 : az_cd 0 168 = some (374, .iconst 1, 1, 0, 0, 1, [], []) := rfl
theorem k0_169 : az_cd 0 169 = some (375, .iadd, 1, 0, 0, 0, [], []) := rfl
theorem k0_170 : az_cd 0 170 = some (376, .iaload, 1, 0, 0, 0, [], []) := rfl
theorem k0_171 : az_cd 0 171 = some (377, .i2c, 1, 0, 0, 0, [], []) := rfl
theorem k0_172 : az_cd 0 172 = some (378, .invokevirtual 65, 3, 166, 1, 0, [], [942, 943, 51, 945, 944]) := rfl
theorem k0_173 : az_cd 0 173 = some (381, .if_icmp .eq 335, 3, 408, 0, 0, [], []) := rfl
theorem k0_174 : az_cd 0 174 = some (384, .iconst 0, 1, 0, 0, 0, [], []) := rfl
theorem k0_175 : az_cd 0 175 = some (385, .ireturn, 1, 0, 0, 0, [], []) := rfl
theorem k0_176 : az_cd 0 176 = some (386, .aload_n 1, 1, 0, 0, 0, [], []) := rfl
theorem k0_177 : az_cd 0 177 = some (387, .invokevirtual 66, 3, 107, 0, 0, [], [568, 569, 42, 571, 570]) := rfl
theorem k0_178 : az_cd 0 178 = some (390, .aload_n 2, 1, 0, 0, 0, [], []) := rfl
theorem k0_179 : az_cd 0 179 = some (391, .invokevirtual 69, 3, 167, 0, 0, [], [946, 947, 51, 949, 948]) := rfl
theorem k0_180 : az_cd 0 180 = some (394, .if_icmp .eq 322, 3, 408, 0, 0, [], []) := rfl
theorem k0_181 : az_cd 0 181 = some (397, .iconst 0, 1, 0, 0, 0, [], []) := rfl
theorem k0_182 : az_cd 0 182 = some (398, .ireturn, 1, 0, 0, 0, [], []) := rfl
theorem k0_183 : az_cd 0 183 = some (399, .aload_n 1, 1, 0, 0, 0, [], []) := rfl
theorem k0_184 : az_cd 0 184 = some (400, .invokevirtual 70, 3, 108, 0, 0, [], [576, 577, 42, 579, 578]) := rfl
theorem k0_185 : az_cd 0 185 = some (403, .aload_n 2, 1, 0, 0, 0, [], []) := rfl
theorem k0_186 : az_cd 0 186 = some (404, .invokevirtual 73, 3, 172, 0, 0, [], [950, 951, 51, 953, 952]) := rfl
theorem k0_187 : az_cd 0 187 = some (407, .if_icmp .eq 309, 3, 408, 0, 0, [], []) := rfl
theorem k0_188 : az_cd 0 188 = some (410, .iconst 0, 1, 0, 0, 0, [], []) := rfl
theorem k0_189 : az_cd 0 189 = some (411, .ireturn, 1, 0, 0, 0, [], []) := rfl
theorem k0_190 : az_cd 0 190 = some (412, .aload_n 1, 1, 0, 0, 0, [], []) := rfl
theorem k0_191 : az_cd 0 191 = some (413, .invokevirtual 74, 3, 109, 0, 0, [], [588, 589, 42, 591, 590]) := rfl
theorem k0_192 : az_cd 0 192 = some (416, .aload_n 2, 1, 0, 0, 0, [], []) := rfl
theorem k0_193 : az_cd 0 193 = some (417, .invokevirtual 77, 3, 173, 0, 0, [], [954, 955, 51, 957, 956]) := rfl
theorem k0_194 : az_cd 0 194 = some (420, .if_icmp .eq 296, 3, 408, 0, 0, [], []) := rfl
theorem k0_195 : az_cd 0 195 = some (423, .iconst 0, 1, 0, 0, 0, [], []) := rfl
theorem k0_196 : az_cd 0 196 = some (424, .ireturn, 1, 0, 0, 0, [], []) := rfl
theorem k0_197 : az_cd 0 197 = some (425, .aload_n 1, 1, 0, 0, 0, [], []) := rfl
theorem k0_198 : az_cd 0 198 = some (426, .invokevirtual 78, 3, 110, 0, 0, [], [593, 594, 42, 596, 595]) := rfl
theorem k0_199 : az_cd 0 199 = some (429, .aload_n 2, 1, 0, 0, 0, [], []) := rfl
theorem k0_200 : az_cd 0 200 = some (430, .invokevirtual 81, 3, 174, 0, 0, [], [958, 959, 51, 961, 960]) := rfl
set_option maxRecDepth 100000 in
theorem k0_201 : az_cd 0 201 = some (433, .if_icmp .eq 283, 3, 408, 0, 0, [], []) := rfl
set_option maxRecDepth 100000 in
theorem k0_202 : az_cd 0 202 = some (436, .iconst 0, 1, 0, 0, 0, [], []) := rfl
set_option maxRecDepth 100000 in
theorem k0_203 : az_cd 0 203 = some (437, .ireturn, 1, 0, 0, 0, [], []) := rfl
set_option maxRecDepth 100000 in
theorem k0_204 : az_cd 0 204 = some (438, .aload_n 1, 1, 0, 0, 0, [], []) := rfl
set_option maxRecDepth 100000 in
theorem k0_205 : az_cd 0 205 = some (439, .aload_n 0, 1, 0, 0, 0, [], []) := rfl
set_option maxRecDepth 100000 in
theorem k0_206 : az_cd 0 206 = some (440, .iload_n 3, 1, 0, 0, 0, [], []) := rfl
set_option maxRecDepth 100000 in
theorem k0_207 : az_cd 0 207 = some (441, .iconst 1, 1, 0, 0, 1, [], []) := rfl
set_option maxRecDepth 100000 in
theorem k0_208 : az_cd 0 208 = some (442, .iadd, 1, 0, 0, 0, [], []) := rfl
set_option maxRecDepth 100000 in
theorem k0_209 : az_cd 0 209 = some (443, .iaload, 1, 0, 0, 0, [], []) := rfl
set_option maxRecDepth 100000 in
theorem k0_210 : az_cd 0 210 = some (444, .invokevirtual 82, 3, 111, 1, 0, [], [597, 598, 42, 600, 599]) := rfl
set_option maxRecDepth 100000 in
theorem k0_211 : az_cd 0 211 = some (447, .aload_n 2, 1, 0, 0, 0, [], []) := rfl
set_option maxRecDepth 100000 in
theorem k0_212 : az_cd 0 212 = some (448, .aload_n 0, 1, 0, 0, 0, [], []) := rfl
set_option maxRecDepth 100000 in
theorem k0_213 : az_cd 0 213 = some (449, .iload_n 3, 1, 0, 0, 0, [], []) := rfl
set_option maxRecDepth 100000 in
theorem k0_214 : az_cd 0 214 = some (450, .iconst 1, 1, 0, 0, 1, [], []) := rfl
set_option maxRecDepth 100000 in
theorem k0_215 : az_cd 0 215 = some (451, .iadd, 1, 0, 0, 0, [], []) := rfl
set_option maxRecDepth 100000 in
theorem k0_216 : az_cd 0 216 = some (452, .iaload, 1, 0, 0, 0, [], []) := rfl
set_option maxRecDepth 100000 in
theorem k0_217 : az_cd 0 217 = some (453, .invokevirtual 85, 3, 176, 1, 0, [], [962, 963, 51, 965, 964]) := rfl
set_option maxRecDepth 100000 in
theorem k0_218 : az_cd 0 218 = some (456, .if_icmp .eq 260, 3, 408, 0, 0, [], []) := rfl
set_option maxRecDepth 100000 in
theorem k0_219 : az_cd 0 219 = some (459, .iconst 0, 1, 0, 0, 0, [], []) := rfl
set_option maxRecDepth 100000 in
theorem k0_220 : az_cd 0 220 = some (460, .ireturn, 1, 0, 0, 0, [], []) := rfl
set_option maxRecDepth 100000 in
theorem k0_221 : az_cd 0 221 = some (461, .aload_n 1, 1, 0, 0, 0, [], []) := rfl
set_option maxRecDepth 100000 in
theorem k0_222 : az_cd 0 222 = some (462, .aload_n 0, 1, 0, 0, 0, [], []) := rfl
set_option maxRecDepth 100000 in
theorem k0_223 : az_cd 0 223 = some (463, .iload_n 3, 1, 0, 0, 0, [], []) := rfl
set_option maxRecDepth 100000 in
theorem k0_224 : az_cd 0 224 = some (464, .iconst 1, 1, 0, 0, 1, [], []) := rfl
set_option maxRecDepth 100000 in
theorem k0_225 : az_cd 0 225 = some (465, .iadd, 1, 0, 0, 0, [], []) := rfl
set_option maxRecDepth 100000 in
theorem k0_226 : az_cd 0 226 = some (466, .iaload, 1, 0, 0, 0, [], []) := rfl
set_option maxRecDepth 100000 in
theorem k0_227 : az_cd 0 227 = some (467, .invokevirtual 86, 3, 112, 1, 0, [], [609, 610, 42, 612, 611]) := rfl
set_option maxRecDepth 100000 in
theorem k0_228 : az_cd 0 228 = some (470, .aload_n 2, 1, 0, 0, 0, [], []) := rfl
set_option maxRecDepth 100000 in
theorem k0_229 : az_cd 0 229 = some (471, .aload_n 0, 1, 0, 0, 0, [], []) := rfl
set_option maxRecDepth 100000 in
theorem k0_230 : az_cd 0 230 = some (472, .iload_n 3, 1, 0, 0, 0, [], []) := rfl
set_option maxRecDepth 100000 in
theorem k0_231 : az_cd 0 231 = some (473, .iconst 1, 1, 0, 0, 1, [], []) := rfl
set_option maxRecDepth 100000 in
theorem k0_232 : az_cd 0 232 = some (474, .iadd, 1, 0, 0, 0, [], []) := rfl
set_option maxRecDepth 100000 in
theorem k0_233 : az_cd 0 233 = some (475, .iaload, 1, 0, 0, 0, [], []) := rfl
set_option maxRecDepth 100000 in
theorem k0_234 : az_cd 0 234 = some (476, .invokevirtual 89, 3, 177, 1, 0, [], [970, 971, 51, 973, 972]) := rfl
set_option maxRecDepth 100000 in
theorem k0_235 : az_cd 0 235 = some (479, .if_icmp .eq 237, 3, 408, 0, 0, [], []) := rfl
set_option maxRecDepth 100000 in
theorem k0_236 : az_cd 0 236 = some (482, .iconst 0, 1, 0, 0, 0, [], []) := rfl
set_option maxRecDepth 100000 in
theorem k0_237 : az_cd 0 237 = some (483, .ireturn, 1, 0, 0, 0, [], []) := rfl
set_option maxRecDepth 100000 in
theorem k0_238 : az_cd 0 238 = some (484, .aload_n 1, 1, 0, 0, 0, [], []) := rfl
set_option maxRecDepth 100000 in
theorem k0_239 : az_cd 0 239 = some (485, .aload_n 0, 1, 0, 0, 0, [], []) := rfl
set_option maxRecDepth 100000 in
theorem k0_240 : az_cd 0 240 = some (486, .iload_n 3, 1, 0, 0, 0, [], []) := rfl
set_option maxRecDepth 100000 in
theorem k0_241 : az_cd 0 241 = some (487, .iconst 1, 1, 0, 0, 1, [], []) := rfl
set_option maxRecDepth 100000 in
theorem k0_242 : az_cd 0 242 = some (488, .iadd, 1, 0, 0, 0, [], []) := rfl
set_option maxRecDepth 100000 in
theorem k0_243 : az_cd 0 243 = some (489, .iaload, 1, 0, 0, 0, [], []) := rfl
set_option maxRecDepth 100000 in
theorem k0_244 : az_cd 0 244 = some (490, .aload_n 0, 1, 0, 0, 0, [], []) := rfl
set_option maxRecDepth 100000 in
theorem k0_245 : az_cd 0 245 = some (491, .iload_n 3, 1, 0, 0, 0, [], []) := rfl
set_option maxRecDepth 100000 in
theorem k0_246 : az_cd 0 246 = some (492, .iconst 2, 1, 0, 0, 2, [], []) := rfl
set_option maxRecDepth 100000 in
theorem k0_247 : az_cd 0 247 = some (493, .iadd, 1, 0, 0, 0, [], []) := rfl
set_option maxRecDepth 100000 in
theorem k0_248 : az_cd 0 248 = some (494, .iaload, 1, 0, 0, 0, [], []) := rfl
set_option maxRecDepth 100000 in
theorem k0_249 : az_cd 0 249 = some (495, .invokevirtual 90, 3, 113, 2, 0, [], [618, 619, 42, 621, 620]) := rfl
set_option maxRecDepth 100000 in
theorem k0_250 : az_cd 0 250 = some (498, .aload_n 2, 1, 0, 0, 0, [], []) := rfl
set_option maxRecDepth 100000 in
theorem k0_251 : az_cd 0 251 = some (499, .aload_n 0, 1, 0, 0, 0, [], []) := rfl
set_option maxRecDepth 100000 in
theorem k0_252 : az_cd 0 252 = some (500, .iload_n 3, 1, 0, 0, 0, [], []) := rfl
set_option maxRecDepth 100000 in
theorem k0_253 : az_cd 0 253 = some (501, .iconst 1, 1, 0, 0, 1, [], []) := rfl
set_option maxRecDepth 100000 in
theorem k0_254 : az_cd 0 254 = some (502, .iadd, 1, 0, 0, 0, [], []) := rfl
set_option maxRecDepth 100000 in
theorem k0_255 : az_cd 0 255 = some (503, .iaload, 1, 0, 0, 0, [], []) := rfl
set_option maxRecDepth 100000 in
theorem k0_256 : az_cd 0 256 = some (504, .aload_n 0, 1, 0, 0, 0, [], []) := rfl
set_option maxRecDepth 100000 in
theorem k0_257 : az_cd 0 257 = some (505, .iload_n 3, 1, 0, 0, 0, [], []) := rfl
set_option maxRecDepth 100000 in
theorem k0_258 : az_cd 0 258 = some (506, .iconst 2, 1, 0, 0, 2, [], []) := rfl
set_option maxRecDepth 100000 in
theorem k0_259 : az_cd 0 259 = some (507, .iadd, 1, 0, 0, 0, [], []) := rfl
set_option maxRecDepth 100000 in
theorem k0_260 : az_cd 0 260 = some (508, .iaload, 1, 0, 0, 0, [], []) := rfl
set_option maxRecDepth 100000 in
theorem k0_261 : az_cd 0 261 = some (509, .invokevirtual 93, 3, 178, 2, 0, [], [974, 975, 51, 977, 976]) := rfl
set_option maxRecDepth 100000 in
theorem k0_262 : az_cd 0 262 = some (512, .if_icmp .eq 204, 3, 408, 0, 0, [], []) := rfl
set_option maxRecDepth 100000 in
theorem k0_263 : az_cd 0 263 = some (515, .iconst 0, 1, 0, 0, 0, [], []) := rfl
set_option maxRecDepth 100000 in
theorem k0_264 : az_cd 0 264 = some (516, .ireturn, 1, 0, 0, 0, [], []) := rfl
set_option maxRecDepth 100000 in
theorem k0_265 : az_cd 0 265 = some (517, .aload_n 1, 1, 0, 0, 0, [], []) := rfl
set_option maxRecDepth 100000 in
theorem k0_266 : az_cd 0 266 = some (518, .aload_n 0, 1, 0, 0, 0, [], []) := rfl
set_option maxRecDepth 100000 in
theorem k0_267 : az_cd 0 267 = some (519, .iload_n 3, 1, 0, 0, 0, [], []) := rfl
set_option maxRecDepth 100000 in
theorem k0_268 : az_cd 0 268 = some (520, .iconst 1, 1, 0, 0, 1, [], []) := rfl
set_option maxRecDepth 100000 in
theorem k0_269 : az_cd 0 269 = some (521, .iadd, 1, 0, 0, 0, [], []) := rfl
set_option maxRecDepth 100000 in
theorem k0_270 : az_cd 0 270 = some (522, .iaload, 1, 0, 0, 0, [], []) := rfl
set_option maxRecDepth 100000 in
theorem k0_271 : az_cd 0 271 = some (523, .aload_n 0, 1, 0, 0, 0, [], []) := rfl
set_option maxRecDepth 100000 in
theorem k0_272 : az_cd 0 272 = some (524, .iload_n 3, 1, 0, 0, 0, [], []) := rfl
set_option maxRecDepth 100000 in
theorem k0_273 : az_cd 0 273 = some (525, .iconst 2, 1, 0, 0, 2, [], []) := rfl
set_option maxRecDepth 100000 in
theorem k0_274 : az_cd 0 274 = some (526, .iadd, 1, 0, 0, 0, [], []) := rfl
set_option maxRecDepth 100000 in
theorem k0_275 : az_cd 0 275 = some (527, .iaload, 1, 0, 0, 0, [], []) := rfl
set_option maxRecDepth 100000 in
theorem k0_276 : az_cd 0 276 = some (528, .invokevirtual 94, 3, 114, 2, 0, [], [629, 630, 42, 632, 631]) := rfl
set_option maxRecDepth 100000 in
theorem k0_277 : az_cd 0 277 = some (531, .aload_n 2, 1, 0, 0, 0, [], []) := rfl
set_option maxRecDepth 100000 in
theorem k0_278 : az_cd 0 278 = some (532, .aload_n 0, 1, 0, 0, 0, [], []) := rfl
set_option maxRecDepth 100000 in
theorem k0_279 : az_cd 0 279 = some (533, .iload_n 3, 1, 0, 0, 0, [], []) := rfl
set_option maxRecDepth 100000 in
theorem k0_280 : az_cd 0 280 = some (534, .iconst 1, 1, 0, 0, 1, [], []) := rfl
set_option maxRecDepth 100000 in
theorem k0_281 : az_cd 0 281 = some (535, .iadd, 1, 0, 0, 0, [], []) := rfl
set_option maxRecDepth 100000 in
theorem k0_282 : az_cd 0 282 = some (536, .iaload, 1, 0, 0, 0, [], []) := rfl
set_option maxRecDepth 100000 in
theorem k0_283 : az_cd 0 283 = some (537, .aload_n 0, 1, 0, 0, 0, [], []) := rfl
set_option maxRecDepth 100000 in
theorem k0_284 : az_cd 0 284 = some (538, .iload_n 3, 1, 0, 0, 0, [], []) := rfl
set_option maxRecDepth 100000 in
theorem k0_285 : az_cd 0 285 = some (539, .iconst 2, 1, 0, 0, 2, [], []) := rfl
set_option maxRecDepth 100000 in
theorem k0_286 : az_cd 0 286 = some (540, .iadd, 1, 0, 0, 0, [], []) := rfl
set_option maxRecDepth 100000 in
theorem k0_287 : az_cd 0 287 = some (541, .iaload, 1, 0, 0, 0, [], []) := rfl
set_option maxRecDepth 100000 in
theorem k0_288 : az_cd 0 288 = some (542, .invokevirtual 97, 3, 179, 2, 0, [], [978, 979, 51, 981, 980]) := rfl
set_option maxRecDepth 100000 in
theorem k0_289 : az_cd 0 289 = some (545, .if_icmp .eq 171, 3, 408, 0, 0, [], []) := rfl
set_option maxRecDepth 100000 in
theorem k0_290 : az_cd 0 290 = some (548, .iconst 0, 1, 0, 0, 0, [], []) := rfl
set_option maxRecDepth 100000 in
theorem k0_291 : az_cd 0 291 = some (549, .ireturn, 1, 0, 0, 0, [], []) := rfl
set_option maxRecDepth 100000 in
theorem k0_292 : az_cd 0 292 = some (550, .aload_n 1, 1, 0, 0, 0, [], []) := rfl
set_option maxRecDepth 100000 in
theorem k0_293 : az_cd 0 293 = some (551, .aload_n 0, 1, 0, 0, 0, [], []) := rfl
set_option maxRecDepth 100000 in
theorem k0_294 : az_cd 0 294 = some (552, .iload_n 3, 1, 0, 0, 0, [], []) := rfl
set_option maxRecDepth 100000 in
theorem k0_295 : az_cd 0 295 = some (553, .iconst 1, 1, 0, 0, 1, [], []) := rfl
set_option maxRecDepth 100000 in
theorem k0_296 : az_cd 0 296 = some (554, .iadd, 1, 0, 0, 0, [], []) := rfl
set_option maxRecDepth 100000 in
theorem k0_297 : az_cd 0 297 = some (555, .iaload, 1, 0, 0, 0, [], []) := rfl
set_option maxRecDepth 100000 in
theorem k0_298 : az_cd 0 298 = some (556, .aload_n 0, 1, 0, 0, 0, [], []) := rfl
set_option maxRecDepth 100000 in
theorem k0_299 : az_cd 0 299 = some (557, .iload_n 3, 1, 0, 0, 0, [], []) := rfl
set_option maxRecDepth 100000 in
theorem k0_300 : az_cd 0 300 = some (558, .iconst 2, 1, 0, 0, 2, [], []) := rfl
set_option maxRecDepth 100000 in
theorem k0_301 : az_cd 0 301 = some (559, .iadd, 1, 0, 0, 0, [], []) := rfl
set_option maxRecDepth 100000 in
theorem k0_302 : az_cd 0 302 = some (560, .iaload, 1, 0, 0, 0, [], []) := rfl
set_option maxRecDepth 100000 in
theorem k0_303 : az_cd 0 303 = some (561, .invokevirtual 98, 3, 115, 2, 0, [], [650, 651, 42, 653, 652]) := rfl
set_option maxRecDepth 100000 in
theorem k0_304 : az_cd 0 304 = some (564, .aload_n 2, 1, 0, 0, 0, [], []) := rfl
set_option maxRecDepth 100000 in
theorem k0_305 : az_cd 0 305 = some (565, .aload_n 0, 1, 0, 0, 0, [], []) := rfl
set_option maxRecDepth 100000 in
theorem k0_306 : az_cd 0 306 = some (566, .iload_n 3, 1, 0, 0, 0, [], []) := rfl
set_option maxRecDepth 100000 in
theorem k0_307 : az_cd 0 307 = some (567, .iconst 1, 1, 0, 0, 1, [], []) := rfl
set_option maxRecDepth 100000 in
theorem k0_308 : az_cd 0 308 = some (568, .iadd, 1, 0, 0, 0, [], []) := rfl
set_option maxRecDepth 100000 in
theorem k0_309 : az_cd 0 309 = some (569, .iaload, 1, 0, 0, 0, [], []) := rfl
set_option maxRecDepth 100000 in
theorem k0_310 : az_cd 0 310 = some (570, .aload_n 0, 1, 0, 0, 0, [], []) := rfl
set_option maxRecDepth 100000 in
theorem k0_311 : az_cd 0 311 = some (571, .iload_n 3, 1, 0, 0, 0, [], []) := rfl
set_option maxRecDepth 100000 in
theorem k0_312 : az_cd 0 312 = some (572, .iconst 2, 1, 0, 0, 2, [], []) := rfl
set_option maxRecDepth 100000 in
theorem k0_313 : az_cd 0 313 = some (573, .iadd, 1, 0, 0, 0, [], []) := rfl
set_option maxRecDepth 100000 in
theorem k0_314 : az_cd 0 314 = some (574, .iaload, 1, 0, 0, 0, [], []) := rfl
set_option maxRecDepth 100000 in
theorem k0_315 : az_cd 0 315 = some (575, .invokevirtual 101, 3, 181, 2, 0, [], [986, 987, 51, 989, 988]) := rfl
set_option maxRecDepth 100000 in
theorem k0_316 : az_cd 0 316 = some (578, .if_icmp .eq 138, 3, 408, 0, 0, [], []) := rfl
set_option maxRecDepth 100000 in
theorem k0_317 : az_cd 0 317 = some (581, .iconst 0, 1, 0, 0, 0, [], []) := rfl
set_option maxRecDepth 100000 in
theorem k0_318 : az_cd 0 318 = some (582, .ireturn, 1, 0, 0, 0, [], []) := rfl
set_option maxRecDepth 100000 in
theorem k0_319 : az_cd 0 319 = some (583, .aload_n 1, 1, 0, 0, 0, [], []) := rfl
set_option maxRecDepth 100000 in
theorem k0_320 : az_cd 0 320 = some (584, .aload_n 0, 1, 0, 0, 0, [], []) := rfl
set_option maxRecDepth 100000 in
theorem k0_321 : az_cd 0 321 = some (585, .iload_n 3, 1, 0, 0, 0, [], []) := rfl
set_option maxRecDepth 100000 in
theorem k0_322 : az_cd 0 322 = some (586, .iconst 1, 1, 0, 0, 1, [], []) := rfl
set_option maxRecDepth 100000 in
theorem k0_323 : az_cd 0 323 = some (587, .iadd, 1, 0, 0, 0, [], []) := rfl
set_option maxRecDepth 100000 in
theorem k0_324 : az_cd 0 324 = some (588, .iaload, 1, 0, 0, 0, [], []) := rfl
set_option maxRecDepth 100000 in
theorem k0_325 : az_cd 0 325 = some (589, .aload_n 0, 1, 0, 0, 0, [], []) := rfl
set_option maxRecDepth 100000 in
theorem k0_326 : az_cd 0 326 = some (590, .iload_n 3, 1, 0, 0, 0, [], []) := rfl
set_option maxRecDepth 100000 in
theorem k0_327 : az_cd 0 327 = some (591, .iconst 2, 1, 0, 0, 2, [], []) := rfl
set_option maxRecDepth 100000 in
theorem k0_328 : az_cd 0 328 = some (592, .iadd, 1, 0, 0, 0, [], []) := rfl
set_option maxRecDepth 100000 in
theorem k0_329 : az_cd 0 329 = some (593, .iaload, 1, 0, 0, 0, [], []) := rfl
set_option maxRecDepth 100000 in
theorem k0_330 : az_cd 0 330 = some (594, .invokevirtual 102, 3, 116, 2, 0, [], [668, 669, 42, 671, 670]) := rfl
set_option maxRecDepth 100000 in
theorem k0_331 : az_cd 0 331 = some (597, .aload_n 2, 1, 0, 0, 0, [], []) := rfl
set_option maxRecDepth 100000 in
theorem k0_332 : az_cd 0 332 = some (598, .aload_n 0, 1, 0, 0, 0, [], []) := rfl
set_option maxRecDepth 100000 in
theorem k0_333 : az_cd 0 333 = some (599, .iload_n 3, 1, 0, 0, 0, [], []) := rfl
set_option maxRecDepth 100000 in
theorem k0_334 : az_cd 0 334 = some (600, .iconst 1, 1, 0, 0, 1, [], []) := rfl
set_option maxRecDepth 100000 in
theorem k0_335 : az_cd 0 335 = some (601, .iadd, 1, 0, 0, 0, [], []) := rfl
set_option maxRecDepth 100000 in
theorem k0_336 : az_cd 0 336 = some (602, .iaload, 1, 0, 0, 0, [], []) := rfl
set_option maxRecDepth 100000 in
theorem k0_337 : az_cd 0 337 = some (603, .aload_n 0, 1, 0, 0, 0, [], []) := rfl
set_option maxRecDepth 100000 in
theorem k0_338 : az_cd 0 338 = some (604, .iload_n 3, 1, 0, 0, 0, [], []) := rfl
set_option maxRecDepth 100000 in
theorem k0_339 : az_cd 0 339 = some (605, .iconst 2, 1, 0, 0, 2, [], []) := rfl
set_option maxRecDepth 100000 in
theorem k0_340 : az_cd 0 340 = some (606, .iadd, 1, 0, 0, 0, [], []) := rfl
set_option maxRecDepth 100000 in
theorem k0_341 : az_cd 0 341 = some (607, .iaload, 1, 0, 0, 0, [], []) := rfl
set_option maxRecDepth 100000 in
theorem k0_342 : az_cd 0 342 = some (608, .invokevirtual 105, 3, 182, 2, 0, [], [994, 995, 51, 997, 996]) := rfl
set_option maxRecDepth 100000 in
theorem k0_343 : az_cd 0 343 = some (611, .if_icmp .eq 105, 3, 408, 0, 0, [], []) := rfl
set_option maxRecDepth 100000 in
theorem k0_344 : az_cd 0 344 = some (614, .iconst 0, 1, 0, 0, 0, [], []) := rfl
set_option maxRecDepth 100000 in
theorem k0_345 : az_cd 0 345 = some (615, .ireturn, 1, 0, 0, 0, [], []) := rfl
set_option maxRecDepth 100000 in
theorem k0_346 : az_cd 0 346 = some (616, .aload_n 1, 1, 0, 0, 0, [], []) := rfl
set_option maxRecDepth 100000 in
theorem k0_347 : az_cd 0 347 = some (617, .aload_n 0, 1, 0, 0, 0, [], []) := rfl
set_option maxRecDepth 100000 in
theorem k0_348 : az_cd 0 348 = some (618, .iload_n 3, 1, 0, 0, 0, [], []) := rfl
set_option maxRecDepth 100000 in
theorem k0_349 : az_cd 0 349 = some (619, .iconst 1, 1, 0, 0, 1, [], []) := rfl
set_option maxRecDepth 100000 in
theorem k0_350 : az_cd 0 350 = some (620, .iadd, 1, 0, 0, 0, [], []) := rfl
set_option maxRecDepth 100000 in
theorem k0_351 : az_cd 0 351 = some (621, .iaload, 1, 0, 0, 0, [], []) := rfl
set_option maxRecDepth 100000 in
theorem k0_352 : az_cd 0 352 = some (622, .invokevirtual 106, 3, 117, 1, 0, [], [677, 678, 42, 680, 679]) := rfl
set_option maxRecDepth 100000 in
theorem k0_353 : az_cd 0 353 = some (625, .aload_n 2, 1, 0, 0, 0, [], []) := rfl
set_option maxRecDepth 100000 in
theorem k0_354 : az_cd 0 354 = some (626, .aload_n 0, 1, 0, 0, 0, [], []) := rfl
set_option maxRecDepth 100000 in
theorem k0_355 : az_cd 0 355 = some (627, .iload_n 3, 1, 0, 0, 0, [], []) := rfl
set_option maxRecDepth 100000 in
theorem k0_356 : az_cd 0 356 = some (628, .iconst 1, 1, 0, 0, 1, [], []) := rfl
set_option maxRecDepth 100000 in
theorem k0_357 : az_cd 0 357 = some (629, .iadd, 1, 0, 0, 0, [], []) := rfl
set_option maxRecDepth 100000 in
theorem k0_358 : az_cd 0 358 = some (630, .iaload, 1, 0, 0, 0, [], []) := rfl
set_option maxRecDepth 100000 in
theorem k0_359 : az_cd 0 359 = some (631, .invokevirtual 109, 3, 183, 1, 0, [], [998, 999, 51, 1001, 1000]) := rfl
set_option maxRecDepth 100000 in
theorem k0_360 : az_cd 0 360 = some (634, .if_icmp .eq 82, 3, 408, 0, 0, [], []) := rfl
set_option maxRecDepth 100000 in
theorem k0_361 : az_cd 0 361 = some (637, .iconst 0, 1, 0, 0, 0, [], []) := rfl
set_option maxRecDepth 100000 in
theorem k0_362 : az_cd 0 362 = some (638, .ireturn, 1, 0, 0, 0, [], []) := rfl
set_option maxRecDepth 100000 in
theorem k0_363 : az_cd 0 363 = some (639, .aload_n 1, 1, 0, 0, 0, [], []) := rfl
set_option maxRecDepth 100000 in
theorem k0_364 : az_cd 0 364 = some (640, .invokevirtual 110, 3, 118, 0, 0, [], [686, 687, 42, 689, 688]) := rfl
set_option maxRecDepth 100000 in
theorem k0_365 : az_cd 0 365 = some (643, .dstore 4, 2, 0, 0, 0, [], []) := rfl
set_option maxRecDepth 100000 in
theorem k0_366 : az_cd 0 366 = some (645, .aload_n 2, 1, 0, 0, 0, [], []) := rfl
set_option maxRecDepth 100000 in
theorem k0_367 : az_cd 0 367 = some (646, .invokevirtual 114, 3, 186, 0, 0, [], [1002, 1003, 51, 1005, 1004]) := rfl
set_option maxRecDepth 100000 in
theorem k0_368 : az_cd 0 368 = some (649, .dstore 6, 2, 0, 0, 0, [], []) := rfl
set_option maxRecDepth 100000 in
theorem k0_369 : az_cd 0 369 = some (651, .dload 4, 2, 0, 0, 0, [], []) := rfl
set_option maxRecDepth 100000 in
theorem k0_370 : az_cd 0 370 = some (653, .dload 6, 2, 0, 0, 0, [], []) := rfl
set_option maxRecDepth 100000 in
theorem k0_371 : az_cd 0 371 = some (655, .dcmp .l, 1, 0, 0, 0, [], []) := rfl
set_option maxRecDepth 100000 in
theorem k0_372 : az_cd 0 372 = some (656, .ifCond .eq 21, 3, 383, 0, 0, [], []) := rfl
set_option maxRecDepth 100000 in
theorem k0_373 : az_cd 0 373 = some (659, .dload 4, 2, 0, 0, 0, [], []) := rfl
set_option maxRecDepth 100000 in
theorem k0_374 : az_cd 0 374 = some (661, .dload 4, 2, 0, 0, 0, [], []) := rfl
set_option maxRecDepth 100000 in
theorem k0_375 : az_cd 0 375 = some (663, .dcmp .l, 1, 0, 0, 0, [], []) := rfl
set_option maxRecDepth 100000 in
theorem k0_376 : az_cd 0 376 = some (664, .ifCond .eq 11, 3, 381, 0, 0, [], []) := rfl
set_option maxRecDepth 100000 in
theorem k0_377 : az_cd 0 377 = some (667, .dload 6, 2, 0, 0, 0, [], []) := rfl
set_option maxRecDepth 100000 in
theorem k0_378 : az_cd 0 378 = some (669, .dload 6, 2, 0, 0, 0, [], []) := rfl
set_option maxRecDepth 100000 in
theorem k0_379 : az_cd 0 379 = some (671, .dcmp .l, 1, 0, 0, 0, [], []) := rfl
set_option maxRecDepth 100000 in
theorem k0_380 : az_cd 0 380 = some (672, .ifCond .ne 5, 3, 383, 0, 0, [], []) := rfl
set_option maxRecDepth 100000 in
theorem k0_381 : az_cd 0 381 = some (675, .iconst 0, 1, 0, 0, 0, [], []) := rfl
set_option maxRecDepth 100000 in
theorem k0_382 : az_cd 0 382 = some (676, .ireturn, 1, 0, 0, 0, [], []) := rfl
set_option maxRecDepth 100000 in
theorem k0_383 : az_cd 0 383 = some (677, .goto 39, 3, 408, 0, 0, [], []) := rfl
set_option maxRecDepth 100000 in
theorem k0_384 : az_cd 0 384 = some (680, .aload_n 1, 1, 0, 0, 0, [], []) := rfl
set_option maxRecDepth 100000 in
theorem k0_385 : az_cd 0 385 = some (681, .invokevirtual 115, 3, 119, 0, 0, [], [699, 700, 42, 702, 701]) := rfl
set_option maxRecDepth 100000 in
theorem k0_386 : az_cd 0 386 = some (684, .aload_n 2, 1, 0, 0, 0, [], []) := rfl
set_option maxRecDepth 100000 in
theorem k0_387 : az_cd 0 387 = some (685, .invokevirtual 118, 3, 187, 0, 0, [], [1015, 1016, 51, 1018, 1017]) := rfl
set_option maxRecDepth 100000 in
theorem k0_388 : az_cd 0 388 = some (688, .if_icmp .eq 28, 3, 408, 0, 0, [], []) := rfl
set_option maxRecDepth 100000 in
theorem k0_389 : az_cd 0 389 = some (691, .iconst 0, 1, 0, 0, 0, [], []) := rfl
set_option maxRecDepth 100000 in
theorem k0_390 : az_cd 0 390 = some (692, .ireturn, 1, 0, 0, 0, [], []) := rfl
set_option maxRecDepth 100000 in
theorem k0_391 : az_cd 0 391 = some (693, .aload_n 1, 1, 0, 0, 0, [], []) := rfl
set_option maxRecDepth 100000 in
theorem k0_392 : az_cd 0 392 = some (694, .aload_n 0, 1, 0, 0, 0, [], []) := rfl
set_option maxRecDepth 100000 in
theorem k0_393 : az_cd 0 393 = some (695, .iload_n 3, 1, 0, 0, 0, [], []) := rfl
set_option maxRecDepth 100000 in
theorem k0_394 : az_cd 0 394 = some (696, .iconst 1, 1, 0, 0, 1, [], []) := rfl
set_option maxRecDepth 100000 in
theorem k0_395 : az_cd 0 395 = some (697, .iadd, 1, 0, 0, 0, [], []) := rfl
set_option maxRecDepth 100000 in
theorem k0_396 : az_cd 0 396 = some (698, .iaload, 1, 0, 0, 0, [], []) := rfl
set_option maxRecDepth 100000 in
theorem k0_397 : az_cd 0 397 = some (699, .invokevirtual 119, 3, 120, 1, 0, [], [708, 709, 42, 711, 710]) := rfl
set_option maxRecDepth 100000 in
theorem k0_398 : az_cd 0 398 = some (702, .aload_n 2, 1, 0, 0, 0, [], []) := rfl
set_option maxRecDepth 100000 in
theorem k0_399 : az_cd 0 399 = some (703, .aload_n 0, 1, 0, 0, 0, [], []) := rfl
set_option maxRecDepth 100000 in
theorem k0_400 : az_cd 0 400 = some (704, .iload_n 3, 1, 0, 0, 0, [], []) := rfl
set_option maxRecDepth 100000 in
theorem k0_401 : az_cd 0 401 = some (705, .iconst 1, 1, 0, 0, 1, [], []) := rfl
set_option maxRecDepth 100000 in
theorem k0_402 : az_cd 0 402 = some (706, .iadd, 1, 0, 0, 0, [], []) := rfl
set_option maxRecDepth 100000 in
theorem k0_403 : az_cd 0 403 = some (707, .iaload, 1, 0, 0, 0, [], []) := rfl
set_option maxRecDepth 100000 in
theorem k0_404 : az_cd 0 404 = some (708, .invokevirtual 122, 3, 191, 1, 0, [], [1029, 1030, 51, 1032, 1031]) := rfl
set_option maxRecDepth 100000 in
theorem k0_405 : az_cd 0 405 = some (711, .if_icmp .eq 5, 3, 408, 0, 0, [], []) := rfl
set_option maxRecDepth 100000 in
theorem k0_406 : az_cd 0 406 = some (714, .iconst 0, 1, 0, 0, 0, [], []) := rfl
set_option maxRecDepth 100000 in
theorem k0_407 : az_cd 0 407 = some (715, .ireturn, 1, 0, 0, 0, [], []) := rfl
set_option maxRecDepth 100000 in
theorem k0_408 : az_cd 0 408 = some (716, .iinc 3 3, 3, 0, 0, 3, [], []) := rfl
set_option maxRecDepth 100000 in
theorem k0_409 : az_cd 0 409 = some (719, .goto (-701), 3, 10, 0, 0, [], []) := rfl
set_option maxRecDepth 100000 in
theorem k0_410 : az_cd 0 410 = some (722, .iconst 1, 1, 0, 0, 1, [], []) := rfl
set_option maxRecDepth 100000 in
theorem k0_411 : az_cd 0 411 = some (723, .ireturn, 1, 0, 0, 0, [], []) := rfl
theorem k1_0 : az_cd 1 0 = some (0, .aload_n 0, 1, 0, 0, 0, [], []) := rfl
theorem k1_1 : az_cd 1 1 = some (1, .invokespecial 3, 3, 196, 0, 2, [], [74, 61, 62]) := rfl
theorem k1_2 : az_cd 1 2 = some (4, .aload_n 0, 1, 0, 0, 0, [], []) := rfl
theorem k1_3 : az_cd 1 3 = some (5, .bipush 24, 2, 0, 0, 24, [], []) := rfl
theorem k1_4 : az_cd 1 4 = some (7, .newarray .int, 2, 0, 0, 0, [], [91]) := rfl
theorem k1_5 : az_cd 1 5 = some (9, .putfield 9, 3, 0, 0, 0, [], [81]) := rfl
theorem k1_6 : az_cd 1 6 = some (12, .aload_n 0, 1, 0, 0, 0, [], []) := rfl
theorem k1_7 : az_cd 1 7 = some (13, .bipush 24, 2, 0, 0, 24, [], []) := rfl
theorem k1_8 : az_cd 1 8 = some (15, .newarray .int, 2, 0, 0, 0, [], [91]) := rfl
theorem k1_9 : az_cd 1 9 = some (17, .putfield 15, 3, 0, 1, 0, [], [82]) := rfl
theorem k1_10 : az_cd 1 10 = some (20, .aload_n 0, 1, 0, 0, 0, [], []) := rfl
theorem k1_11 : az_cd 1 11 = some (21, .bipush 24, 2, 0, 0, 24, [], []) := rfl
theorem k1_12 : az_cd 1 12 = some (23, .newarray .int, 2, 0, 0, 0, [], [91]) := rfl
theorem k1_13 : az_cd 1 13 = some (25, .putfield 18, 3, 0, 2, 0, [], [83]) := rfl
theorem k1_14 : az_cd 1 14 = some (28, .aload_n 0, 1, 0, 0, 0, [], []) := rfl
theorem k1_15 : az_cd 1 15 = some (29, .getfield 15, 3, 0, 1, 0, [], [82]) := rfl
theorem k1_16 : az_cd 1 16 = some (32, .iconst 0, 1, 0, 0, 0, [], []) := rfl
theorem k1_17 : az_cd 1 17 = some (33, .invokestatic 21, 3, 2, 1, 0, [], [75, 76, 44, 77]) := rfl
theorem k1_18 : az_cd 1 18 = some (36, .invokestatic 25, 3, 124, 2, 1, [], [78, 79, 42, 80]) := rfl
theorem k1_19 : az_cd 1 19 = some (39, .return_, 1, 0, 0, 0, [], []) := rfl
theorem k2_0 : az_cd 2 0 = some (0, .iload_n 0, 1, 0, 0, 0, [], []) := rfl
theorem k2_1 : az_cd 2 1 = some (1, .bipush 37, 2, 0, 0, 37, [], []) := rfl
theorem k2_2 : az_cd 2 2 = some (3, .imul, 1, 0, 0, 0, [], []) := rfl
theorem k2_3 : az_cd 2 3 = some (4, .bipush 11, 2, 0, 0, 11, [], []) := rfl
theorem k2_4 : az_cd 2 4 = some (6, .iadd, 1, 0, 0, 0, [], []) := rfl
theorem k2_5 : az_cd 2 5 = some (7, .bipush 101, 2, 0, 0, 101, [], []) := rfl
theorem k2_6 : az_cd 2 6 = some (9, .irem, 1, 0, 0, 0, [], []) := rfl
theorem k2_7 : az_cd 2 7 = some (10, .ireturn, 1, 0, 0, 0, [], []) := rfl
theorem k3_0 : az_cd 3 0 = some (0, .iload_n 1, 1, 0, 0, 0, [], []) := rfl
theorem k3_1 : az_cd 3 1 = some (1, .invokestatic 29, 3, 122, 1, 1, [], [428, 429, 42, 430]) := rfl
theorem k3_2 : az_cd 3 2 = some (4, .ifCond .ne 4, 3, 4, 0, 0, [], []) := rfl
theorem k3_3 : az_cd 3 3 = some (7, .return_, 1, 0, 0, 0, [], []) := rfl
theorem k3_4 : az_cd 3 4 = some (8, .iload_n 2, 1, 0, 0, 0, [], []) := rfl
theorem k3_5 : az_cd 3 5 = some (9, .invokestatic 21, 3, 2, 1, 0, [], [75, 76, 44, 77]) := rfl
theorem k3_6 : az_cd 3 6 = some (12, .istore 4, 2, 0, 0, 0, [], []) := rfl
theorem k3_7 : az_cd 3 7 = some (14, .aload_n 0, 1, 0, 0, 0, [], []) := rfl
theorem k3_8 : az_cd 3 8 = some (15, .getfield 9, 3, 0, 0, 0, [], [81]) := rfl
theorem k3_9 : az_cd 3 9 = some (18, .iload_n 1, 1, 0, 0, 0, [], []) := rfl
theorem k3_10 : az_cd 3 10 = some (19, .iload_n 2, 1, 0, 0, 0, [], []) := rfl
theorem k3_11 : az_cd 3 11 = some (20, .iastore, 1, 0, 0, 0, [], []) := rfl
theorem k3_12 : az_cd 3 12 = some (21, .aload_n 0, 1, 0, 0, 0, [], []) := rfl
theorem k3_13 : az_cd 3 13 = some (22, .getfield 15, 3, 0, 1, 0, [], [82]) := rfl
theorem k3_14 : az_cd 3 14 = some (25, .iload_n 1, 1, 0, 0, 0, [], []) := rfl
theorem k3_15 : az_cd 3 15 = some (26, .iload_n 3, 1, 0, 0, 0, [], []) := rfl
theorem k3_16 : az_cd 3 16 = some (27, .ifCond .eq 13, 3, 23, 0, 0, [], []) := rfl
theorem k3_17 : az_cd 3 17 = some (30, .iload 4, 2, 0, 0, 0, [], []) := rfl
theorem k3_18 : az_cd 3 18 = some (32, .iconst 1, 1, 0, 0, 1, [], []) := rfl
theorem k3_19 : az_cd 3 19 = some (33, .iadd, 1, 0, 0, 0, [], []) := rfl
theorem k3_20 : az_cd 3 20 = some (34, .bipush 101, 2, 0, 0, 101, [], []) := rfl
theorem k3_21 : az_cd 3 21 = some (36, .irem, 1, 0, 0, 0, [], []) := rfl
theorem k3_22 : az_cd 3 22 = some (37, .goto 5, 3, 24, 0, 0, [], []) := rfl
theorem k3_23 : az_cd 3 23 = some (40, .iload 4, 2, 0, 0, 0, [], []) := rfl
theorem k3_24 : az_cd 3 24 = some (42, .iastore, 1, 0, 0, 0, [], []) := rfl
theorem k3_25 : az_cd 3 25 = some (43, .aload_n 0, 1, 0, 0, 0, [], []) := rfl
theorem k3_26 : az_cd 3 26 = some (44, .getfield 18, 3, 0, 2, 0, [], [83]) := rfl
theorem k3_27 : az_cd 3 27 = some (47, .iload_n 1, 1, 0, 0, 0, [], []) := rfl
theorem k3_28 : az_cd 3 28 = some (48, .dup2, 1, 0, 0, 0, [], []) := rfl
theorem k3_29 : az_cd 3 29 = some (49, .iaload, 1, 0, 0, 0, [], []) := rfl
theorem k3_30 : az_cd 3 30 = some (50, .iconst 1, 1, 0, 0, 1, [], []) := rfl
theorem k3_31 : az_cd 3 31 = some (51, .iadd, 1, 0, 0, 0, [], []) := rfl
theorem k3_32 : az_cd 3 32 = some (52, .iastore, 1, 0, 0, 0, [], []) := rfl
theorem k3_33 : az_cd 3 33 = some (53, .return_, 1, 0, 0, 0, [], []) := rfl
theorem k4_0 : az_cd 4 0 = some (0, .iload_n 1, 1, 0, 0, 0, [], []) := rfl
theorem k4_1 : az_cd 4 1 = some (1, .invokestatic 29, 3, 122, 1, 1, [], [428, 429, 42, 430]) := rfl
theorem k4_2 : az_cd 4 2 = some (4, .ifCond .eq 12, 3, 8, 0, 0, [], []) := rfl
theorem k4_3 : az_cd 4 3 = some (7, .aload_n 0, 1, 0, 0, 0, [], []) := rfl
theorem k4_4 : az_cd 4 4 = some (8, .getfield 9, 3, 0, 0, 0, [], [81]) := rfl
theorem k4_5 : az_cd 4 5 = some (11, .iload_n 1, 1, 0, 0, 0, [], []) := rfl
theorem k4_6 : az_cd 4 6 = some (12, .iaload, 1, 0, 0, 0, [], []) := rfl
theorem k4_7 : az_cd 4 7 = some (13, .goto 5, 3, 9, 0, 0, [], []) := rfl
theorem k4_8 : az_cd 4 8 = some (16, .bipush (-5), 2, 0, 0, (-5), [], []) := rfl
theorem k4_9 : az_cd 4 9 = some (18, .ireturn, 1, 0, 0, 0, [], []) := rfl
theorem k5_0 : az_cd 5 0 = some (0, .iload_n 1, 1, 0, 0, 0, [], []) := rfl
theorem k5_1 : az_cd 5 1 = some (1, .invokestatic 29, 3, 122, 1, 1, [], [428, 429, 42, 430]) := rfl
theorem k5_2 : az_cd 5 2 = some (4, .ifCond .eq 12, 3, 8, 0, 0, [], []) := rfl
theorem k5_3 : az_cd 5 3 = some (7, .aload_n 0, 1, 0, 0, 0, [], []) := rfl
theorem k5_4 : az_cd 5 4 = some (8, .getfield 15, 3, 0, 1, 0, [], [82]) := rfl
theorem k5_5 : az_cd 5 5 = some (11, .iload_n 1, 1, 0, 0, 0, [], []) := rfl
theorem k5_6 : az_cd 5 6 = some (12, .iaload, 1, 0, 0, 0, [], []) := rfl
theorem k5_7 : az_cd 5 7 = some (13, .goto 5, 3, 9, 0, 0, [], []) := rfl
theorem k5_8 : az_cd 5 8 = some (16, .bipush (-5), 2, 0, 0, (-5), [], []) := rfl
theorem k5_9 : az_cd 5 9 = some (18, .ireturn, 1, 0, 0, 0, [], []) := rfl
theorem k6_0 : az_cd 6 0 = some (0, .iload_n 1, 1, 0, 0, 0, [], []) := rfl
theorem k6_1 : az_cd 6 1 = some (1, .invokestatic 29, 3, 122, 1, 1, [], [428, 429, 42, 430]) := rfl
theorem k6_2 : az_cd 6 2 = some (4, .ifCond .eq 12, 3, 8, 0, 0, [], []) := rfl
theorem k6_3 : az_cd 6 3 = some (7, .aload_n 0, 1, 0, 0, 0, [], []) := rfl
theorem k6_4 : az_cd 6 4 = some (8, .getfield 18, 3, 0, 2, 0, [], [83]) := rfl
theorem k6_5 : az_cd 6 5 = some (11, .iload_n 1, 1, 0, 0, 0, [], []) := rfl
theorem k6_6 : az_cd 6 6 = some (12, .iaload, 1, 0, 0, 0, [], []) := rfl
theorem k6_7 : az_cd 6 7 = some (13, .goto 4, 3, 9, 0, 0, [], []) := rfl
theorem k6_8 : az_cd 6 8 = some (16, .iconst 0, 1, 0, 0, 0, [], []) := rfl
theorem k6_9 : az_cd 6 9 = some (17, .ireturn, 1, 0, 0, 0, [], []) := rfl
theorem k7_0 : az_cd 7 0 = some (0, .iload_n 1, 1, 0, 0, 0, [], []) := rfl
theorem k7_1 : az_cd 7 1 = some (1, .invokestatic 29, 3, 122, 1, 1, [], [428, 429, 42, 430]) := rfl
theorem k7_2 : az_cd 7 2 = some (4, .ifCond .eq 25, 3, 15, 0, 0, [], []) := rfl
theorem k7_3 : az_cd 7 3 = some (7, .aload_n 0, 1, 0, 0, 0, [], []) := rfl
theorem k7_4 : az_cd 7 4 = some (8, .getfield 15, 3, 0, 1, 0, [], [82]) := rfl
theorem k7_5 : az_cd 7 5 = some (11, .iload_n 1, 1, 0, 0, 0, [], []) := rfl
theorem k7_6 : az_cd 7 6 = some (12, .iaload, 1, 0, 0, 0, [], []) := rfl
theorem k7_7 : az_cd 7 7 = some (13, .aload_n 0, 1, 0, 0, 0, [], []) := rfl
theorem k7_8 : az_cd 7 8 = some (14, .getfield 9, 3, 0, 0, 0, [], [81]) := rfl
theorem k7_9 : az_cd 7 9 = some (17, .iload_n 1, 1, 0, 0, 0, [], []) := rfl
theorem k7_10 : az_cd 7 10 = some (18, .iaload, 1, 0, 0, 0, [], []) := rfl
theorem k7_11 : az_cd 7 11 = some (19, .invokestatic 21, 3, 2, 1, 0, [], [75, 76, 44, 77]) := rfl
theorem k7_12 : az_cd 7 12 = some (22, .if_icmp .eq 7, 3, 15, 0, 0, [], []) := rfl
theorem k7_13 : az_cd 7 13 = some (25, .iconst 1, 1, 0, 0, 1, [], []) := rfl
theorem k7_14 : az_cd 7 14 = some (26, .goto 4, 3, 16, 0, 0, [], []) := rfl
theorem k7_15 : az_cd 7 15 = some (29, .iconst 0, 1, 0, 0, 0, [], []) := rfl
theorem k7_16 : az_cd 7 16 = some (30, .ireturn, 1, 0, 0, 0, [], []) := rfl
theorem k8_0 : az_cd 8 0 = some (0, .iconst 0, 1, 0, 0, 0, [], []) := rfl
theorem k8_1 : az_cd 8 1 = some (1, .istore_n 1, 1, 0, 0, 0, [], []) := rfl
theorem k8_2 : az_cd 8 2 = some (2, .iconst 0, 1, 0, 0, 0, [], []) := rfl
theorem k8_3 : az_cd 8 3 = some (3, .istore_n 2, 1, 0, 0, 0, [], []) := rfl
theorem k8_4 : az_cd 8 4 = some (4, .iload_n 2, 1, 0, 0, 0, [], []) := rfl
theorem k8_5 : az_cd 8 5 = some (5, .bipush 24, 2, 0, 0, 24, [], []) := rfl
theorem k8_6 : az_cd 8 6 = some (7, .if_icmp .ge 20, 3, 14, 0, 0, [], []) := rfl
theorem k8_7 : az_cd 8 7 = some (10, .aload_n 0, 1, 0, 0, 0, [], []) := rfl
theorem k8_8 : az_cd 8 8 = some (11, .iload_n 2, 1, 0, 0, 0, [], []) := rfl
theorem k8_9 : az_cd 8 9 = some (12, .invokevirtual 33, 3, 7, 1, 0, [], [731, 639, 44, 641, 640]) := rfl
theorem k8_10 : az_cd 8 10 = some (15, .ifCond .eq 6, 3, 12, 0, 0, [], []) := rfl
theorem k8_11 : az_cd 8 11 = some (18, .iinc 1 1, 3, 0, 0, 1, [], []) := rfl
theorem k8_12 : az_cd 8 12 = some (21, .iinc 2 1, 3, 0, 0, 1, [], []) := rfl
theorem k8_13 : az_cd 8 13 = some (24, .goto (-20), 3, 4, 0, 0, [], []) := rfl
theorem k8_14 : az_cd 8 14 = some (27, .iload_n 1, 1, 0, 0, 0, [], []) := rfl
theorem k8_15 : az_cd 8 15 = some (28, .ireturn, 1, 0, 0, 0, [], []) := rfl
theorem k9_0 : az_cd 9 0 = some (0, .iconst 0, 1, 0, 0, 0, [], []) := rfl
theorem k9_1 : az_cd 9 1 = some (1, .istore_n 1, 1, 0, 0, 0, [], []) := rfl
theorem k9_2 : az_cd 9 2 = some (2, .iconst 0, 1, 0, 0, 0, [], []) := rfl
theorem k9_3 : az_cd 9 3 = some (3, .istore_n 2, 1, 0, 0, 0, [], []) := rfl
theorem k9_4 : az_cd 9 4 = some (4, .iload_n 2, 1, 0, 0, 0, [], []) := rfl
theorem k9_5 : az_cd 9 5 = some (5, .bipush 24, 2, 0, 0, 24, [], []) := rfl
theorem k9_6 : az_cd 9 6 = some (7, .if_icmp .ge 30, 3, 22, 0, 0, [], []) := rfl
theorem k9_7 : az_cd 9 7 = some (10, .aload_n 0, 1, 0, 0, 0, [], []) := rfl
theorem k9_8 : az_cd 9 8 = some (11, .getfield 18, 3, 0, 2, 0, [], [83]) := rfl
theorem k9_9 : az_cd 9 9 = some (14, .iload_n 2, 1, 0, 0, 0, [], []) := rfl
theorem k9_10 : az_cd 9 10 = some (15, .iaload, 1, 0, 0, 0, [], []) := rfl
theorem k9_11 : az_cd 9 11 = some (16, .iload_n 1, 1, 0, 0, 0, [], []) := rfl
theorem k9_12 : az_cd 9 12 = some (17, .if_icmp .le 12, 3, 18, 0, 0, [], []) := rfl
theorem k9_13 : az_cd 9 13 = some (20, .aload_n 0, 1, 0, 0, 0, [], []) := rfl
theorem k9_14 : az_cd 9 14 = some (21, .getfield 18, 3, 0, 2, 0, [], [83]) := rfl
theorem k9_15 : az_cd 9 15 = some (24, .iload_n 2, 1, 0, 0, 0, [], []) := rfl
theorem k9_16 : az_cd 9 16 = some (25, .iaload, 1, 0, 0, 0, [], []) := rfl
theorem k9_17 : az_cd 9 17 = some (26, .goto 4, 3, 19, 0, 0, [], []) := rfl
theorem k9_18 : az_cd 9 18 = some (29, .iload_n 1, 1, 0, 0, 0, [], []) := rfl
theorem k9_19 : az_cd 9 19 = some (30, .istore_n 1, 1, 0, 0, 0, [], []) := rfl
theorem k9_20 : az_cd 9 20 = some (31, .iinc 2 1, 3, 0, 0, 1, [], []) := rfl
theorem k9_21 : az_cd 9 21 = some (34, .goto (-30), 3, 4, 0, 0, [], []) := rfl
theorem k9_22 : az_cd 9 22 = some (37, .iload_n 1, 1, 0, 0, 0, [], []) := rfl
theorem k9_23 : az_cd 9 23 = some (38, .ireturn, 1, 0, 0, 0, [], []) := rfl
theorem k10_0 : az_cd 10 0 = some (0, .iconst 0, 1, 0, 0, 0, [], []) := rfl
theorem k10_1 : az_cd 10 1 = some (1, .istore_n 1, 1, 0, 0, 0, [], []) := rfl
theorem k10_2 : az_cd 10 2 = some (2, .iconst 0, 1, 0, 0, 0, [], []) := rfl
theorem k10_3 : az_cd 10 3 = some (3, .istore_n 2, 1, 0, 0, 0, [], []) := rfl
theorem k10_4 : az_cd 10 4 = some (4, .iload_n 2, 1, 0, 0, 0, [], []) := rfl
theorem k10_5 : az_cd 10 5 = some (5, .bipush 24, 2, 0, 0, 24, [], []) := rfl
theorem k10_6 : az_cd 10 6 = some (7, .if_icmp .ge 18, 3, 16, 0, 0, [], []) := rfl
theorem k10_7 : az_cd 10 7 = some (10, .iload_n 1, 1, 0, 0, 0, [], []) := rfl
theorem k10_8 : az_cd 10 8 = some (11, .aload_n 0, 1, 0, 0, 0, [], []) := rfl
theorem k10_9 : az_cd 10 9 = some (12, .getfield 18, 3, 0, 2, 0, [], [83]) := rfl
theorem k10_10 : az_cd 10 10 = some (15, .iload_n 2, 1, 0, 0, 0, [], []) := rfl
theorem k10_11 : az_cd 10 11 = some (16, .iaload, 1, 0, 0, 0, [], []) := rfl
theorem k10_12 : az_cd 10 12 = some (17, .iadd, 1, 0, 0, 0, [], []) := rfl
theorem k10_13 : az_cd 10 13 = some (18, .istore_n 1, 1, 0, 0, 0, [], []) := rfl
theorem k10_14 : az_cd 10 14 = some (19, .iinc 2 1, 3, 0, 0, 1, [], []) := rfl
theorem k10_15 : az_cd 10 15 = some (22, .goto (-18), 3, 4, 0, 0, [], []) := rfl
theorem k10_16 : az_cd 10 16 = some (25, .iload_n 1, 1, 0, 0, 0, [], []) := rfl
theorem k10_17 : az_cd 10 17 = some (26, .ireturn, 1, 0, 0, 0, [], []) := rfl
theorem k11_0 : az_cd 11 0 = some (0, .aload_n 1, 1, 0, 0, 0, [], []) := rfl
theorem k11_1 : az_cd 11 1 = some (1, .getfield 9, 3, 0, 0, 0, [], [81]) := rfl
theorem k11_2 : az_cd 11 2 = some (4, .aload_n 0, 1, 0, 0, 0, [], []) := rfl
theorem k11_3 : az_cd 11 3 = some (5, .getfield 9, 3, 0, 0, 0, [], [81]) := rfl
theorem k11_4 : az_cd 11 4 = some (8, .invokestatic 36, 3, 125, 2, 1, [], [279, 280, 42, 281]) := rfl
theorem k11_5 : az_cd 11 5 = some (11, .aload_n 1, 1, 0, 0, 0, [], []) := rfl
theorem k11_6 : az_cd 11 6 = some (12, .getfield 15, 3, 0, 1, 0, [], [82]) := rfl
theorem k11_7 : az_cd 11 7 = some (15, .aload_n 0, 1, 0, 0, 0, [], []) := rfl
theorem k11_8 : az_cd 11 8 = some (16, .getfield 15, 3, 0, 1, 0, [], [82]) := rfl
theorem k11_9 : az_cd 11 9 = some (19, .invokestatic 36, 3, 125, 2, 1, [], [279, 280, 42, 281]) := rfl
theorem k11_10 : az_cd 11 10 = some (22, .aload_n 1, 1, 0, 0, 0, [], []) := rfl
theorem k11_11 : az_cd 11 11 = some (23, .getfield 18, 3, 0, 2, 0, [], [83]) := rfl
theorem k11_12 : az_cd 11 12 = some (26, .aload_n 0, 1, 0, 0, 0, [], []) := rfl
theorem k11_13 : az_cd 11 13 = some (27, .getfield 18, 3, 0, 2, 0, [], [83]) := rfl
theorem k11_14 : az_cd 11 14 = some (30, .invokestatic 36, 3, 125, 2, 1, [], [279, 280, 42, 281]) := rfl
theorem k11_15 : az_cd 11 15 = some (33, .return_, 1, 0, 0, 0, [], []) := rfl
theorem k12_0 : az_cd 12 0 = some (0, .aload_n 0, 1, 0, 0, 0, [], []) := rfl
theorem k12_1 : az_cd 12 1 = some (1, .invokespecial 3, 3, 196, 0, 2, [], [114, 61, 62]) := rfl
theorem k12_2 : az_cd 12 2 = some (4, .aload_n 0, 1, 0, 0, 0, [], []) := rfl
theorem k12_3 : az_cd 12 3 = some (5, .bipush 8, 2, 0, 0, 8, [], []) := rfl
theorem k12_4 : az_cd 12 4 = some (7, .newarray .int, 2, 0, 0, 0, [], [91]) := rfl
theorem k12_5 : az_cd 12 5 = some (9, .putfield 9, 3, 1, 0, 0, [], [116]) := rfl
theorem k12_6 : az_cd 12 6 = some (12, .aload_n 0, 1, 0, 0, 0, [], []) := rfl
theorem k12_7 : az_cd 12 7 = some (13, .getfield 9, 3, 1, 0, 0, [], [116]) := rfl
theorem k12_8 : az_cd 12 8 = some (16, .iconst (-1), 1, 0, 0, (-1), [], []) := rfl
theorem k12_9 : az_cd 12 9 = some (17, .invokestatic 15, 3, 124, 2, 1, [], [115, 79, 42, 80]) := rfl
theorem k12_10 : az_cd 12 10 = some (20, .return_, 1, 0, 0, 0, [], []) := rfl
theorem k13_0 : az_cd 13 0 = some (0, .iload_n 1, 1, 0, 0, 0, [], []) := rfl
theorem k13_1 : az_cd 13 1 = some (1, .invokestatic 19, 3, 121, 1, 1, [], [263, 249, 42, 250]) := rfl
theorem k13_2 : az_cd 13 2 = some (4, .ifCond .eq 12, 3, 8, 0, 0, [], []) := rfl
theorem k13_3 : az_cd 13 3 = some (7, .aload_n 0, 1, 0, 0, 0, [], []) := rfl
theorem k13_4 : az_cd 13 4 = some (8, .getfield 9, 3, 1, 0, 0, [], [116]) := rfl
theorem k13_5 : az_cd 13 5 = some (11, .iload_n 1, 1, 0, 0, 0, [], []) := rfl
theorem k13_6 : az_cd 13 6 = some (12, .iaload, 1, 0, 0, 0, [], []) := rfl
theorem k13_7 : az_cd 13 7 = some (13, .goto 4, 3, 9, 0, 0, [], []) := rfl
theorem k13_8 : az_cd 13 8 = some (16, .iconst (-1), 1, 0, 0, (-1), [], []) := rfl
theorem k13_9 : az_cd 13 9 = some (17, .ireturn, 1, 0, 0, 0, [], []) := rfl
theorem k14_0 : az_cd 14 0 = some (0, .aload_n 0, 1, 0, 0, 0, [], []) := rfl
theorem k14_1 : az_cd 14 1 = some (1, .iload_n 1, 1, 0, 0, 0, [], []) := rfl
theorem k14_2 : az_cd 14 2 = some (2, .invokevirtual 23, 3, 13, 1, 0, [], [473, 260, 46, 262, 261]) := rfl
theorem k14_3 : az_cd 14 3 = some (5, .iconst (-1), 1, 0, 0, (-1), [], []) := rfl
theorem k14_4 : az_cd 14 4 = some (6, .if_icmp .eq 7, 3, 7, 0, 0, [], []) := rfl
theorem k14_5 : az_cd 14 5 = some (9, .iconst 1, 1, 0, 0, 1, [], []) := rfl
theorem k14_6 : az_cd 14 6 = some (10, .goto 4, 3, 8, 0, 0, [], []) := rfl
theorem k14_7 : az_cd 14 7 = some (13, .iconst 0, 1, 0, 0, 0, [], []) := rfl
theorem k14_8 : az_cd 14 8 = some (14, .ireturn, 1, 0, 0, 0, [], []) := rfl
theorem k15_0 : az_cd 15 0 = some (0, .iload_n 1, 1, 0, 0, 0, [], []) := rfl
theorem k15_1 : az_cd 15 1 = some (1, .invokestatic 19, 3, 121, 1, 1, [], [263, 249, 42, 250]) := rfl
theorem k15_2 : az_cd 15 2 = some (4, .ifCond .eq 10, 3, 8, 0, 0, [], []) := rfl
theorem k15_3 : az_cd 15 3 = some (7, .aload_n 0, 1, 0, 0, 0, [], []) := rfl
theorem k15_4 : az_cd 15 4 = some (8, .getfield 9, 3, 1, 0, 0, [], [116]) := rfl
theorem k15_5 : az_cd 15 5 = some (11, .iload_n 1, 1, 0, 0, 0, [], []) := rfl
theorem k15_6 : az_cd 15 6 = some (12, .iload_n 2, 1, 0, 0, 0, [], []) := rfl
theorem k15_7 : az_cd 15 7 = some (13, .iastore, 1, 0, 0, 0, [], []) := rfl
theorem k15_8 : az_cd 15 8 = some (14, .return_, 1, 0, 0, 0, [], []) := rfl
theorem k16_0 : az_cd 16 0 = some (0, .aload_n 0, 1, 0, 0, 0, [], []) := rfl
theorem k16_1 : az_cd 16 1 = some (1, .getfield 9, 3, 1, 0, 0, [], [116]) := rfl
theorem k16_2 : az_cd 16 2 = some (4, .iconst (-1), 1, 0, 0, (-1), [], []) := rfl
theorem k16_3 : az_cd 16 3 = some (5, .invokestatic 15, 3, 124, 2, 1, [], [115, 79, 42, 80]) := rfl
theorem k16_4 : az_cd 16 4 = some (8, .return_, 1, 0, 0, 0, [], []) := rfl
theorem k17_0 : az_cd 17 0 = some (0, .iconst 0, 1, 0, 0, 0, [], []) := rfl
theorem k17_1 : az_cd 17 1 = some (1, .istore_n 1, 1, 0, 0, 0, [], []) := rfl
theorem k17_2 : az_cd 17 2 = some (2, .iconst 0, 1, 0, 0, 0, [], []) := rfl
theorem k17_3 : az_cd 17 3 = some (3, .istore_n 2, 1, 0, 0, 0, [], []) := rfl
theorem k17_4 : az_cd 17 4 = some (4, .iload_n 2, 1, 0, 0, 0, [], []) := rfl
theorem k17_5 : az_cd 17 5 = some (5, .bipush 8, 2, 0, 0, 8, [], []) := rfl
theorem k17_6 : az_cd 17 6 = some (7, .if_icmp .ge 22, 3, 16, 0, 0, [], []) := rfl
theorem k17_7 : az_cd 17 7 = some (10, .aload_n 0, 1, 0, 0, 0, [], []) := rfl
theorem k17_8 : az_cd 17 8 = some (11, .getfield 9, 3, 1, 0, 0, [], [116]) := rfl
theorem k17_9 : az_cd 17 9 = some (14, .iload_n 2, 1, 0, 0, 0, [], []) := rfl
theorem k17_10 : az_cd 17 10 = some (15, .iaload, 1, 0, 0, 0, [], []) := rfl
theorem k17_11 : az_cd 17 11 = some (16, .iconst (-1), 1, 0, 0, (-1), [], []) := rfl
theorem k17_12 : az_cd 17 12 = some (17, .if_icmp .eq 6, 3, 14, 0, 0, [], []) := rfl
theorem k17_13 : az_cd 17 13 = some (20, .iinc 1 1, 3, 0, 0, 1, [], []) := rfl
theorem k17_14 : az_cd 17 14 = some (23, .iinc 2 1, 3, 0, 0, 1, [], []) := rfl
theorem k17_15 : az_cd 17 15 = some (26, .goto (-22), 3, 4, 0, 0, [], []) := rfl
theorem k17_16 : az_cd 17 16 = some (29, .iload_n 1, 1, 0, 0, 0, [], []) := rfl
theorem k17_17 : az_cd 17 17 = some (30, .ireturn, 1, 0, 0, 0, [], []) := rfl
theorem k18_0 : az_cd 18 0 = some (0, .iconst 0, 1, 0, 0, 0, [], []) := rfl
theorem k18_1 : az_cd 18 1 = some (1, .istore_n 1, 1, 0, 0, 0, [], []) := rfl
theorem k18_2 : az_cd 18 2 = some (2, .iconst 0, 1, 0, 0, 0, [], []) := rfl
theorem k18_3 : az_cd 18 3 = some (3, .istore_n 2, 1, 0, 0, 0, [], []) := rfl
theorem k18_4 : az_cd 18 4 = some (4, .iload_n 2, 1, 0, 0, 0, [], []) := rfl
theorem k18_5 : az_cd 18 5 = some (5, .bipush 8, 2, 0, 0, 8, [], []) := rfl
theorem k18_6 : az_cd 18 6 = some (7, .if_icmp .ge 21, 3, 15, 0, 0, [], []) := rfl
theorem k18_7 : az_cd 18 7 = some (10, .aload_n 0, 1, 0, 0, 0, [], []) := rfl
theorem k18_8 : az_cd 18 8 = some (11, .getfield 9, 3, 1, 0, 0, [], [116]) := rfl
theorem k18_9 : az_cd 18 9 = some (14, .iload_n 2, 1, 0, 0, 0, [], []) := rfl
theorem k18_10 : az_cd 18 10 = some (15, .iaload, 1, 0, 0, 0, [], []) := rfl
theorem k18_11 : az_cd 18 11 = some (16, .ifCond .lt 6, 3, 13, 0, 0, [], []) := rfl
theorem k18_12 : az_cd 18 12 = some (19, .iinc 1 1, 3, 0, 0, 1, [], []) := rfl
theorem k18_13 : az_cd 18 13 = some (22, .iinc 2 1, 3, 0, 0, 1, [], []) := rfl
theorem k18_14 : az_cd 18 14 = some (25, .goto (-21), 3, 4, 0, 0, [], []) := rfl
theorem k18_15 : az_cd 18 15 = some (28, .iload_n 1, 1, 0, 0, 0, [], []) := rfl
theorem k18_16 : az_cd 18 16 = some (29, .ireturn, 1, 0, 0, 0, [], []) := rfl
theorem k19_0 : az_cd 19 0 = some (0, .iconst 0, 1, 0, 0, 0, [], []) := rfl
theorem k19_1 : az_cd 19 1 = some (1, .istore_n 2, 1, 0, 0, 0, [], []) := rfl
theorem k19_2 : az_cd 19 2 = some (2, .iconst 0, 1, 0, 0, 0, [], []) := rfl
theorem k19_3 : az_cd 19 3 = some (3, .istore_n 3, 1, 0, 0, 0, [], []) := rfl
theorem k19_4 : az_cd 19 4 = some (4, .iload_n 3, 1, 0, 0, 0, [], []) := rfl
theorem k19_5 : az_cd 19 5 = some (5, .bipush 8, 2, 0, 0, 8, [], []) := rfl
theorem k19_6 : az_cd 19 6 = some (7, .if_icmp .ge 28, 3, 20, 0, 0, [], []) := rfl
theorem k19_7 : az_cd 19 7 = some (10, .aload_n 0, 1, 0, 0, 0, [], []) := rfl
theorem k19_8 : az_cd 19 8 = some (11, .getfield 9, 3, 1, 0, 0, [], [116]) := rfl
theorem k19_9 : az_cd 19 9 = some (14, .iload_n 3, 1, 0, 0, 0, [], []) := rfl
theorem k19_10 : az_cd 19 10 = some (15, .iaload, 1, 0, 0, 0, [], []) := rfl
theorem k19_11 : az_cd 19 11 = some (16, .ifCond .lt 13, 3, 18, 0, 0, [], []) := rfl
theorem k19_12 : az_cd 19 12 = some (19, .iload_n 2, 1, 0, 0, 0, [], []) := rfl
theorem k19_13 : az_cd 19 13 = some (20, .iload_n 1, 1, 0, 0, 0, [], []) := rfl
theorem k19_14 : az_cd 19 14 = some (21, .if_icmp .ne 5, 3, 17, 0, 0, [], []) := rfl
theorem k19_15 : az_cd 19 15 = some (24, .iload_n 3, 1, 0, 0, 0, [], []) := rfl
theorem k19_16 : az_cd 19 16 = some (25, .ireturn, 1, 0, 0, 0, [], []) := rfl
theorem k19_17 : az_cd 19 17 = some (26, .iinc 2 1, 3, 0, 0, 1, [], []) := rfl
theorem k19_18 : az_cd 19 18 = some (29, .iinc 3 1, 3, 0, 0, 1, [], []) := rfl
theorem k19_19 : az_cd 19 19 = some (32, .goto (-28), 3, 4, 0, 0, [], []) := rfl
theorem k19_20 : az_cd 19 20 = some (35, .bipush (-5), 2, 0, 0, (-5), [], []) := rfl
theorem k19_21 : az_cd 19 21 = some (37, .ireturn, 1, 0, 0, 0, [], []) := rfl
theorem k20_0 : az_cd 20 0 = some (0, .aload_n 1, 1, 0, 0, 0, [], []) := rfl
theorem k20_1 : az_cd 20 1 = some (1, .getfield 9, 3, 1, 0, 0, [], [116]) := rfl
theorem k20_2 : az_cd 20 2 = some (4, .aload_n 0, 1, 0, 0, 0, [], []) := rfl
theorem k20_3 : az_cd 20 3 = some (5, .getfield 9, 3, 1, 0, 0, [], [116]) := rfl
theorem k20_4 : az_cd 20 4 = some (8, .invokestatic 27, 3, 125, 2, 1, [], [291, 280, 42, 281]) := rfl
theorem k20_5 : az_cd 20 5 = some (11, .return_, 1, 0, 0, 0, [], []) := rfl
theorem k21_0 : az_cd 21 0 = some (0, .aload_n 0, 1, 0, 0, 0, [], []) := rfl
theorem k21_1 : az_cd 21 1 = some (1, .invokespecial 3, 3, 196, 0, 2, [], [97, 61, 62]) := rfl
theorem k21_2 : az_cd 21 2 = some (4, .aload_n 0, 1, 0, 0, 0, [], []) := rfl
theorem k21_3 : az_cd 21 3 = some (5, .bipush 8, 2, 0, 0, 8, [], []) := rfl
theorem k21_4 : az_cd 21 4 = some (7, .newarray .int, 2, 0, 0, 0, [], [91]) := rfl
theorem k21_5 : az_cd 21 5 = some (9, .putfield 9, 3, 2, 2, 0, [], [101]) := rfl
theorem k21_6 : az_cd 21 6 = some (12, .aload_n 0, 1, 0, 0, 0, [], []) := rfl
theorem k21_7 : az_cd 21 7 = some (13, .iload_n 1, 1, 0, 0, 0, [], []) := rfl
theorem k21_8 : az_cd 21 8 = some (14, .putfield 15, 3, 2, 0, 0, [], [99]) := rfl
theorem k21_9 : az_cd 21 9 = some (17, .aload_n 0, 1, 0, 0, 0, [], []) := rfl
theorem k21_10 : az_cd 21 10 = some (18, .iconst 0, 1, 0, 0, 0, [], []) := rfl
theorem k21_11 : az_cd 21 11 = some (19, .putfield 19, 3, 2, 1, 0, [], [100]) := rfl
theorem k21_12 : az_cd 21 12 = some (22, .aload_n 0, 1, 0, 0, 0, [], []) := rfl
theorem k21_13 : az_cd 21 13 = some (23, .getfield 9, 3, 2, 2, 0, [], [101]) := rfl
theorem k21_14 : az_cd 21 14 = some (26, .bipush (-5), 2, 0, 0, (-5), [], []) := rfl
theorem k21_15 : az_cd 21 15 = some (28, .invokestatic 23, 3, 124, 2, 1, [], [98, 79, 42, 80]) := rfl
theorem k21_16 : az_cd 21 16 = some (31, .return_, 1, 0, 0, 0, [], []) := rfl
theorem k22_0 : az_cd 22 0 = some (0, .aload_n 0, 1, 0, 0, 0, [], []) := rfl
theorem k22_1 : az_cd 22 1 = some (1, .getfield 15, 3, 2, 0, 0, [], [99]) := rfl
theorem k22_2 : az_cd 22 2 = some (4, .ireturn, 1, 0, 0, 0, [], []) := rfl
theorem k23_0 : az_cd 23 0 = some (0, .aload_n 0, 1, 0, 0, 0, [], []) := rfl
theorem k23_1 : az_cd 23 1 = some (1, .getfield 19, 3, 2, 1, 0, [], [100]) := rfl
theorem k23_2 : az_cd 23 2 = some (4, .ireturn, 1, 0, 0, 0, [], []) := rfl
theorem k24_0 : az_cd 24 0 = some (0, .aload_n 0, 1, 0, 0, 0, [], []) := rfl
theorem k24_1 : az_cd 24 1 = some (1, .iload_n 1, 1, 0, 0, 0, [], []) := rfl
theorem k24_2 : az_cd 24 2 = some (2, .putfield 15, 3, 2, 0, 0, [], [99]) := rfl
theorem k24_3 : az_cd 24 3 = some (5, .aload_n 0, 1, 0, 0, 0, [], []) := rfl
theorem k24_4 : az_cd 24 4 = some (6, .iload_n 2, 1, 0, 0, 0, [], []) := rfl
theorem k24_5 : az_cd 24 5 = some (7, .putfield 19, 3, 2, 1, 0, [], [100]) := rfl
theorem k24_6 : az_cd 24 6 = some (10, .return_, 1, 0, 0, 0, [], []) := rfl
theorem k25_0 : az_cd 25 0 = some (0, .iload_n 1, 1, 0, 0, 0, [], []) := rfl
theorem k25_1 : az_cd 25 1 = some (1, .invokestatic 27, 3, 121, 1, 1, [], [482, 249, 42, 250]) := rfl
theorem k25_2 : az_cd 25 2 = some (4, .ifCond .eq 12, 3, 8, 0, 0, [], []) := rfl
theorem k25_3 : az_cd 25 3 = some (7, .aload_n 0, 1, 0, 0, 0, [], []) := rfl
theorem k25_4 : az_cd 25 4 = some (8, .getfield 9, 3, 2, 2, 0, [], [101]) := rfl
theorem k25_5 : az_cd 25 5 = some (11, .iload_n 1, 1, 0, 0, 0, [], []) := rfl
theorem k25_6 : az_cd 25 6 = some (12, .iaload, 1, 0, 0, 0, [], []) := rfl
theorem k25_7 : az_cd 25 7 = some (13, .goto 5, 3, 9, 0, 0, [], []) := rfl
theorem k25_8 : az_cd 25 8 = some (16, .bipush (-5), 2, 0, 0, (-5), [], []) := rfl
theorem k25_9 : az_cd 25 9 = some (18, .ireturn, 1, 0, 0, 0, [], []) := rfl
theorem k26_0 : az_cd 26 0 = some (0, .iload_n 1, 1, 0, 0, 0, [], []) := rfl
theorem k26_1 : az_cd 26 1 = some (1, .invokestatic 27, 3, 121, 1, 1, [], [482, 249, 42, 250]) := rfl
theorem k26_2 : az_cd 26 2 = some (4, .ifCond .eq 10, 3, 8, 0, 0, [], []) := rfl
theorem k26_3 : az_cd 26 3 = some (7, .aload_n 0, 1, 0, 0, 0, [], []) := rfl
theorem k26_4 : az_cd 26 4 = some (8, .getfield 9, 3, 2, 2, 0, [], [101]) := rfl
theorem k26_5 : az_cd 26 5 = some (11, .iload_n 1, 1, 0, 0, 0, [], []) := rfl
theorem k26_6 : az_cd 26 6 = some (12, .iload_n 2, 1, 0, 0, 0, [], []) := rfl
theorem k26_7 : az_cd 26 7 = some (13, .iastore, 1, 0, 0, 0, [], []) := rfl
theorem k26_8 : az_cd 26 8 = some (14, .return_, 1, 0, 0, 0, [], []) := rfl
theorem k27_0 : az_cd 27 0 = some (0, .iconst 0, 1, 0, 0, 0, [], []) := rfl
theorem k27_1 : az_cd 27 1 = some (1, .istore_n 2, 1, 0, 0, 0, [], []) := rfl
theorem k27_2 : az_cd 27 2 = some (2, .iload_n 2, 1, 0, 0, 0, [], []) := rfl
theorem k27_3 : az_cd 27 3 = some (3, .bipush 8, 2, 0, 0, 8, [], []) := rfl
theorem k27_4 : az_cd 27 4 = some (5, .if_icmp .ge 21, 3, 15, 0, 0, [], []) := rfl
theorem k27_5 : az_cd 27 5 = some (8, .aload_n 0, 1, 0, 0, 0, [], []) := rfl
theorem k27_6 : az_cd 27 6 = some (9, .getfield 9, 3, 2, 2, 0, [], [101]) := rfl
theorem k27_7 : az_cd 27 7 = some (12, .iload_n 2, 1, 0, 0, 0, [], []) := rfl
theorem k27_8 : az_cd 27 8 = some (13, .iaload, 1, 0, 0, 0, [], []) := rfl
theorem k27_9 : az_cd 27 9 = some (14, .iload_n 1, 1, 0, 0, 0, [], []) := rfl
theorem k27_10 : az_cd 27 10 = some (15, .if_icmp .ne 5, 3, 13, 0, 0, [], []) := rfl
theorem k27_11 : az_cd 27 11 = some (18, .iload_n 2, 1, 0, 0, 0, [], []) := rfl
theorem k27_12 : az_cd 27 12 = some (19, .ireturn, 1, 0, 0, 0, [], []) := rfl
theorem k27_13 : az_cd 27 13 = some (20, .iinc 2 1, 3, 0, 0, 1, [], []) := rfl
theorem k27_14 : az_cd 27 14 = some (23, .goto (-21), 3, 2, 0, 0, [], []) := rfl
theorem k27_15 : az_cd 27 15 = some (26, .bipush (-5), 2, 0, 0, (-5), [], []) := rfl
theorem k27_16 : az_cd 27 16 = some (28, .ireturn, 1, 0, 0, 0, [], []) := rfl
theorem k28_0 : az_cd 28 0 = some (0, .iconst 0, 1, 0, 0, 0, [], []) := rfl
theorem k28_1 : az_cd 28 1 = some (1, .istore_n 1, 1, 0, 0, 0, [], []) := rfl
theorem k28_2 : az_cd 28 2 = some (2, .iconst 0, 1, 0, 0, 0, [], []) := rfl
theorem k28_3 : az_cd 28 3 = some (3, .istore_n 2, 1, 0, 0, 0, [], []) := rfl
theorem k28_4 : az_cd 28 4 = some (4, .iload_n 2, 1, 0, 0, 0, [], []) := rfl
theorem k28_5 : az_cd 28 5 = some (5, .bipush 8, 2, 0, 0, 8, [], []) := rfl
theorem k28_6 : az_cd 28 6 = some (7, .if_icmp .ge 26, 3, 21, 0, 0, [], []) := rfl
theorem k28_7 : az_cd 28 7 = some (10, .aload_n 0, 1, 0, 0, 0, [], []) := rfl
theorem k28_8 : az_cd 28 8 = some (11, .getfield 9, 3, 2, 2, 0, [], [101]) := rfl
theorem k28_9 : az_cd 28 9 = some (14, .iload_n 2, 1, 0, 0, 0, [], []) := rfl
theorem k28_10 : az_cd 28 10 = some (15, .iaload, 1, 0, 0, 0, [], []) := rfl
theorem k28_11 : az_cd 28 11 = some (16, .bipush (-5), 2, 0, 0, (-5), [], []) := rfl
theorem k28_12 : az_cd 28 12 = some (18, .if_icmp .eq 9, 3, 19, 0, 0, [], []) := rfl
theorem k28_13 : az_cd 28 13 = some (21, .iload_n 1, 1, 0, 0, 0, [], []) := rfl
theorem k28_14 : az_cd 28 14 = some (22, .iconst 1, 1, 0, 0, 1, [], []) := rfl
theorem k28_15 : az_cd 28 15 = some (23, .iload_n 2, 1, 0, 0, 0, [], []) := rfl
theorem k28_16 : az_cd 28 16 = some (24, .ishl, 1, 0, 0, 0, [], []) := rfl
theorem k28_17 : az_cd 28 17 = some (25, .ior, 1, 0, 0, 0, [], []) := rfl
theorem k28_18 : az_cd 28 18 = some (26, .istore_n 1, 1, 0, 0, 0, [], []) := rfl
theorem k28_19 : az_cd 28 19 = some (27, .iinc 2 1, 3, 0, 0, 1, [], []) := rfl
theorem k28_20 : az_cd 28 20 = some (30, .goto (-26), 3, 4, 0, 0, [], []) := rfl
theorem k28_21 : az_cd 28 21 = some (33, .iload_n 1, 1, 0, 0, 0, [], []) := rfl
theorem k28_22 : az_cd 28 22 = some (34, .ireturn, 1, 0, 0, 0, [], []) := rfl
theorem k29_0 : az_cd 29 0 = some (0, .aload_n 0, 1, 0, 0, 0, [], []) := rfl
theorem k29_1 : az_cd 29 1 = some (1, .invokevirtual 31, 3, 28, 0, 0, [], [716, 664, 45, 666, 665]) := rfl
theorem k29_2 : az_cd 29 2 = some (4, .invokestatic 35, 3, 194, 1, 0, [], [717, 718, 54, 719]) := rfl
theorem k29_3 : az_cd 29 3 = some (7, .ireturn, 1, 0, 0, 0, [], []) := rfl
theorem k30_0 : az_cd 30 0 = some (0, .aload_n 0, 1, 0, 0, 0, [], []) := rfl
theorem k30_1 : az_cd 30 1 = some (1, .aload_n 1, 1, 0, 0, 0, [], []) := rfl
theorem k30_2 : az_cd 30 2 = some (2, .getfield 15, 3, 2, 0, 0, [], [99]) := rfl
theorem k30_3 : az_cd 30 3 = some (5, .putfield 15, 3, 2, 0, 0, [], [99]) := rfl
theorem k30_4 : az_cd 30 4 = some (8, .aload_n 0, 1, 0, 0, 0, [], []) := rfl
theorem k30_5 : az_cd 30 5 = some (9, .aload_n 1, 1, 0, 0, 0, [], []) := rfl
theorem k30_6 : az_cd 30 6 = some (10, .getfield 19, 3, 2, 1, 0, [], [100]) := rfl
theorem k30_7 : az_cd 30 7 = some (13, .putfield 19, 3, 2, 1, 0, [], [100]) := rfl
theorem k30_8 : az_cd 30 8 = some (16, .aload_n 1, 1, 0, 0, 0, [], []) := rfl
theorem k30_9 : az_cd 30 9 = some (17, .getfield 9, 3, 2, 2, 0, [], [101]) := rfl
theorem k30_10 : az_cd 30 10 = some (20, .aload_n 0, 1, 0, 0, 0, [], []) := rfl
theorem k30_11 : az_cd 30 11 = some (21, .getfield 9, 3, 2, 2, 0, [], [101]) := rfl
theorem k30_12 : az_cd 30 12 = some (24, .invokestatic 41, 3, 125, 2, 1, [], [286, 280, 42, 281]) := rfl
theorem k30_13 : az_cd 30 13 = some (27, .return_, 1, 0, 0, 0, [], []) := rfl
theorem k31_0 : az_cd 31 0 = some (0, .aload_n 0, 1, 0, 0, 0, [], []) := rfl
theorem k31_1 : az_cd 31 1 = some (1, .invokespecial 3, 3, 196, 0, 2, [], [191, 61, 62]) := rfl
theorem k31_2 : az_cd 31 2 = some (4, .aload_n 0, 1, 0, 0, 0, [], []) := rfl
theorem k31_3 : az_cd 31 3 = some (5, .iconst 4, 1, 0, 0, 4, [], []) := rfl
theorem k31_4 : az_cd 31 4 = some (6, .anewarray 9, 3, 6, 4, 0, [], [192, 193]) := rfl
theorem k31_5 : az_cd 31 5 = some (9, .putfield 11, 3, 3, 0, 0, [], [195]) := rfl
theorem k31_6 : az_cd 31 6 = some (12, .aload_n 0, 1, 0, 0, 0, [], []) := rfl
theorem k31_7 : az_cd 31 7 = some (13, .iconst 0, 1, 0, 0, 0, [], []) := rfl
theorem k31_8 : az_cd 31 8 = some (14, .putfield 17, 3, 3, 1, 0, [], [196]) := rfl
theorem k31_9 : az_cd 31 9 = some (17, .aload_n 0, 1, 0, 0, 0, [], []) := rfl
theorem k31_10 : az_cd 31 10 = some (18, .iconst 0, 1, 0, 0, 0, [], []) := rfl
theorem k31_11 : az_cd 31 11 = some (19, .putfield 21, 3, 3, 2, 0, [], [197]) := rfl
theorem k31_12 : az_cd 31 12 = some (22, .iconst 0, 1, 0, 0, 0, [], []) := rfl
theorem k31_13 : az_cd 31 13 = some (23, .istore_n 1, 1, 0, 0, 0, [], []) := rfl
theorem k31_14 : az_cd 31 14 = some (24, .iload_n 1, 1, 0, 0, 0, [], []) := rfl
theorem k31_15 : az_cd 31 15 = some (25, .iconst 4, 1, 0, 0, 4, [], []) := rfl
theorem k31_16 : az_cd 31 16 = some (26, .if_icmp .ge 22, 3, 26, 0, 0, [], []) := rfl
theorem k31_17 : az_cd 31 17 = some (29, .aload_n 0, 1, 0, 0, 0, [], []) := rfl
theorem k31_18 : az_cd 31 18 = some (30, .getfield 11, 3, 3, 0, 0, [], [195]) := rfl
theorem k31_19 : az_cd 31 19 = some (33, .iload_n 1, 1, 0, 0, 0, [], []) := rfl
theorem k31_20 : az_cd 31 20 = some (34, .new 9, 3, 6, 9, 0, [], [192, 64, 43]) := rfl
theorem k31_21 : az_cd 31 21 = some (37, .dup, 1, 0, 0, 0, [], []) := rfl
theorem k31_22 : az_cd 31 22 = some (38, .invokespecial 24, 3, 59, 0, 0, [], [194, 66, 43, 67]) := rfl
theorem k31_23 : az_cd 31 23 = some (41, .aastore, 1, 0, 0, 0, [], []) := rfl
theorem k31_24 : az_cd 31 24 = some (42, .iinc 1 1, 3, 0, 0, 1, [], []) := rfl
theorem k31_25 : az_cd 31 25 = some (45, .goto (-21), 3, 14, 0, 0, [], []) := rfl
theorem k31_26 : az_cd 31 26 = some (48, .return_, 1, 0, 0, 0, [], []) := rfl
theorem k32_0 : az_cd 32 0 = some (0, .aload_n 0, 1, 0, 0, 0, [], []) := rfl
theorem k32_1 : az_cd 32 1 = some (1, .getfield 21, 3, 3, 2, 0, [], [197]) := rfl
theorem k32_2 : az_cd 32 2 = some (4, .ireturn, 1, 0, 0, 0, [], []) := rfl
theorem k33_0 : az_cd 33 0 = some (0, .aload_n 0, 1, 0, 0, 0, [], []) := rfl
theorem k33_1 : az_cd 33 1 = some (1, .getfield 11, 3, 3, 0, 0, [], [195]) := rfl
theorem k33_2 : az_cd 33 2 = some (4, .aload_n 0, 1, 0, 0, 0, [], []) := rfl
theorem k33_3 : az_cd 33 3 = some (5, .getfield 17, 3, 3, 1, 0, [], [196]) := rfl
theorem k33_4 : az_cd 33 4 = some (8, .aload_n 0, 1, 0, 0, 0, [], []) := rfl
theorem k33_5 : az_cd 33 5 = some (9, .getfield 21, 3, 3, 2, 0, [], [197]) := rfl
theorem k33_6 : az_cd 33 6 = some (12, .iadd, 1, 0, 0, 0, [], []) := rfl
theorem k33_7 : az_cd 33 7 = some (13, .iconst 4, 1, 0, 0, 4, [], []) := rfl
theorem k33_8 : az_cd 33 8 = some (14, .invokestatic 25, 3, 195, 2, 0, [], [268, 269, 52, 270]) := rfl
theorem k33_9 : az_cd 33 9 = some (17, .aaload, 1, 0, 0, 0, [], []) := rfl
theorem k33_10 : az_cd 33 10 = some (18, .aload_n 1, 1, 0, 0, 0, [], []) := rfl
theorem k33_11 : az_cd 33 11 = some (19, .invokevirtual 31, 3, 82, 1, 0, [], [271, 272, 43, 274, 273]) := rfl
theorem k33_12 : az_cd 33 12 = some (22, .aload_n 0, 1, 0, 0, 0, [], []) := rfl
theorem k33_13 : az_cd 33 13 = some (23, .getfield 21, 3, 3, 2, 0, [], [197]) := rfl
theorem k33_14 : az_cd 33 14 = some (26, .iconst 4, 1, 0, 0, 4, [], []) := rfl
theorem k33_15 : az_cd 33 15 = some (27, .if_icmp .ge 16, 3, 23, 0, 0, [], []) := rfl
theorem k33_16 : az_cd 33 16 = some (30, .aload_n 0, 1, 0, 0, 0, [], []) := rfl
theorem k33_17 : az_cd 33 17 = some (31, .dup, 1, 0, 0, 0, [], []) := rfl
theorem k33_18 : az_cd 33 18 = some (32, .getfield 21, 3, 3, 2, 0, [], [197]) := rfl
theorem k33_19 : az_cd 33 19 = some (35, .iconst 1, 1, 0, 0, 1, [], []) := rfl
theorem k33_20 : az_cd 33 20 = some (36, .iadd, 1, 0, 0, 0, [], []) := rfl
theorem k33_21 : az_cd 33 21 = some (37, .putfield 21, 3, 3, 2, 0, [], [197]) := rfl
theorem k33_22 : az_cd 33 22 = some (40, .goto 17, 3, 31, 0, 0, [], []) := rfl
theorem k33_23 : az_cd 33 23 = some (43, .aload_n 0, 1, 0, 0, 0, [], []) := rfl
theorem k33_24 : az_cd 33 24 = some (44, .aload_n 0, 1, 0, 0, 0, [], []) := rfl
theorem k33_25 : az_cd 33 25 = some (45, .getfield 17, 3, 3, 1, 0, [], [196]) := rfl
theorem k33_26 : az_cd 33 26 = some (48, .iconst 1, 1, 0, 0, 1, [], []) := rfl
theorem k33_27 : az_cd 33 27 = some (49, .iadd, 1, 0, 0, 0, [], []) := rfl
theorem k33_28 : az_cd 33 28 = some (50, .iconst 4, 1, 0, 0, 4, [], []) := rfl
theorem k33_29 : az_cd 33 29 = some (51, .invokestatic 25, 3, 195, 2, 0, [], [268, 269, 52, 270]) := rfl
theorem k33_30 : az_cd 33 30 = some (54, .putfield 17, 3, 3, 1, 0, [], [196]) := rfl
theorem k33_31 : az_cd 33 31 = some (57, .return_, 1, 0, 0, 0, [], []) := rfl
theorem k34_0 : az_cd 34 0 = some (0, .aload_n 0, 1, 0, 0, 0, [], []) := rfl
theorem k34_1 : az_cd 34 1 = some (1, .getfield 21, 3, 3, 2, 0, [], [197]) := rfl
theorem k34_2 : az_cd 34 2 = some (4, .ifCond .le 35, 3, 21, 0, 0, [], []) := rfl
theorem k34_3 : az_cd 34 3 = some (7, .aload_n 0, 1, 0, 0, 0, [], []) := rfl
theorem k34_4 : az_cd 34 4 = some (8, .dup, 1, 0, 0, 0, [], []) := rfl
theorem k34_5 : az_cd 34 5 = some (9, .getfield 21, 3, 3, 2, 0, [], [197]) := rfl
theorem k34_6 : az_cd 34 6 = some (12, .iconst 1, 1, 0, 0, 1, [], []) := rfl
theorem k34_7 : az_cd 34 7 = some (13, .isub, 1, 0, 0, 0, [], []) := rfl
theorem k34_8 : az_cd 34 8 = some (14, .putfield 21, 3, 3, 2, 0, [], [197]) := rfl
theorem k34_9 : az_cd 34 9 = some (17, .aload_n 1, 1, 0, 0, 0, [], []) := rfl
theorem k34_10 : az_cd 34 10 = some (18, .aload_n 0, 1, 0, 0, 0, [], []) := rfl
theorem k34_11 : az_cd 34 11 = some (19, .getfield 11, 3, 3, 0, 0, [], [195]) := rfl
theorem k34_12 : az_cd 34 12 = some (22, .aload_n 0, 1, 0, 0, 0, [], []) := rfl
theorem k34_13 : az_cd 34 13 = some (23, .getfield 17, 3, 3, 1, 0, [], [196]) := rfl
theorem k34_14 : az_cd 34 14 = some (26, .aload_n 0, 1, 0, 0, 0, [], []) := rfl
theorem k34_15 : az_cd 34 15 = some (27, .getfield 21, 3, 3, 2, 0, [], [197]) := rfl
theorem k34_16 : az_cd 34 16 = some (30, .iadd, 1, 0, 0, 0, [], []) := rfl
theorem k34_17 : az_cd 34 17 = some (31, .iconst 4, 1, 0, 0, 4, [], []) := rfl
theorem k34_18 : az_cd 34 18 = some (32, .invokestatic 25, 3, 195, 2, 0, [], [268, 269, 52, 270]) := rfl
theorem k34_19 : az_cd 34 19 = some (35, .aaload, 1, 0, 0, 0, [], []) := rfl
theorem k34_20 : az_cd 34 20 = some (36, .invokevirtual 31, 3, 82, 1, 0, [], [271, 272, 43, 274, 273]) := rfl
theorem k34_21 : az_cd 34 21 = some (39, .return_, 1, 0, 0, 0, [], []) := rfl
theorem k35_0 : az_cd 35 0 = some (0, .aload_n 0, 1, 0, 0, 0, [], []) := rfl
theorem k35_1 : az_cd 35 1 = some (1, .invokespecial 3, 3, 196, 0, 2, [], [210, 61, 62]) := rfl
theorem k35_2 : az_cd 35 2 = some (4, .aload_n 0, 1, 0, 0, 0, [], []) := rfl
theorem k35_3 : az_cd 35 3 = some (5, .bipush 60, 2, 0, 0, 60, [], []) := rfl
theorem k35_4 : az_cd 35 4 = some (7, .newarray .char, 2, 0, 1, 0, [], [227]) := rfl
theorem k35_5 : az_cd 35 5 = some (9, .putfield 9, 3, 4, 0, 0, [], [211]) := rfl
theorem k35_6 : az_cd 35 6 = some (12, .aload_n 0, 1, 0, 0, 0, [], []) := rfl
theorem k35_7 : az_cd 35 7 = some (13, .bipush 20, 2, 0, 0, 20, [], []) := rfl
theorem k35_8 : az_cd 35 8 = some (15, .newarray .int, 2, 0, 0, 0, [], [91]) := rfl
theorem k35_9 : az_cd 35 9 = some (17, .putfield 15, 3, 4, 2, 0, [], [213]) := rfl
theorem k35_10 : az_cd 35 10 = some (20, .aload_n 0, 1, 0, 0, 0, [], []) := rfl
theorem k35_11 : az_cd 35 11 = some (21, .bipush 20, 2, 0, 0, 20, [], []) := rfl
theorem k35_12 : az_cd 35 12 = some (23, .newarray .int, 2, 0, 0, 0, [], [91]) := rfl
theorem k35_13 : az_cd 35 13 = some (25, .putfield 19, 3, 4, 3, 0, [], [214]) := rfl
theorem k35_14 : az_cd 35 14 = some (28, .aload_n 0, 1, 0, 0, 0, [], []) := rfl
theorem k35_15 : az_cd 35 15 = some (29, .iconst 0, 1, 0, 0, 0, [], []) := rfl
theorem k35_16 : az_cd 35 16 = some (30, .putfield 22, 3, 4, 1, 0, [], [212]) := rfl
theorem k35_17 : az_cd 35 17 = some (33, .aload_n 0, 1, 0, 0, 0, [], []) := rfl
theorem k35_18 : az_cd 35 18 = some (34, .iconst 0, 1, 0, 0, 0, [], []) := rfl
theorem k35_19 : az_cd 35 19 = some (35, .putfield 26, 3, 4, 4, 0, [], [215]) := rfl
theorem k35_20 : az_cd 35 20 = some (38, .return_, 1, 0, 0, 0, [], []) := rfl
theorem k36_0 : az_cd 36 0 = some (0, .aload_n 0, 1, 0, 0, 0, [], []) := rfl
theorem k36_1 : az_cd 36 1 = some (1, .getfield 22, 3, 4, 1, 0, [], [212]) := rfl
theorem k36_2 : az_cd 36 2 = some (4, .ireturn, 1, 0, 0, 0, [], []) := rfl
theorem k37_0 : az_cd 37 0 = some (0, .aload_n 0, 1, 0, 0, 0, [], []) := rfl
theorem k37_1 : az_cd 37 1 = some (1, .getfield 22, 3, 4, 1, 0, [], [212]) := rfl
theorem k37_2 : az_cd 37 2 = some (4, .bipush 60, 2, 0, 0, 60, [], []) := rfl
theorem k37_3 : az_cd 37 3 = some (6, .if_icmp .lt 7, 3, 6, 0, 0, [], []) := rfl
theorem k37_4 : az_cd 37 4 = some (9, .iconst 1, 1, 0, 0, 1, [], []) := rfl
theorem k37_5 : az_cd 37 5 = some (10, .goto 4, 3, 7, 0, 0, [], []) := rfl
theorem k37_6 : az_cd 37 6 = some (13, .iconst 0, 1, 0, 0, 0, [], []) := rfl
theorem k37_7 : az_cd 37 7 = some (14, .ireturn, 1, 0, 0, 0, [], []) := rfl
theorem k38_0 : az_cd 38 0 = some (0, .aload_n 0, 1, 0, 0, 0, [], []) := rfl
theorem k38_1 : az_cd 38 1 = some (1, .getfield 22, 3, 4, 1, 0, [], [212]) := rfl
theorem k38_2 : az_cd 38 2 = some (4, .ifCond .lt 32, 3, 19, 0, 0, [], []) := rfl
theorem k38_3 : az_cd 38 3 = some (7, .aload_n 0, 1, 0, 0, 0, [], []) := rfl
theorem k38_4 : az_cd 38 4 = some (8, .getfield 22, 3, 4, 1, 0, [], [212]) := rfl
theorem k38_5 : az_cd 38 5 = some (11, .bipush 60, 2, 0, 0, 60, [], []) := rfl
theorem k38_6 : az_cd 38 6 = some (13, .if_icmp .ge 23, 3, 19, 0, 0, [], []) := rfl
theorem k38_7 : az_cd 38 7 = some (16, .aload_n 0, 1, 0, 0, 0, [], []) := rfl
theorem k38_8 : az_cd 38 8 = some (17, .getfield 9, 3, 4, 0, 0, [], [211]) := rfl
theorem k38_9 : az_cd 38 9 = some (20, .aload_n 0, 1, 0, 0, 0, [], []) := rfl
theorem k38_10 : az_cd 38 10 = some (21, .getfield 22, 3, 4, 1, 0, [], [212]) := rfl
theorem k38_11 : az_cd 38 11 = some (24, .iload_n 1, 1, 0, 0, 0, [], []) := rfl
theorem k38_12 : az_cd 38 12 = some (25, .castore, 1, 0, 0, 0, [], []) := rfl
theorem k38_13 : az_cd 38 13 = some (26, .aload_n 0, 1, 0, 0, 0, [], []) := rfl
theorem k38_14 : az_cd 38 14 = some (27, .dup, 1, 0, 0, 0, [], []) := rfl
theorem k38_15 : az_cd 38 15 = some (28, .getfield 22, 3, 4, 1, 0, [], [212]) := rfl
theorem k38_16 : az_cd 38 16 = some (31, .iconst 1, 1, 0, 0, 1, [], []) := rfl
theorem k38_17 : az_cd 38 17 = some (32, .iadd, 1, 0, 0, 0, [], []) := rfl
theorem k38_18 : az_cd 38 18 = some (33, .putfield 22, 3, 4, 1, 0, [], [212]) := rfl
theorem k38_19 : az_cd 38 19 = some (36, .return_, 1, 0, 0, 0, [], []) := rfl
theorem k39_0 : az_cd 39 0 = some (0, .aload_n 0, 1, 0, 0, 0, [], []) := rfl
theorem k39_1 : az_cd 39 1 = some (1, .iconst 0, 1, 0, 0, 0, [], []) := rfl
theorem k39_2 : az_cd 39 2 = some (2, .putfield 22, 3, 4, 1, 0, [], [212]) := rfl
theorem k39_3 : az_cd 39 3 = some (5, .return_, 1, 0, 0, 0, [], []) := rfl
theorem k40_0 : az_cd 40 0 = some (0, .aload_n 0, 1, 0, 0, 0, [], []) := rfl
theorem k40_1 : az_cd 40 1 = some (1, .getfield 26, 3, 4, 4, 0, [], [215]) := rfl
theorem k40_2 : az_cd 40 2 = some (4, .ireturn, 1, 0, 0, 0, [], []) := rfl
theorem k41_0 : az_cd 41 0 = some (0, .iload_n 1, 1, 0, 0, 0, [], []) := rfl
theorem k41_1 : az_cd 41 1 = some (1, .ifCond .lt 18, 3, 10, 0, 0, [], []) := rfl
theorem k41_2 : az_cd 41 2 = some (4, .iload_n 1, 1, 0, 0, 0, [], []) := rfl
theorem k41_3 : az_cd 41 3 = some (5, .bipush 20, 2, 0, 0, 20, [], []) := rfl
theorem k41_4 : az_cd 41 4 = some (7, .if_icmp .ge 12, 3, 10, 0, 0, [], []) := rfl
theorem k41_5 : az_cd 41 5 = some (10, .aload_n 0, 1, 0, 0, 0, [], []) := rfl
theorem k41_6 : az_cd 41 6 = some (11, .getfield 15, 3, 4, 2, 0, [], [213]) := rfl
theorem k41_7 : az_cd 41 7 = some (14, .iload_n 1, 1, 0, 0, 0, [], []) := rfl
theorem k41_8 : az_cd 41 8 = some (15, .iaload, 1, 0, 0, 0, [], []) := rfl
theorem k41_9 : az_cd 41 9 = some (16, .goto 5, 3, 11, 0, 0, [], []) := rfl
theorem k41_10 : az_cd 41 10 = some (19, .bipush (-5), 2, 0, 0, (-5), [], []) := rfl
theorem k41_11 : az_cd 41 11 = some (21, .ireturn, 1, 0, 0, 0, [], []) := rfl
theorem k42_0 : az_cd 42 0 = some (0, .iload_n 1, 1, 0, 0, 0, [], []) := rfl
theorem k42_1 : az_cd 42 1 = some (1, .ifCond .lt 18, 3, 10, 0, 0, [], []) := rfl
theorem k42_2 : az_cd 42 2 = some (4, .iload_n 1, 1, 0, 0, 0, [], []) := rfl
theorem k42_3 : az_cd 42 3 = some (5, .bipush 20, 2, 0, 0, 20, [], []) := rfl
theorem k42_4 : az_cd 42 4 = some (7, .if_icmp .ge 12, 3, 10, 0, 0, [], []) := rfl
theorem k42_5 : az_cd 42 5 = some (10, .aload_n 0, 1, 0, 0, 0, [], []) := rfl
theorem k42_6 : az_cd 42 6 = some (11, .getfield 19, 3, 4, 3, 0, [], [214]) := rfl
theorem k42_7 : az_cd 42 7 = some (14, .iload_n 1, 1, 0, 0, 0, [], []) := rfl
theorem k42_8 : az_cd 42 8 = some (15, .iaload, 1, 0, 0, 0, [], []) := rfl
theorem k42_9 : az_cd 42 9 = some (16, .goto 4, 3, 11, 0, 0, [], []) := rfl
theorem k42_10 : az_cd 42 10 = some (19, .iconst (-1), 1, 0, 0, (-1), [], []) := rfl
theorem k42_11 : az_cd 42 11 = some (20, .ireturn, 1, 0, 0, 0, [], []) := rfl
theorem k43_0 : az_cd 43 0 = some (0, .aload_n 0, 1, 0, 0, 0, [], []) := rfl
theorem k43_1 : az_cd 43 1 = some (1, .iconst 0, 1, 0, 0, 0, [], []) := rfl
theorem k43_2 : az_cd 43 2 = some (2, .putfield 26, 3, 4, 4, 0, [], [215]) := rfl
theorem k43_3 : az_cd 43 3 = some (5, .iconst 0, 1, 0, 0, 0, [], []) := rfl
theorem k43_4 : az_cd 43 4 = some (6, .istore_n 1, 1, 0, 0, 0, [], []) := rfl
theorem k43_5 : az_cd 43 5 = some (7, .iconst 0, 1, 0, 0, 0, [], []) := rfl
theorem k43_6 : az_cd 43 6 = some (8, .istore_n 2, 1, 0, 0, 0, [], []) := rfl
theorem k43_7 : az_cd 43 7 = some (9, .iload_n 2, 1, 0, 0, 0, [], []) := rfl
theorem k43_8 : az_cd 43 8 = some (10, .aload_n 0, 1, 0, 0, 0, [], []) := rfl
theorem k43_9 : az_cd 43 9 = some (11, .getfield 22, 3, 4, 1, 0, [], [212]) := rfl
theorem k43_10 : az_cd 43 10 = some (14, .if_icmp .ge 47, 3, 37, 0, 0, [], []) := rfl
theorem k43_11 : az_cd 43 11 = some (17, .iload_n 2, 1, 0, 0, 0, [], []) := rfl
theorem k43_12 : az_cd 43 12 = some (18, .bipush 60, 2, 0, 0, 60, [], []) := rfl
theorem k43_13 : az_cd 43 13 = some (20, .if_icmp .ge 41, 3, 37, 0, 0, [], []) := rfl
theorem k43_14 : az_cd 43 14 = some (23, .iload_n 1, 1, 0, 0, 0, [], []) := rfl
theorem k43_15 : az_cd 43 15 = some (24, .aload_n 0, 1, 0, 0, 0, [], []) := rfl
theorem k43_16 : az_cd 43 16 = some (25, .getfield 9, 3, 4, 0, 0, [], [211]) := rfl
theorem k43_17 : az_cd 43 17 = some (28, .iload_n 2, 1, 0, 0, 0, [], []) := rfl
theorem k43_18 : az_cd 43 18 = some (29, .caload, 1, 0, 0, 0, [], []) := rfl
theorem k43_19 : az_cd 43 19 = some (30, .invokestatic 31, 3, 44, 2, 0, [], [322, 323, 50, 324]) := rfl
theorem k43_20 : az_cd 43 20 = some (33, .istore_n 3, 1, 0, 0, 0, [], []) := rfl
theorem k43_21 : az_cd 43 21 = some (34, .iload_n 3, 1, 0, 0, 0, [], []) := rfl
theorem k43_22 : az_cd 43 22 = some (35, .bipush 6, 2, 0, 0, 6, [], []) := rfl
theorem k43_23 : az_cd 43 23 = some (37, .if_icmp .ne 5, 3, 26, 0, 0, [], []) := rfl
theorem k43_24 : az_cd 43 24 = some (40, .iload_n 2, 1, 0, 0, 0, [], []) := rfl
theorem k43_25 : az_cd 43 25 = some (41, .ireturn, 1, 0, 0, 0, [], []) := rfl
theorem k43_26 : az_cd 43 26 = some (42, .aload_n 0, 1, 0, 0, 0, [], []) := rfl
theorem k43_27 : az_cd 43 27 = some (43, .iload_n 1, 1, 0, 0, 0, [], []) := rfl
theorem k43_28 : az_cd 43 28 = some (44, .aload_n 0, 1, 0, 0, 0, [], []) := rfl
theorem k43_29 : az_cd 43 29 = some (45, .getfield 9, 3, 4, 0, 0, [], [211]) := rfl
theorem k43_30 : az_cd 43 30 = some (48, .iload_n 2, 1, 0, 0, 0, [], []) := rfl
theorem k43_31 : az_cd 43 31 = some (49, .caload, 1, 0, 0, 0, [], []) := rfl
theorem k43_32 : az_cd 43 32 = some (50, .invokevirtual 35, 3, 45, 2, 0, [], [325, 327, 50, 328, 1]) := rfl
theorem k43_33 : az_cd 43 33 = some (53, .iload_n 3, 1, 0, 0, 0, [], []) := rfl
theorem k43_34 : az_cd 43 34 = some (54, .istore_n 1, 1, 0, 0, 0, [], []) := rfl
theorem k43_35 : az_cd 43 35 = some (55, .iinc 2 1, 3, 0, 0, 1, [], []) := rfl
theorem k43_36 : az_cd 43 36 = some (58, .goto (-49), 3, 7, 0, 0, [], []) := rfl
theorem k43_37 : az_cd 43 37 = some (61, .iload_n 1, 1, 0, 0, 0, [], []) := rfl
theorem k43_38 : az_cd 43 38 = some (62, .iconst 3, 1, 0, 0, 3, [], []) := rfl
theorem k43_39 : az_cd 43 39 = some (63, .if_icmp .eq 13, 3, 46, 0, 0, [], []) := rfl
theorem k43_40 : az_cd 43 40 = some (66, .iload_n 1, 1, 0, 0, 0, [], []) := rfl
theorem k43_41 : az_cd 43 41 = some (67, .iconst 4, 1, 0, 0, 4, [], []) := rfl
theorem k43_42 : az_cd 43 42 = some (68, .if_icmp .eq 8, 3, 46, 0, 0, [], []) := rfl
theorem k43_43 : az_cd 43 43 = some (71, .iload_n 1, 1, 0, 0, 0, [], []) := rfl
theorem k43_44 : az_cd 43 44 = some (72, .iconst 5, 1, 0, 0, 5, [], []) := rfl
theorem k43_45 : az_cd 43 45 = some (73, .if_icmp .ne 7, 3, 48, 0, 0, [], []) := rfl
theorem k43_46 : az_cd 43 46 = some (76, .iconst (-1), 1, 0, 0, (-1), [], []) := rfl
theorem k43_47 : az_cd 43 47 = some (77, .goto 7, 3, 50, 0, 0, [], []) := rfl
theorem k43_48 : az_cd 43 48 = some (80, .aload_n 0, 1, 0, 0, 0, [], []) := rfl
theorem k43_49 : az_cd 43 49 = some (81, .getfield 22, 3, 4, 1, 0, [], [212]) := rfl
theorem k43_50 : az_cd 43 50 = some (84, .ireturn, 1, 0, 0, 0, [], []) := rfl
theorem k44_0 : az_cd 44 0 = some (0, .iload_n 1, 1, 0, 0, 0, [], []) := rfl
theorem k44_1 : az_cd 44 1 = some (1, .bipush 48, 2, 0, 0, 48, [], []) := rfl
theorem k44_2 : az_cd 44 2 = some (3, .if_icmp .lt 13, 3, 8, 0, 0, [], []) := rfl
theorem k44_3 : az_cd 44 3 = some (6, .iload_n 1, 1, 0, 0, 0, [], []) := rfl
theorem k44_4 : az_cd 44 4 = some (7, .bipush 57, 2, 0, 0, 57, [], []) := rfl
theorem k44_5 : az_cd 44 5 = some (9, .if_icmp .gt 7, 3, 8, 0, 0, [], []) := rfl
theorem k44_6 : az_cd 44 6 = some (12, .iconst 1, 1, 0, 0, 1, [], []) := rfl
theorem k44_7 : az_cd 44 7 = some (13, .goto 4, 3, 9, 0, 0, [], []) := rfl
theorem k44_8 : az_cd 44 8 = some (16, .iconst 0, 1, 0, 0, 0, [], []) := rfl
theorem k44_9 : az_cd 44 9 = some (17, .istore_n 2, 1, 0, 0, 0, [], []) := rfl
theorem k44_10 : az_cd 44 10 = some (18, .iload_n 0, 1, 0, 0, 0, [], []) := rfl
theorem k44_11 : az_cd 44 11 = some (19, .tableswitch 138 0 4 #[33, 52, 75, 96, 117], 33, 67, 0, 0, [12, 22, 34, 45, 56], []) := rfl
theorem k44_12 : az_cd 44 12 = some (52, .iload_n 1, 1, 0, 0, 0, [], []) := rfl
theorem k44_13 : az_cd 44 13 = some (53, .bipush 48, 2, 0, 0, 48, [], []) := rfl
theorem k44_14 : az_cd 44 14 = some (55, .if_icmp .lt 13, 3, 20, 0, 0, [], []) := rfl
theorem k44_15 : az_cd 44 15 = some (58, .iload_n 1, 1, 0, 0, 0, [], []) := rfl
theorem k44_16 : az_cd 44 16 = some (59, .bipush 55, 2, 0, 0, 55, [], []) := rfl
theorem k44_17 : az_cd 44 17 = some (61, .if_icmp .gt 7, 3, 20, 0, 0, [], []) := rfl
theorem k44_18 : az_cd 44 18 = some (64, .iconst 1, 1, 0, 0, 1, [], []) := rfl
theorem k44_19 : az_cd 44 19 = some (65, .goto 5, 3, 21, 0, 0, [], []) := rfl
theorem k44_20 : az_cd 44 20 = some (68, .bipush 6, 2, 0, 0, 6, [], []) := rfl
theorem k44_21 : az_cd 44 21 = some (70, .ireturn, 1, 0, 0, 0, [], []) := rfl
theorem k44_22 : az_cd 44 22 = some (71, .iload_n 1, 1, 0, 0, 0, [], []) := rfl
theorem k44_23 : az_cd 44 23 = some (72, .bipush 61, 2, 0, 0, 61, [], []) := rfl
theorem k44_24 : az_cd 44 24 = some (74, .if_icmp .ne 7, 3, 27, 0, 0, [], []) := rfl
theorem k44_25 : az_cd 44 25 = some (77, .iconst 2, 1, 0, 0, 2, [], []) := rfl
theorem k44_26 : az_cd 44 26 = some (78, .goto 15, 3, 33, 0, 0, [], []) := rfl
theorem k44_27 : az_cd 44 27 = some (81, .iload_n 1, 1, 0, 0, 0, [], []) := rfl
theorem k44_28 : az_cd 44 28 = some (82, .bipush 45, 2, 0, 0, 45, [], []) := rfl
theorem k44_29 : az_cd 44 29 = some (84, .if_icmp .ne 7, 3, 32, 0, 0, [], []) := rfl
theorem k44_30 : az_cd 44 30 = some (87, .iconst 5, 1, 0, 0, 5, [], []) := rfl
theorem k44_31 : az_cd 44 31 = some (88, .goto 5, 3, 33, 0, 0, [], []) := rfl
theorem k44_32 : az_cd 44 32 = some (91, .bipush 6, 2, 0, 0, 6, [], []) := rfl
theorem k44_33 : az_cd 44 33 = some (93, .ireturn, 1, 0, 0, 0, [], []) := rfl
theorem k44_34 : az_cd 44 34 = some (94, .iload_n 1, 1, 0, 0, 0, [], []) := rfl
theorem k44_35 : az_cd 44 35 = some (95, .bipush 48, 2, 0, 0, 48, [], []) := rfl
theorem k44_36 : az_cd 44 36 = some (97, .if_icmp .ne 7, 3, 39, 0, 0, [], []) := rfl
theorem k44_37 : az_cd 44 37 = some (100, .iconst 5, 1, 0, 0, 5, [], []) := rfl
theorem k44_38 : az_cd 44 38 = some (101, .goto 13, 3, 44, 0, 0, [], []) := rfl
theorem k44_39 : az_cd 44 39 = some (104, .iload_n 2, 1, 0, 0, 0, [], []) := rfl
theorem k44_40 : az_cd 44 40 = some (105, .ifCond .eq 7, 3, 43, 0, 0, [], []) := rfl
theorem k44_41 : az_cd 44 41 = some (108, .iconst 3, 1, 0, 0, 3, [], []) := rfl
theorem k44_42 : az_cd 44 42 = some (109, .goto 5, 3, 44, 0, 0, [], []) := rfl
theorem k44_43 : az_cd 44 43 = some (112, .bipush 6, 2, 0, 0, 6, [], []) := rfl
theorem k44_44 : az_cd 44 44 = some (114, .ireturn, 1, 0, 0, 0, [], []) := rfl
theorem k44_45 : az_cd 44 45 = some (115, .iload_n 2, 1, 0, 0, 0, [], []) := rfl
theorem k44_46 : az_cd 44 46 = some (116, .ifCond .eq 7, 3, 49, 0, 0, [], []) := rfl
theorem k44_47 : az_cd 44 47 = some (119, .iconst 4, 1, 0, 0, 4, [], []) := rfl
theorem k44_48 : az_cd 44 48 = some (120, .goto 15, 3, 55, 0, 0, [], []) := rfl
theorem k44_49 : az_cd 44 49 = some (123, .iload_n 1, 1, 0, 0, 0, [], []) := rfl
theorem k44_50 : az_cd 44 50 = some (124, .bipush 44, 2, 0, 0, 44, [], []) := rfl
theorem k44_51 : az_cd 44 51 = some (126, .if_icmp .ne 7, 3, 54, 0, 0, [], []) := rfl
theorem k44_52 : az_cd 44 52 = some (129, .iconst 0, 1, 0, 0, 0, [], []) := rfl
theorem k44_53 : az_cd 44 53 = some (130, .goto 5, 3, 55, 0, 0, [], []) := rfl
theorem k44_54 : az_cd 44 54 = some (133, .bipush 6, 2, 0, 0, 6, [], []) := rfl
theorem k44_55 : az_cd 44 55 = some (135, .ireturn, 1, 0, 0, 0, [], []) := rfl
theorem k44_56 : az_cd 44 56 = some (136, .iload_n 2, 1, 0, 0, 0, [], []) := rfl
theorem k44_57 : az_cd 44 57 = some (137, .ifCond .eq 7, 3, 60, 0, 0, [], []) := rfl
theorem k44_58 : az_cd 44 58 = some (140, .iconst 5, 1, 0, 0, 5, [], []) := rfl
theorem k44_59 : az_cd 44 59 = some (141, .goto 15, 3, 66, 0, 0, [], []) := rfl
theorem k44_60 : az_cd 44 60 = some (144, .iload_n 1, 1, 0, 0, 0, [], []) := rfl
theorem k44_61 : az_cd 44 61 = some (145, .bipush 44, 2, 0, 0, 44, [], []) := rfl
theorem k44_62 : az_cd 44 62 = some (147, .if_icmp .ne 7, 3, 65, 0, 0, [], []) := rfl
theorem k44_63 : az_cd 44 63 = some (150, .iconst 0, 1, 0, 0, 0, [], []) := rfl
theorem k44_64 : az_cd 44 64 = some (151, .goto 5, 3, 66, 0, 0, [], []) := rfl
theorem k44_65 : az_cd 44 65 = some (154, .bipush 6, 2, 0, 0, 6, [], []) := rfl
theorem k44_66 : az_cd 44 66 = some (156, .ireturn, 1, 0, 0, 0, [], []) := rfl
theorem k44_67 : az_cd 44 67 = some (157, .iload_n 1, 1, 0, 0, 0, [], []) := rfl
theorem k44_68 : az_cd 44 68 = some (158, .bipush 44, 2, 0, 0, 44, [], []) := rfl
theorem k44_69 : az_cd 44 69 = some (160, .if_icmp .ne 7, 3, 72, 0, 0, [], []) := rfl
theorem k44_70 : az_cd 44 70 = some (163, .iconst 0, 1, 0, 0, 0, [], []) := rfl
theorem k44_71 : az_cd 44 71 = some (164, .goto 5, 3, 73, 0, 0, [], []) := rfl
theorem k44_72 : az_cd 44 72 = some (167, .bipush 6, 2, 0, 0, 6, [], []) := rfl
theorem k44_73 : az_cd 44 73 = some (169, .ireturn, 1, 0, 0, 0, [], []) := rfl
theorem k45_0 : az_cd 45 0 = some (0, .iload_n 1, 1, 0, 0, 0, [], []) := rfl
theorem k45_1 : az_cd 45 1 = some (1, .ifCond .ne 14, 3, 8, 0, 0, [], []) := rfl
theorem k45_2 : az_cd 45 2 = some (4, .aload_n 0, 1, 0, 0, 0, [], []) := rfl
theorem k45_3 : az_cd 45 3 = some (5, .iload_n 2, 1, 0, 0, 0, [], []) := rfl
theorem k45_4 : az_cd 45 4 = some (6, .bipush 48, 2, 0, 0, 48, [], []) := rfl
theorem k45_5 : az_cd 45 5 = some (8, .isub, 1, 0, 0, 0, [], []) := rfl
theorem k45_6 : az_cd 45 6 = some (9, .invokevirtual 39, 3, 46, 1, 0, [], [329, 331, 50, 332, 2]) := rfl
theorem k45_7 : az_cd 45 7 = some (12, .goto 23, 3, 19, 0, 0, [], []) := rfl
theorem k45_8 : az_cd 45 8 = some (15, .iload_n 2, 1, 0, 0, 0, [], []) := rfl
theorem k45_9 : az_cd 45 9 = some (16, .bipush 48, 2, 0, 0, 48, [], []) := rfl
theorem k45_10 : az_cd 45 10 = some (18, .if_icmp .lt 17, 3, 19, 0, 0, [], []) := rfl
theorem k45_11 : az_cd 45 11 = some (21, .iload_n 2, 1, 0, 0, 0, [], []) := rfl
theorem k45_12 : az_cd 45 12 = some (22, .bipush 57, 2, 0, 0, 57, [], []) := rfl
theorem k45_13 : az_cd 45 13 = some (24, .if_icmp .gt 11, 3, 19, 0, 0, [], []) := rfl
theorem k45_14 : az_cd 45 14 = some (27, .aload_n 0, 1, 0, 0, 0, [], []) := rfl
theorem k45_15 : az_cd 45 15 = some (28, .iload_n 2, 1, 0, 0, 0, [], []) := rfl
theorem k45_16 : az_cd 45 16 = some (29, .bipush 48, 2, 0, 0, 48, [], []) := rfl
theorem k45_17 : az_cd 45 17 = some (31, .isub, 1, 0, 0, 0, [], []) := rfl
theorem k45_18 : az_cd 45 18 = some (32, .invokevirtual 43, 3, 47, 1, 0, [], [333, 335, 50, 336, 3]) := rfl
theorem k45_19 : az_cd 45 19 = some (35, .return_, 1, 0, 0, 0, [], []) := rfl
theorem k46_0 : az_cd 46 0 = some (0, .aload_n 0, 1, 0, 0, 0, [], []) := rfl
theorem k46_1 : az_cd 46 1 = some (1, .getfield 26, 3, 4, 4, 0, [], [215]) := rfl
theorem k46_2 : az_cd 46 2 = some (4, .ifCond .lt 43, 3, 25, 0, 0, [], []) := rfl
theorem k46_3 : az_cd 46 3 = some (7, .aload_n 0, 1, 0, 0, 0, [], []) := rfl
theorem k46_4 : az_cd 46 4 = some (8, .getfield 26, 3, 4, 4, 0, [], [215]) := rfl
theorem k46_5 : az_cd 46 5 = some (11, .bipush 20, 2, 0, 0, 20, [], []) := rfl
theorem k46_6 : az_cd 46 6 = some (13, .if_icmp .ge 34, 3, 25, 0, 0, [], []) := rfl
theorem k46_7 : az_cd 46 7 = some (16, .aload_n 0, 1, 0, 0, 0, [], []) := rfl
theorem k46_8 : az_cd 46 8 = some (17, .getfield 15, 3, 4, 2, 0, [], [213]) := rfl
theorem k46_9 : az_cd 46 9 = some (20, .aload_n 0, 1, 0, 0, 0, [], []) := rfl
theorem k46_10 : az_cd 46 10 = some (21, .getfield 26, 3, 4, 4, 0, [], [215]) := rfl
theorem k46_11 : az_cd 46 11 = some (24, .iload_n 1, 1, 0, 0, 0, [], []) := rfl
theorem k46_12 : az_cd 46 12 = some (25, .iastore, 1, 0, 0, 0, [], []) := rfl
theorem k46_13 : az_cd 46 13 = some (26, .aload_n 0, 1, 0, 0, 0, [], []) := rfl
theorem k46_14 : az_cd 46 14 = some (27, .getfield 19, 3, 4, 3, 0, [], [214]) := rfl
theorem k46_15 : az_cd 46 15 = some (30, .aload_n 0, 1, 0, 0, 0, [], []) := rfl
theorem k46_16 : az_cd 46 16 = some (31, .getfield 26, 3, 4, 4, 0, [], [215]) := rfl
theorem k46_17 : az_cd 46 17 = some (34, .bipush (-5), 2, 0, 0, (-5), [], []) := rfl
theorem k46_18 : az_cd 46 18 = some (36, .iastore, 1, 0, 0, 0, [], []) := rfl
theorem k46_19 : az_cd 46 19 = some (37, .aload_n 0, 1, 0, 0, 0, [], []) := rfl
theorem k46_20 : az_cd 46 20 = some (38, .dup, 1, 0, 0, 0, [], []) := rfl
theorem k46_21 : az_cd 46 21 = some (39, .getfield 26, 3, 4, 4, 0, [], [215]) := rfl
theorem k46_22 : az_cd 46 22 = some (42, .iconst 1, 1, 0, 0, 1, [], []) := rfl
theorem k46_23 : az_cd 46 23 = some (43, .iadd, 1, 0, 0, 0, [], []) := rfl
theorem k46_24 : az_cd 46 24 = some (44, .putfield 26, 3, 4, 4, 0, [], [215]) := rfl
theorem k46_25 : az_cd 46 25 = some (47, .return_, 1, 0, 0, 0, [], []) := rfl
theorem k47_0 : az_cd 47 0 = some (0, .aload_n 0, 1, 0, 0, 0, [], []) := rfl
theorem k47_1 : az_cd 47 1 = some (1, .getfield 26, 3, 4, 4, 0, [], [215]) := rfl
theorem k47_2 : az_cd 47 2 = some (4, .iconst 1, 1, 0, 0, 1, [], []) := rfl
theorem k47_3 : az_cd 47 3 = some (5, .isub, 1, 0, 0, 0, [], []) := rfl
theorem k47_4 : az_cd 47 4 = some (6, .istore_n 2, 1, 0, 0, 0, [], []) := rfl
theorem k47_5 : az_cd 47 5 = some (7, .iload_n 2, 1, 0, 0, 0, [], []) := rfl
theorem k47_6 : az_cd 47 6 = some (8, .ifCond .lt 41, 3, 30, 0, 0, [], []) := rfl
theorem k47_7 : az_cd 47 7 = some (11, .iload_n 2, 1, 0, 0, 0, [], []) := rfl
theorem k47_8 : az_cd 47 8 = some (12, .bipush 20, 2, 0, 0, 20, [], []) := rfl
theorem k47_9 : az_cd 47 9 = some (14, .if_icmp .ge 35, 3, 30, 0, 0, [], []) := rfl
theorem k47_10 : az_cd 47 10 = some (17, .aload_n 0, 1, 0, 0, 0, [], []) := rfl
theorem k47_11 : az_cd 47 11 = some (18, .getfield 19, 3, 4, 3, 0, [], [214]) := rfl
theorem k47_12 : az_cd 47 12 = some (21, .iload_n 2, 1, 0, 0, 0, [], []) := rfl
theorem k47_13 : az_cd 47 13 = some (22, .aload_n 0, 1, 0, 0, 0, [], []) := rfl
theorem k47_14 : az_cd 47 14 = some (23, .getfield 19, 3, 4, 3, 0, [], [214]) := rfl
theorem k47_15 : az_cd 47 15 = some (26, .iload_n 2, 1, 0, 0, 0, [], []) := rfl
theorem k47_16 : az_cd 47 16 = some (27, .iaload, 1, 0, 0, 0, [], []) := rfl
theorem k47_17 : az_cd 47 17 = some (28, .bipush (-5), 2, 0, 0, (-5), [], []) := rfl
theorem k47_18 : az_cd 47 18 = some (30, .if_icmp .ne 7, 3, 21, 0, 0, [], []) := rfl
theorem k47_19 : az_cd 47 19 = some (33, .iload_n 1, 1, 0, 0, 0, [], []) := rfl
theorem k47_20 : az_cd 47 20 = some (34, .goto 14, 3, 29, 0, 0, [], []) := rfl
theorem k47_21 : az_cd 47 21 = some (37, .aload_n 0, 1, 0, 0, 0, [], []) := rfl
theorem k47_22 : az_cd 47 22 = some (38, .getfield 19, 3, 4, 3, 0, [], [214]) := rfl
theorem k47_23 : az_cd 47 23 = some (41, .iload_n 2, 1, 0, 0, 0, [], []) := rfl
theorem k47_24 : az_cd 47 24 = some (42, .iaload, 1, 0, 0, 0, [], []) := rfl
theorem k47_25 : az_cd 47 25 = some (43, .bipush 10, 2, 0, 0, 10, [], []) := rfl
theorem k47_26 : az_cd 47 26 = some (45, .imul, 1, 0, 0, 0, [], []) := rfl
theorem k47_27 : az_cd 47 27 = some (46, .iload_n 1, 1, 0, 0, 0, [], []) := rfl
theorem k47_28 : az_cd 47 28 = some (47, .iadd, 1, 0, 0, 0, [], []) := rfl
theorem k47_29 : az_cd 47 29 = some (48, .iastore, 1, 0, 0, 0, [], []) := rfl
theorem k47_30 : az_cd 47 30 = some (49, .return_, 1, 0, 0, 0, [], []) := rfl
theorem k48_0 : az_cd 48 0 = some (0, .aload_n 0, 1, 0, 0, 0, [], []) := rfl
theorem k48_1 : az_cd 48 1 = some (1, .invokespecial 3, 3, 196, 0, 2, [], [142, 61, 62]) := rfl
theorem k48_2 : az_cd 48 2 = some (4, .aload_n 0, 1, 0, 0, 0, [], []) := rfl
theorem k48_3 : az_cd 48 3 = some (5, .iconst 4, 1, 0, 0, 4, [], []) := rfl
theorem k48_4 : az_cd 48 4 = some (6, .newarray .boolean, 2, 0, 2, 0, [], [153]) := rfl
theorem k48_5 : az_cd 48 5 = some (8, .putfield 9, 3, 5, 0, 0, [], [146]) := rfl
theorem k48_6 : az_cd 48 6 = some (11, .aload_n 0, 1, 0, 0, 0, [], []) := rfl
theorem k48_7 : az_cd 48 7 = some (12, .iconst 4, 1, 0, 0, 4, [], []) := rfl
theorem k48_8 : az_cd 48 8 = some (13, .anewarray 15, 3, 2, 3, 0, [], [143, 144]) := rfl
theorem k48_9 : az_cd 48 9 = some (16, .putfield 17, 3, 5, 1, 0, [], [147]) := rfl
theorem k48_10 : az_cd 48 10 = some (19, .iconst 0, 1, 0, 0, 0, [], []) := rfl
theorem k48_11 : az_cd 48 11 = some (20, .istore_n 1, 1, 0, 0, 0, [], []) := rfl
theorem k48_12 : az_cd 48 12 = some (21, .iload_n 1, 1, 0, 0, 0, [], []) := rfl
theorem k48_13 : az_cd 48 13 = some (22, .iconst 4, 1, 0, 0, 4, [], []) := rfl
theorem k48_14 : az_cd 48 14 = some (23, .if_icmp .ge 23, 3, 25, 0, 0, [], []) := rfl
theorem k48_15 : az_cd 48 15 = some (26, .aload_n 0, 1, 0, 0, 0, [], []) := rfl
theorem k48_16 : az_cd 48 16 = some (27, .getfield 17, 3, 5, 1, 0, [], [147]) := rfl
theorem k48_17 : az_cd 48 17 = some (30, .iload_n 1, 1, 0, 0, 0, [], []) := rfl
theorem k48_18 : az_cd 48 18 = some (31, .new 15, 3, 2, 3, 0, [], [143, 93, 45]) := rfl
theorem k48_19 : az_cd 48 19 = some (34, .dup, 1, 0, 0, 0, [], []) := rfl
theorem k48_20 : az_cd 48 20 = some (35, .iconst 0, 1, 0, 0, 0, [], []) := rfl
theorem k48_21 : az_cd 48 21 = some (36, .invokespecial 21, 3, 21, 1, 0, [], [145, 95, 45, 96]) := rfl
theorem k48_22 : az_cd 48 22 = some (39, .aastore, 1, 0, 0, 0, [], []) := rfl
theorem k48_23 : az_cd 48 23 = some (40, .iinc 1 1, 3, 0, 0, 1, [], []) := rfl
theorem k48_24 : az_cd 48 24 = some (43, .goto (-22), 3, 12, 0, 0, [], []) := rfl
theorem k48_25 : az_cd 48 25 = some (46, .return_, 1, 0, 0, 0, [], []) := rfl
theorem k49_0 : az_cd 49 0 = some (0, .iload_n 1, 1, 0, 0, 0, [], []) := rfl
theorem k49_1 : az_cd 49 1 = some (1, .ifCond .lt 21, 3, 12, 0, 0, [], []) := rfl
theorem k49_2 : az_cd 49 2 = some (4, .iload_n 1, 1, 0, 0, 0, [], []) := rfl
theorem k49_3 : az_cd 49 3 = some (5, .iconst 4, 1, 0, 0, 4, [], []) := rfl
theorem k49_4 : az_cd 49 4 = some (6, .if_icmp .ge 16, 3, 12, 0, 0, [], []) := rfl
theorem k49_5 : az_cd 49 5 = some (9, .aload_n 0, 1, 0, 0, 0, [], []) := rfl
theorem k49_6 : az_cd 49 6 = some (10, .getfield 9, 3, 5, 0, 0, [], [146]) := rfl
theorem k49_7 : az_cd 49 7 = some (13, .iload_n 1, 1, 0, 0, 0, [], []) := rfl
theorem k49_8 : az_cd 49 8 = some (14, .baload, 1, 0, 0, 0, [], []) := rfl
theorem k49_9 : az_cd 49 9 = some (15, .ifCond .eq 7, 3, 12, 0, 0, [], []) := rfl
theorem k49_10 : az_cd 49 10 = some (18, .iconst 1, 1, 0, 0, 1, [], []) := rfl
theorem k49_11 : az_cd 49 11 = some (19, .goto 4, 3, 13, 0, 0, [], []) := rfl
theorem k49_12 : az_cd 49 12 = some (22, .iconst 0, 1, 0, 0, 0, [], []) := rfl
theorem k49_13 : az_cd 49 13 = some (23, .ireturn, 1, 0, 0, 0, [], []) := rfl
theorem k50_0 : az_cd 50 0 = some (0, .iconst 0, 1, 0, 0, 0, [], []) := rfl
theorem k50_1 : az_cd 50 1 = some (1, .istore_n 1, 1, 0, 0, 0, [], []) := rfl
theorem k50_2 : az_cd 50 2 = some (2, .iload_n 1, 1, 0, 0, 0, [], []) := rfl
theorem k50_3 : az_cd 50 3 = some (3, .iconst 4, 1, 0, 0, 4, [], []) := rfl
theorem k50_4 : az_cd 50 4 = some (4, .if_icmp .ge 20, 3, 14, 0, 0, [], []) := rfl
theorem k50_5 : az_cd 50 5 = some (7, .aload_n 0, 1, 0, 0, 0, [], []) := rfl
theorem k50_6 : az_cd 50 6 = some (8, .getfield 9, 3, 5, 0, 0, [], [146]) := rfl
theorem k50_7 : az_cd 50 7 = some (11, .iload_n 1, 1, 0, 0, 0, [], []) := rfl
theorem k50_8 : az_cd 50 8 = some (12, .baload, 1, 0, 0, 0, [], []) := rfl
theorem k50_9 : az_cd 50 9 = some (13, .ifCond .ne 5, 3, 12, 0, 0, [], []) := rfl
theorem k50_10 : az_cd 50 10 = some (16, .iload_n 1, 1, 0, 0, 0, [], []) := rfl
theorem k50_11 : az_cd 50 11 = some (17, .ireturn, 1, 0, 0, 0, [], []) := rfl
theorem k50_12 : az_cd 50 12 = some (18, .iinc 1 1, 3, 0, 0, 1, [], []) := rfl
theorem k50_13 : az_cd 50 13 = some (21, .goto (-19), 3, 2, 0, 0, [], []) := rfl
theorem k50_14 : az_cd 50 14 = some (24, .bipush (-5), 2, 0, 0, (-5), [], []) := rfl
theorem k50_15 : az_cd 50 15 = some (26, .ireturn, 1, 0, 0, 0, [], []) := rfl
theorem k51_0 : az_cd 51 0 = some (0, .iconst 0, 1, 0, 0, 0, [], []) := rfl
theorem k51_1 : az_cd 51 1 = some (1, .istore_n 1, 1, 0, 0, 0, [], []) := rfl
theorem k51_2 : az_cd 51 2 = some (2, .iconst 0, 1, 0, 0, 0, [], []) := rfl
theorem k51_3 : az_cd 51 3 = some (3, .istore_n 2, 1, 0, 0, 0, [], []) := rfl
theorem k51_4 : az_cd 51 4 = some (4, .iload_n 2, 1, 0, 0, 0, [], []) := rfl
theorem k51_5 : az_cd 51 5 = some (5, .iconst 4, 1, 0, 0, 4, [], []) := rfl
theorem k51_6 : az_cd 51 6 = some (6, .if_icmp .ge 21, 3, 15, 0, 0, [], []) := rfl
theorem k51_7 : az_cd 51 7 = some (9, .aload_n 0, 1, 0, 0, 0, [], []) := rfl
theorem k51_8 : az_cd 51 8 = some (10, .getfield 9, 3, 5, 0, 0, [], [146]) := rfl
theorem k51_9 : az_cd 51 9 = some (13, .iload_n 2, 1, 0, 0, 0, [], []) := rfl
theorem k51_10 : az_cd 51 10 = some (14, .baload, 1, 0, 0, 0, [], []) := rfl
theorem k51_11 : az_cd 51 11 = some (15, .ifCond .eq 6, 3, 13, 0, 0, [], []) := rfl
theorem k51_12 : az_cd 51 12 = some (18, .iinc 1 1, 3, 0, 0, 1, [], []) := rfl
theorem k51_13 : az_cd 51 13 = some (21, .iinc 2 1, 3, 0, 0, 1, [], []) := rfl
theorem k51_14 : az_cd 51 14 = some (24, .goto (-20), 3, 4, 0, 0, [], []) := rfl
theorem k51_15 : az_cd 51 15 = some (27, .iload_n 1, 1, 0, 0, 0, [], []) := rfl
theorem k51_16 : az_cd 51 16 = some (28, .ireturn, 1, 0, 0, 0, [], []) := rfl
theorem k52_0 : az_cd 52 0 = some (0, .iconst 0, 1, 0, 0, 0, [], []) := rfl
theorem k52_1 : az_cd 52 1 = some (1, .istore_n 2, 1, 0, 0, 0, [], []) := rfl
theorem k52_2 : az_cd 52 2 = some (2, .iconst 0, 1, 0, 0, 0, [], []) := rfl
theorem k52_3 : az_cd 52 3 = some (3, .istore_n 3, 1, 0, 0, 0, [], []) := rfl
theorem k52_4 : az_cd 52 4 = some (4, .iload_n 3, 1, 0, 0, 0, [], []) := rfl
theorem k52_5 : az_cd 52 5 = some (5, .iconst 4, 1, 0, 0, 4, [], []) := rfl
theorem k52_6 : az_cd 52 6 = some (6, .if_icmp .ge 36, 3, 23, 0, 0, [], []) := rfl
theorem k52_7 : az_cd 52 7 = some (9, .aload_n 0, 1, 0, 0, 0, [], []) := rfl
theorem k52_8 : az_cd 52 8 = some (10, .getfield 9, 3, 5, 0, 0, [], [146]) := rfl
theorem k52_9 : az_cd 52 9 = some (13, .iload_n 3, 1, 0, 0, 0, [], []) := rfl
theorem k52_10 : az_cd 52 10 = some (14, .baload, 1, 0, 0, 0, [], []) := rfl
theorem k52_11 : az_cd 52 11 = some (15, .ifCond .eq 21, 3, 21, 0, 0, [], []) := rfl
theorem k52_12 : az_cd 52 12 = some (18, .aload_n 0, 1, 0, 0, 0, [], []) := rfl
theorem k52_13 : az_cd 52 13 = some (19, .getfield 17, 3, 5, 1, 0, [], [147]) := rfl
theorem k52_14 : az_cd 52 14 = some (22, .iload_n 3, 1, 0, 0, 0, [], []) := rfl
theorem k52_15 : az_cd 52 15 = some (23, .aaload, 1, 0, 0, 0, [], []) := rfl
theorem k52_16 : az_cd 52 16 = some (24, .iload_n 1, 1, 0, 0, 0, [], []) := rfl
theorem k52_17 : az_cd 52 17 = some (25, .invokevirtual 24, 3, 27, 1, 0, [], [419, 412, 45, 414, 413]) := rfl
theorem k52_18 : az_cd 52 18 = some (28, .bipush (-5), 2, 0, 0, (-5), [], []) := rfl
theorem k52_19 : az_cd 52 19 = some (30, .if_icmp .eq 6, 3, 21, 0, 0, [], []) := rfl
theorem k52_20 : az_cd 52 20 = some (33, .iinc 2 1, 3, 0, 0, 1, [], []) := rfl
theorem k52_21 : az_cd 52 21 = some (36, .iinc 3 1, 3, 0, 0, 1, [], []) := rfl
theorem k52_22 : az_cd 52 22 = some (39, .goto (-35), 3, 4, 0, 0, [], []) := rfl
theorem k52_23 : az_cd 52 23 = some (42, .iload_n 2, 1, 0, 0, 0, [], []) := rfl
theorem k52_24 : az_cd 52 24 = some (43, .ireturn, 1, 0, 0, 0, [], []) := rfl
theorem k53_0 : az_cd 53 0 = some (0, .iload_n 1, 1, 0, 0, 0, [], []) := rfl
theorem k53_1 : az_cd 53 1 = some (1, .ifCond .lt 25, 3, 16, 0, 0, [], []) := rfl
theorem k53_2 : az_cd 53 2 = some (4, .iload_n 1, 1, 0, 0, 0, [], []) := rfl
theorem k53_3 : az_cd 53 3 = some (5, .iconst 4, 1, 0, 0, 4, [], []) := rfl
theorem k53_4 : az_cd 53 4 = some (6, .if_icmp .ge 20, 3, 16, 0, 0, [], []) := rfl
theorem k53_5 : az_cd 53 5 = some (9, .aload_n 0, 1, 0, 0, 0, [], []) := rfl
theorem k53_6 : az_cd 53 6 = some (10, .getfield 9, 3, 5, 0, 0, [], [146]) := rfl
theorem k53_7 : az_cd 53 7 = some (13, .iload_n 1, 1, 0, 0, 0, [], []) := rfl
theorem k53_8 : az_cd 53 8 = some (14, .iconst 1, 1, 0, 0, 1, [], []) := rfl
theorem k53_9 : az_cd 53 9 = some (15, .bastore, 1, 0, 0, 0, [], []) := rfl
theorem k53_10 : az_cd 53 10 = some (16, .aload_n 0, 1, 0, 0, 0, [], []) := rfl
theorem k53_11 : az_cd 53 11 = some (17, .getfield 17, 3, 5, 1, 0, [], [147]) := rfl
theorem k53_12 : az_cd 53 12 = some (20, .iload_n 1, 1, 0, 0, 0, [], []) := rfl
theorem k53_13 : az_cd 53 13 = some (21, .aaload, 1, 0, 0, 0, [], []) := rfl
theorem k53_14 : az_cd 53 14 = some (22, .aload_n 2, 1, 0, 0, 0, [], []) := rfl
theorem k53_15 : az_cd 53 15 = some (23, .invokevirtual 28, 3, 30, 1, 0, [], [301, 283, 45, 285, 284]) := rfl
theorem k53_16 : az_cd 53 16 = some (26, .return_, 1, 0, 0, 0, [], []) := rfl
theorem k54_0 : az_cd 54 0 = some (0, .iload_n 1, 1, 0, 0, 0, [], []) := rfl
theorem k54_1 : az_cd 54 1 = some (1, .ifCond .lt 15, 3, 10, 0, 0, [], []) := rfl
theorem k54_2 : az_cd 54 2 = some (4, .iload_n 1, 1, 0, 0, 0, [], []) := rfl
theorem k54_3 : az_cd 54 3 = some (5, .iconst 4, 1, 0, 0, 4, [], []) := rfl
theorem k54_4 : az_cd 54 4 = some (6, .if_icmp .ge 10, 3, 10, 0, 0, [], []) := rfl
theorem k54_5 : az_cd 54 5 = some (9, .aload_n 0, 1, 0, 0, 0, [], []) := rfl
theorem k54_6 : az_cd 54 6 = some (10, .getfield 9, 3, 5, 0, 0, [], [146]) := rfl
theorem k54_7 : az_cd 54 7 = some (13, .iload_n 1, 1, 0, 0, 0, [], []) := rfl
theorem k54_8 : az_cd 54 8 = some (14, .iconst 0, 1, 0, 0, 0, [], []) := rfl
theorem k54_9 : az_cd 54 9 = some (15, .bastore, 1, 0, 0, 0, [], []) := rfl
theorem k54_10 : az_cd 54 10 = some (16, .return_, 1, 0, 0, 0, [], []) := rfl
theorem k55_0 : az_cd 55 0 = some (0, .iconst 0, 1, 0, 0, 0, [], []) := rfl
theorem k55_1 : az_cd 55 1 = some (1, .istore_n 1, 1, 0, 0, 0, [], []) := rfl
theorem k55_2 : az_cd 55 2 = some (2, .iload_n 1, 1, 0, 0, 0, [], []) := rfl
theorem k55_3 : az_cd 55 3 = some (3, .iconst 4, 1, 0, 0, 4, [], []) := rfl
theorem k55_4 : az_cd 55 4 = some (4, .if_icmp .ge 16, 3, 12, 0, 0, [], []) := rfl
theorem k55_5 : az_cd 55 5 = some (7, .aload_n 0, 1, 0, 0, 0, [], []) := rfl
theorem k55_6 : az_cd 55 6 = some (8, .getfield 9, 3, 5, 0, 0, [], [146]) := rfl
theorem k55_7 : az_cd 55 7 = some (11, .iload_n 1, 1, 0, 0, 0, [], []) := rfl
theorem k55_8 : az_cd 55 8 = some (12, .iconst 0, 1, 0, 0, 0, [], []) := rfl
theorem k55_9 : az_cd 55 9 = some (13, .bastore, 1, 0, 0, 0, [], []) := rfl
theorem k55_10 : az_cd 55 10 = some (14, .iinc 1 1, 3, 0, 0, 1, [], []) := rfl
theorem k55_11 : az_cd 55 11 = some (17, .goto (-15), 3, 2, 0, 0, [], []) := rfl
theorem k55_12 : az_cd 55 12 = some (20, .return_, 1, 0, 0, 0, [], []) := rfl
theorem k56_0 : az_cd 56 0 = some (0, .aload_n 0, 1, 0, 0, 0, [], []) := rfl
theorem k56_1 : az_cd 56 1 = some (1, .iload_n 1, 1, 0, 0, 0, [], []) := rfl
theorem k56_2 : az_cd 56 2 = some (2, .invokevirtual 32, 3, 49, 1, 0, [], [626, 541, 48, 543, 542]) := rfl
theorem k56_3 : az_cd 56 3 = some (5, .ifCond .eq 15, 3, 10, 0, 0, [], []) := rfl
theorem k56_4 : az_cd 56 4 = some (8, .aload_n 0, 1, 0, 0, 0, [], []) := rfl
theorem k56_5 : az_cd 56 5 = some (9, .getfield 17, 3, 5, 1, 0, [], [147]) := rfl
theorem k56_6 : az_cd 56 6 = some (12, .iload_n 1, 1, 0, 0, 0, [], []) := rfl
theorem k56_7 : az_cd 56 7 = some (13, .aaload, 1, 0, 0, 0, [], []) := rfl
theorem k56_8 : az_cd 56 8 = some (14, .invokevirtual 36, 3, 22, 0, 0, [], [685, 462, 45, 464, 463]) := rfl
theorem k56_9 : az_cd 56 9 = some (17, .goto 5, 3, 11, 0, 0, [], []) := rfl
theorem k56_10 : az_cd 56 10 = some (20, .bipush (-5), 2, 0, 0, (-5), [], []) := rfl
theorem k56_11 : az_cd 56 11 = some (22, .ireturn, 1, 0, 0, 0, [], []) := rfl
theorem k57_0 : az_cd 57 0 = some (0, .aload_n 0, 1, 0, 0, 0, [], []) := rfl
theorem k57_1 : az_cd 57 1 = some (1, .iload_n 1, 1, 0, 0, 0, [], []) := rfl
theorem k57_2 : az_cd 57 2 = some (2, .invokevirtual 32, 3, 49, 1, 0, [], [626, 541, 48, 543, 542]) := rfl
theorem k57_3 : az_cd 57 3 = some (5, .ifCond .eq 16, 3, 11, 0, 0, [], []) := rfl
theorem k57_4 : az_cd 57 4 = some (8, .aload_n 0, 1, 0, 0, 0, [], []) := rfl
theorem k57_5 : az_cd 57 5 = some (9, .getfield 17, 3, 5, 1, 0, [], [147]) := rfl
theorem k57_6 : az_cd 57 6 = some (12, .iload_n 1, 1, 0, 0, 0, [], []) := rfl
theorem k57_7 : az_cd 57 7 = some (13, .aaload, 1, 0, 0, 0, [], []) := rfl
theorem k57_8 : az_cd 57 8 = some (14, .iload_n 2, 1, 0, 0, 0, [], []) := rfl
theorem k57_9 : az_cd 57 9 = some (15, .invokevirtual 40, 3, 25, 1, 0, [], [627, 479, 45, 481, 480]) := rfl
theorem k57_10 : az_cd 57 10 = some (18, .goto 5, 3, 12, 0, 0, [], []) := rfl
theorem k57_11 : az_cd 57 11 = some (21, .bipush (-5), 2, 0, 0, (-5), [], []) := rfl
theorem k57_12 : az_cd 57 12 = some (23, .ireturn, 1, 0, 0, 0, [], []) := rfl
theorem k58_0 : az_cd 58 0 = some (0, .iconst 0, 1, 0, 0, 0, [], []) := rfl
theorem k58_1 : az_cd 58 1 = some (1, .istore_n 2, 1, 0, 0, 0, [], []) := rfl
theorem k58_2 : az_cd 58 2 = some (2, .iload_n 2, 1, 0, 0, 0, [], []) := rfl
theorem k58_3 : az_cd 58 3 = some (3, .iconst 4, 1, 0, 0, 4, [], []) := rfl
theorem k58_4 : az_cd 58 4 = some (4, .if_icmp .ge 36, 3, 24, 0, 0, [], []) := rfl
theorem k58_5 : az_cd 58 5 = some (7, .aload_n 0, 1, 0, 0, 0, [], []) := rfl
theorem k58_6 : az_cd 58 6 = some (8, .getfield 9, 3, 5, 0, 0, [], [146]) := rfl
theorem k58_7 : az_cd 58 7 = some (11, .iload_n 2, 1, 0, 0, 0, [], []) := rfl
theorem k58_8 : az_cd 58 8 = some (12, .aload_n 1, 1, 0, 0, 0, [], []) := rfl
theorem k58_9 : az_cd 58 9 = some (13, .getfield 9, 3, 5, 0, 0, [], [146]) := rfl
theorem k58_10 : az_cd 58 10 = some (16, .iload_n 2, 1, 0, 0, 0, [], []) := rfl
theorem k58_11 : az_cd 58 11 = some (17, .baload, 1, 0, 0, 0, [], []) := rfl
theorem k58_12 : az_cd 58 12 = some (18, .bastore, 1, 0, 0, 0, [], []) := rfl
theorem k58_13 : az_cd 58 13 = some (19, .aload_n 0, 1, 0, 0, 0, [], []) := rfl
theorem k58_14 : az_cd 58 14 = some (20, .getfield 17, 3, 5, 1, 0, [], [147]) := rfl
theorem k58_15 : az_cd 58 15 = some (23, .iload_n 2, 1, 0, 0, 0, [], []) := rfl
theorem k58_16 : az_cd 58 16 = some (24, .aaload, 1, 0, 0, 0, [], []) := rfl
theorem k58_17 : az_cd 58 17 = some (25, .aload_n 1, 1, 0, 0, 0, [], []) := rfl
theorem k58_18 : az_cd 58 18 = some (26, .getfield 17, 3, 5, 1, 0, [], [147]) := rfl
theorem k58_19 : az_cd 58 19 = some (29, .iload_n 2, 1, 0, 0, 0, [], []) := rfl
theorem k58_20 : az_cd 58 20 = some (30, .aaload, 1, 0, 0, 0, [], []) := rfl
theorem k58_21 : az_cd 58 21 = some (31, .invokevirtual 28, 3, 30, 1, 0, [], [301, 283, 45, 285, 284]) := rfl
theorem k58_22 : az_cd 58 22 = some (34, .iinc 2 1, 3, 0, 0, 1, [], []) := rfl
theorem k58_23 : az_cd 58 23 = some (37, .goto (-35), 3, 2, 0, 0, [], []) := rfl
theorem k58_24 : az_cd 58 24 = some (40, .return_, 1, 0, 0, 0, [], []) := rfl
theorem k59_0 : az_cd 59 0 = some (0, .aload_n 0, 1, 0, 0, 0, [], []) := rfl
theorem k59_1 : az_cd 59 1 = some (1, .invokespecial 3, 3, 196, 0, 2, [], [68, 61, 62]) := rfl
theorem k59_2 : az_cd 59 2 = some (4, .aload_n 0, 1, 0, 0, 0, [], []) := rfl
theorem k59_3 : az_cd 59 3 = some (5, .new 9, 3, 0, 3, 0, [], [69, 70, 44]) := rfl
theorem k59_4 : az_cd 59 4 = some (8, .dup, 1, 0, 0, 0, [], []) := rfl
theorem k59_5 : az_cd 59 5 = some (9, .invokespecial 11, 3, 1, 0, 0, [], [71, 72, 44, 73]) := rfl
theorem k59_6 : az_cd 59 6 = some (12, .putfield 12, 3, 6, 0, 0, [], [154]) := rfl
theorem k59_7 : az_cd 59 7 = some (15, .aload_n 0, 1, 0, 0, 0, [], []) := rfl
theorem k59_8 : az_cd 59 8 = some (16, .new 18, 3, 2, 3, 0, [], [92, 93, 45]) := rfl
theorem k59_9 : az_cd 59 9 = some (19, .dup, 1, 0, 0, 0, [], []) := rfl
theorem k59_10 : az_cd 59 10 = some (20, .iconst 1, 1, 0, 0, 1, [], []) := rfl
theorem k59_11 : az_cd 59 11 = some (21, .invokespecial 20, 3, 21, 1, 0, [], [94, 95, 45, 96]) := rfl
theorem k59_12 : az_cd 59 12 = some (24, .putfield 23, 3, 6, 1, 0, [], [156]) := rfl
theorem k59_13 : az_cd 59 13 = some (27, .aload_n 0, 1, 0, 0, 0, [], []) := rfl
theorem k59_14 : az_cd 59 14 = some (28, .new 18, 3, 2, 3, 0, [], [92, 93, 45]) := rfl
theorem k59_15 : az_cd 59 15 = some (31, .dup, 1, 0, 0, 0, [], []) := rfl
theorem k59_16 : az_cd 59 16 = some (32, .iconst 0, 1, 0, 0, 0, [], []) := rfl
theorem k59_17 : az_cd 59 17 = some (33, .invokespecial 20, 3, 21, 1, 0, [], [94, 95, 45, 96]) := rfl
theorem k59_18 : az_cd 59 18 = some (36, .putfield 27, 3, 6, 2, 0, [], [157]) := rfl
theorem k59_19 : az_cd 59 19 = some (39, .aload_n 0, 1, 0, 0, 0, [], []) := rfl
theorem k59_20 : az_cd 59 20 = some (40, .new 30, 3, 1, 1, 0, [], [109, 110, 46]) := rfl
theorem k59_21 : az_cd 59 21 = some (43, .dup, 1, 0, 0, 0, [], []) := rfl
theorem k59_22 : az_cd 59 22 = some (44, .invokespecial 32, 3, 12, 0, 0, [], [111, 112, 46, 113]) := rfl
theorem k59_23 : az_cd 59 23 = some (47, .putfield 33, 3, 6, 3, 0, [], [158]) := rfl
theorem k59_24 : az_cd 59 24 = some (50, .aload_n 0, 1, 0, 0, 0, [], []) := rfl
theorem k59_25 : az_cd 59 25 = some (51, .new 37, 3, 7, 3, 0, [], [120, 121, 47]) := rfl
theorem k59_26 : az_cd 59 26 = some (54, .dup, 1, 0, 0, 0, [], []) := rfl
theorem k59_27 : az_cd 59 27 = some (55, .invokespecial 39, 3, 83, 0, 0, [], [122, 123, 47, 124]) := rfl
theorem k59_28 : az_cd 59 28 = some (58, .putfield 40, 3, 6, 4, 0, [], [160]) := rfl
theorem k59_29 : az_cd 59 29 = some (61, .aload_n 0, 1, 0, 0, 0, [], []) := rfl
theorem k59_30 : az_cd 59 30 = some (62, .new 44, 3, 5, 2, 0, [], [137, 138, 48]) := rfl
theorem k59_31 : az_cd 59 31 = some (65, .dup, 1, 0, 0, 0, [], []) := rfl
theorem k59_32 : az_cd 59 32 = some (66, .invokespecial 46, 3, 48, 0, 0, [], [139, 140, 48, 141]) := rfl
theorem k59_33 : az_cd 59 33 = some (69, .putfield 47, 3, 6, 5, 0, [], [162]) := rfl
theorem k59_34 : az_cd 59 34 = some (72, .aload_n 0, 1, 0, 0, 0, [], []) := rfl
theorem k59_35 : az_cd 59 35 = some (73, .iconst 0, 1, 0, 0, 0, [], []) := rfl
theorem k59_36 : az_cd 59 36 = some (74, .putfield 51, 3, 6, 6, 0, [], [164]) := rfl
theorem k59_37 : az_cd 59 37 = some (77, .aload_n 0, 1, 0, 0, 0, [], []) := rfl
theorem k59_38 : az_cd 59 38 = some (78, .iconst 0, 1, 0, 0, 0, [], []) := rfl
theorem k59_39 : az_cd 59 39 = some (79, .putfield 55, 3, 6, 7, 0, [], [165]) := rfl
theorem k59_40 : az_cd 59 40 = some (82, .aload_n 0, 1, 0, 0, 0, [], []) := rfl
theorem k59_41 : az_cd 59 41 = some (83, .iconst 0, 1, 0, 0, 0, [], []) := rfl
theorem k59_42 : az_cd 59 42 = some (84, .putfield 58, 3, 6, 8, 0, [], [166]) := rfl
theorem k59_43 : az_cd 59 43 = some (87, .return_, 1, 0, 0, 0, [], []) := rfl
theorem k60_0 : az_cd 60 0 = some (0, .aload_n 0, 1, 0, 0, 0, [], []) := rfl
theorem k60_1 : az_cd 60 1 = some (1, .getfield 51, 3, 6, 6, 0, [], [164]) := rfl
theorem k60_2 : az_cd 60 2 = some (4, .ireturn, 1, 0, 0, 0, [], []) := rfl
theorem k61_0 : az_cd 61 0 = some (0, .aload_n 0, 1, 0, 0, 0, [], []) := rfl
theorem k61_1 : az_cd 61 1 = some (1, .getfield 55, 3, 6, 7, 0, [], [165]) := rfl
theorem k61_2 : az_cd 61 2 = some (4, .ireturn, 1, 0, 0, 0, [], []) := rfl
theorem k62_0 : az_cd 62 0 = some (0, .aload_n 0, 1, 0, 0, 0, [], []) := rfl
theorem k62_1 : az_cd 62 1 = some (1, .getfield 58, 3, 6, 8, 0, [], [166]) := rfl
theorem k62_2 : az_cd 62 2 = some (4, .ireturn, 1, 0, 0, 0, [], []) := rfl
theorem k63_0 : az_cd 63 0 = some (0, .iload_n 1, 1, 0, 0, 0, [], []) := rfl
theorem k63_1 : az_cd 63 1 = some (1, .ifCond .ne 10, 3, 5, 0, 0, [], []) := rfl
theorem k63_2 : az_cd 63 2 = some (4, .aload_n 0, 1, 0, 0, 0, [], []) := rfl
theorem k63_3 : az_cd 63 3 = some (5, .getfield 23, 3, 6, 1, 0, [], [156]) := rfl
theorem k63_4 : az_cd 63 4 = some (8, .goto 7, 3, 7, 0, 0, [], []) := rfl
theorem k63_5 : az_cd 63 5 = some (11, .aload_n 0, 1, 0, 0, 0, [], []) := rfl
theorem k63_6 : az_cd 63 6 = some (12, .getfield 27, 3, 6, 2, 0, [], [157]) := rfl
theorem k63_7 : az_cd 63 7 = some (15, .areturn, 1, 0, 0, 0, [], []) := rfl
theorem k64_0 : az_cd 64 0 = some (0, .aload_n 0, 1, 0, 0, 0, [], []) := rfl
theorem k64_1 : az_cd 64 1 = some (1, .aload_n 0, 1, 0, 0, 0, [], []) := rfl
theorem k64_2 : az_cd 64 2 = some (2, .getfield 51, 3, 6, 6, 0, [], [164]) := rfl
theorem k64_3 : az_cd 64 3 = some (5, .invokevirtual 61, 3, 63, 1, 0, [], [407, 408, 43, 410, 409]) := rfl
theorem k64_4 : az_cd 64 4 = some (8, .areturn, 1, 0, 0, 0, [], []) := rfl
theorem k65_0 : az_cd 65 0 = some (0, .aload_n 0, 1, 0, 0, 0, [], []) := rfl
theorem k65_1 : az_cd 65 1 = some (1, .getfield 12, 3, 6, 0, 0, [], [154]) := rfl
theorem k65_2 : az_cd 65 2 = some (4, .aload_n 0, 1, 0, 0, 0, [], []) := rfl
theorem k65_3 : az_cd 65 3 = some (5, .invokevirtual 65, 3, 64, 0, 0, [], [403, 404, 43, 406, 405]) := rfl
theorem k65_4 : az_cd 65 4 = some (8, .iload_n 1, 1, 0, 0, 0, [], []) := rfl
theorem k65_5 : az_cd 65 5 = some (9, .invokevirtual 69, 3, 25, 1, 0, [], [478, 479, 45, 481, 480]) := rfl
theorem k65_6 : az_cd 65 6 = some (12, .invokevirtual 73, 3, 4, 1, 0, [], [605, 606, 44, 608, 607]) := rfl
theorem k65_7 : az_cd 65 7 = some (15, .ireturn, 1, 0, 0, 0, [], []) := rfl
theorem k66_0 : az_cd 66 0 = some (0, .aload_n 0, 1, 0, 0, 0, [], []) := rfl
theorem k66_1 : az_cd 66 1 = some (1, .getfield 33, 3, 6, 3, 0, [], [158]) := rfl
theorem k66_2 : az_cd 66 2 = some (4, .iload_n 1, 1, 0, 0, 0, [], []) := rfl
theorem k66_3 : az_cd 66 3 = some (5, .invokevirtual 76, 3, 14, 1, 0, [], [469, 470, 46, 472, 471]) := rfl
theorem k66_4 : az_cd 66 4 = some (8, .ifCond .eq 14, 3, 10, 0, 0, [], []) := rfl
theorem k66_5 : az_cd 66 5 = some (11, .aload_n 0, 1, 0, 0, 0, [], []) := rfl
theorem k66_6 : az_cd 66 6 = some (12, .getfield 33, 3, 6, 3, 0, [], [158]) := rfl
theorem k66_7 : az_cd 66 7 = some (15, .iload_n 1, 1, 0, 0, 0, [], []) := rfl
theorem k66_8 : az_cd 66 8 = some (16, .invokevirtual 80, 3, 13, 1, 0, [], [443, 260, 46, 262, 261]) := rfl
theorem k66_9 : az_cd 66 9 = some (19, .goto 8, 3, 13, 0, 0, [], []) := rfl
theorem k66_10 : az_cd 66 10 = some (22, .aload_n 0, 1, 0, 0, 0, [], []) := rfl
theorem k66_11 : az_cd 66 11 = some (23, .iload_n 1, 1, 0, 0, 0, [], []) := rfl
theorem k66_12 : az_cd 66 12 = some (24, .invokevirtual 83, 3, 65, 1, 0, [], [617, 602, 43, 604, 603]) := rfl
theorem k66_13 : az_cd 66 13 = some (27, .ireturn, 1, 0, 0, 0, [], []) := rfl
theorem k67_0 : az_cd 67 0 = some (0, .aload_n 0, 1, 0, 0, 0, [], []) := rfl
theorem k67_1 : az_cd 67 1 = some (1, .invokevirtual 65, 3, 64, 0, 0, [], [403, 404, 43, 406, 405]) := rfl
theorem k67_2 : az_cd 67 2 = some (4, .iload_n 1, 1, 0, 0, 0, [], []) := rfl
theorem k67_3 : az_cd 67 3 = some (5, .invokevirtual 86, 3, 27, 1, 0, [], [411, 412, 45, 414, 413]) := rfl
theorem k67_4 : az_cd 67 4 = some (8, .bipush (-5), 2, 0, 0, (-5), [], []) := rfl
theorem k67_5 : az_cd 67 5 = some (10, .if_icmp .ne 31, 3, 19, 0, 0, [], []) := rfl
theorem k67_6 : az_cd 67 6 = some (13, .aload_n 0, 1, 0, 0, 0, [], []) := rfl
theorem k67_7 : az_cd 67 7 = some (14, .getfield 47, 3, 6, 5, 0, [], [162]) := rfl
theorem k67_8 : az_cd 67 8 = some (17, .iload_n 1, 1, 0, 0, 0, [], []) := rfl
theorem k67_9 : az_cd 67 9 = some (18, .invokevirtual 89, 3, 52, 1, 0, [], [415, 416, 48, 418, 417]) := rfl
theorem k67_10 : az_cd 67 10 = some (21, .ifCond .ne 20, 3, 19, 0, 0, [], []) := rfl
theorem k67_11 : az_cd 67 11 = some (24, .aload_n 0, 1, 0, 0, 0, [], []) := rfl
theorem k67_12 : az_cd 67 12 = some (25, .getfield 40, 3, 6, 4, 0, [], [160]) := rfl
theorem k67_13 : az_cd 67 13 = some (28, .iload_n 1, 1, 0, 0, 0, [], []) := rfl
theorem k67_14 : az_cd 67 14 = some (29, .invokevirtual 92, 3, 91, 1, 0, [], [420, 421, 47, 423, 422]) := rfl
theorem k67_15 : az_cd 67 15 = some (32, .bipush (-5), 2, 0, 0, (-5), [], []) := rfl
theorem k67_16 : az_cd 67 16 = some (34, .if_icmp .ne 7, 3, 19, 0, 0, [], []) := rfl
theorem k67_17 : az_cd 67 17 = some (37, .iconst 1, 1, 0, 0, 1, [], []) := rfl
theorem k67_18 : az_cd 67 18 = some (38, .goto 4, 3, 20, 0, 0, [], []) := rfl
theorem k67_19 : az_cd 67 19 = some (41, .iconst 0, 1, 0, 0, 0, [], []) := rfl
theorem k67_20 : az_cd 67 20 = some (42, .ireturn, 1, 0, 0, 0, [], []) := rfl
theorem k68_0 : az_cd 68 0 = some (0, .iconst 0, 1, 0, 0, 0, [], []) := rfl
theorem k68_1 : az_cd 68 1 = some (1, .istore_n 1, 1, 0, 0, 0, [], []) := rfl
theorem k68_2 : az_cd 68 2 = some (2, .iconst 0, 1, 0, 0, 0, [], []) := rfl
theorem k68_3 : az_cd 68 3 = some (3, .istore_n 2, 1, 0, 0, 0, [], []) := rfl
theorem k68_4 : az_cd 68 4 = some (4, .iload_n 2, 1, 0, 0, 0, [], []) := rfl
theorem k68_5 : az_cd 68 5 = some (5, .bipush 24, 2, 0, 0, 24, [], []) := rfl
theorem k68_6 : az_cd 68 6 = some (7, .if_icmp .ge 20, 3, 14, 0, 0, [], []) := rfl
theorem k68_7 : az_cd 68 7 = some (10, .aload_n 0, 1, 0, 0, 0, [], []) := rfl
theorem k68_8 : az_cd 68 8 = some (11, .iload_n 2, 1, 0, 0, 0, [], []) := rfl
theorem k68_9 : az_cd 68 9 = some (12, .invokevirtual 95, 3, 67, 1, 0, [], [399, 400, 43, 402, 401]) := rfl
theorem k68_10 : az_cd 68 10 = some (15, .ifCond .eq 6, 3, 12, 0, 0, [], []) := rfl
theorem k68_11 : az_cd 68 11 = some (18, .iinc 1 1, 3, 0, 0, 1, [], []) := rfl
theorem k68_12 : az_cd 68 12 = some (21, .iinc 2 1, 3, 0, 0, 1, [], []) := rfl
theorem k68_13 : az_cd 68 13 = some (24, .goto (-20), 3, 4, 0, 0, [], []) := rfl
theorem k68_14 : az_cd 68 14 = some (27, .iload_n 1, 1, 0, 0, 0, [], []) := rfl
theorem k68_15 : az_cd 68 15 = some (28, .ireturn, 1, 0, 0, 0, [], []) := rfl
theorem k69_0 : az_cd 69 0 = some (0, .iconst 0, 1, 0, 0, 0, [], []) := rfl
theorem k69_1 : az_cd 69 1 = some (1, .istore_n 1, 1, 0, 0, 0, [], []) := rfl
theorem k69_2 : az_cd 69 2 = some (2, .iconst 0, 1, 0, 0, 0, [], []) := rfl
theorem k69_3 : az_cd 69 3 = some (3, .istore_n 2, 1, 0, 0, 0, [], []) := rfl
theorem k69_4 : az_cd 69 4 = some (4, .iload_n 2, 1, 0, 0, 0, [], []) := rfl
theorem k69_5 : az_cd 69 5 = some (5, .bipush 24, 2, 0, 0, 24, [], []) := rfl
theorem k69_6 : az_cd 69 6 = some (7, .if_icmp .ge 49, 3, 27, 0, 0, [], []) := rfl
theorem k69_7 : az_cd 69 7 = some (10, .aload_n 0, 1, 0, 0, 0, [], []) := rfl
theorem k69_8 : az_cd 69 8 = some (11, .getfield 47, 3, 6, 5, 0, [], [162]) := rfl
theorem k69_9 : az_cd 69 9 = some (14, .iload_n 2, 1, 0, 0, 0, [], []) := rfl
theorem k69_10 : az_cd 69 10 = some (15, .invokevirtual 89, 3, 52, 1, 0, [], [415, 416, 48, 418, 417]) := rfl
theorem k69_11 : az_cd 69 11 = some (18, .ifCond .le 32, 3, 25, 0, 0, [], []) := rfl
theorem k69_12 : az_cd 69 12 = some (21, .aload_n 0, 1, 0, 0, 0, [], []) := rfl
theorem k69_13 : az_cd 69 13 = some (22, .invokevirtual 65, 3, 64, 0, 0, [], [403, 404, 43, 406, 405]) := rfl
theorem k69_14 : az_cd 69 14 = some (25, .iload_n 2, 1, 0, 0, 0, [], []) := rfl
theorem k69_15 : az_cd 69 15 = some (26, .invokevirtual 86, 3, 27, 1, 0, [], [411, 412, 45, 414, 413]) := rfl
theorem k69_16 : az_cd 69 16 = some (29, .bipush (-5), 2, 0, 0, (-5), [], []) := rfl
theorem k69_17 : az_cd 69 17 = some (31, .if_icmp .ne 19, 3, 25, 0, 0, [], []) := rfl
theorem k69_18 : az_cd 69 18 = some (34, .aload_n 0, 1, 0, 0, 0, [], []) := rfl
theorem k69_19 : az_cd 69 19 = some (35, .getfield 40, 3, 6, 4, 0, [], [160]) := rfl
theorem k69_20 : az_cd 69 20 = some (38, .iload_n 2, 1, 0, 0, 0, [], []) := rfl
theorem k69_21 : az_cd 69 21 = some (39, .invokevirtual 92, 3, 91, 1, 0, [], [420, 421, 47, 423, 422]) := rfl
theorem k69_22 : az_cd 69 22 = some (42, .bipush (-5), 2, 0, 0, (-5), [], []) := rfl
theorem k69_23 : az_cd 69 23 = some (44, .if_icmp .ne 6, 3, 25, 0, 0, [], []) := rfl
theorem k69_24 : az_cd 69 24 = some (47, .iinc 1 1, 3, 0, 0, 1, [], []) := rfl
theorem k69_25 : az_cd 69 25 = some (50, .iinc 2 1, 3, 0, 0, 1, [], []) := rfl
theorem k69_26 : az_cd 69 26 = some (53, .goto (-49), 3, 4, 0, 0, [], []) := rfl
theorem k69_27 : az_cd 69 27 = some (56, .iload_n 1, 1, 0, 0, 0, [], []) := rfl
theorem k69_28 : az_cd 69 28 = some (57, .ireturn, 1, 0, 0, 0, [], []) := rfl
theorem k70_0 : az_cd 70 0 = some (0, .bipush (-5), 2, 0, 0, (-5), [], []) := rfl
theorem k70_1 : az_cd 70 1 = some (2, .istore_n 1, 1, 0, 0, 0, [], []) := rfl
theorem k70_2 : az_cd 70 2 = some (3, .iconst 0, 1, 0, 0, 0, [], []) := rfl
theorem k70_3 : az_cd 70 3 = some (4, .istore_n 2, 1, 0, 0, 0, [], []) := rfl
theorem k70_4 : az_cd 70 4 = some (5, .iload_n 2, 1, 0, 0, 0, [], []) := rfl
theorem k70_5 : az_cd 70 5 = some (6, .bipush 24, 2, 0, 0, 24, [], []) := rfl
theorem k70_6 : az_cd 70 6 = some (8, .if_icmp .ge 44, 3, 27, 0, 0, [], []) := rfl
theorem k70_7 : az_cd 70 7 = some (11, .aload_n 0, 1, 0, 0, 0, [], []) := rfl
theorem k70_8 : az_cd 70 8 = some (12, .iload_n 2, 1, 0, 0, 0, [], []) := rfl
theorem k70_9 : az_cd 70 9 = some (13, .invokevirtual 95, 3, 67, 1, 0, [], [399, 400, 43, 402, 401]) := rfl
theorem k70_10 : az_cd 70 10 = some (16, .ifCond .eq 30, 3, 25, 0, 0, [], []) := rfl
theorem k70_11 : az_cd 70 11 = some (19, .iload_n 1, 1, 0, 0, 0, [], []) := rfl
theorem k70_12 : az_cd 70 12 = some (20, .bipush (-5), 2, 0, 0, (-5), [], []) := rfl
theorem k70_13 : az_cd 70 13 = some (22, .if_icmp .eq 22, 3, 23, 0, 0, [], []) := rfl
theorem k70_14 : az_cd 70 14 = some (25, .aload_n 0, 1, 0, 0, 0, [], []) := rfl
theorem k70_15 : az_cd 70 15 = some (26, .getfield 12, 3, 6, 0, 0, [], [154]) := rfl
theorem k70_16 : az_cd 70 16 = some (29, .iload_n 2, 1, 0, 0, 0, [], []) := rfl
theorem k70_17 : az_cd 70 17 = some (30, .invokevirtual 98, 3, 6, 1, 0, [], [424, 425, 44, 427, 426]) := rfl
theorem k70_18 : az_cd 70 18 = some (33, .aload_n 0, 1, 0, 0, 0, [], []) := rfl
theorem k70_19 : az_cd 70 19 = some (34, .getfield 12, 3, 6, 0, 0, [], [154]) := rfl
theorem k70_20 : az_cd 70 20 = some (37, .iload_n 1, 1, 0, 0, 0, [], []) := rfl
theorem k70_21 : az_cd 70 21 = some (38, .invokevirtual 98, 3, 6, 1, 0, [], [424, 425, 44, 427, 426]) := rfl
theorem k70_22 : az_cd 70 22 = some (41, .if_icmp .ge 5, 3, 25, 0, 0, [], []) := rfl
theorem k70_23 : az_cd 70 23 = some (44, .iload_n 2, 1, 0, 0, 0, [], []) := rfl
theorem k70_24 : az_cd 70 24 = some (45, .istore_n 1, 1, 0, 0, 0, [], []) := rfl
theorem k70_25 : az_cd 70 25 = some (46, .iinc 2 1, 3, 0, 0, 1, [], []) := rfl
theorem k70_26 : az_cd 70 26 = some (49, .goto (-44), 3, 4, 0, 0, [], []) := rfl
theorem k70_27 : az_cd 70 27 = some (52, .iload_n 1, 1, 0, 0, 0, [], []) := rfl
theorem k70_28 : az_cd 70 28 = some (53, .ireturn, 1, 0, 0, 0, [], []) := rfl
theorem k71_0 : az_cd 71 0 = some (0, .aload_n 0, 1, 0, 0, 0, [], []) := rfl
theorem k71_1 : az_cd 71 1 = some (1, .getfield 40, 3, 6, 4, 0, [], [160]) := rfl
theorem k71_2 : az_cd 71 2 = some (4, .invokevirtual 101, 3, 84, 0, 0, [], [369, 256, 47, 258, 257]) := rfl
theorem k71_3 : az_cd 71 3 = some (7, .ifCond .eq 23, 3, 14, 0, 0, [], []) := rfl
theorem k71_4 : az_cd 71 4 = some (10, .aload_n 0, 1, 0, 0, 0, [], []) := rfl
theorem k71_5 : az_cd 71 5 = some (11, .getfield 33, 3, 6, 3, 0, [], [158]) := rfl
theorem k71_6 : az_cd 71 6 = some (14, .invokevirtual 105, 3, 18, 0, 0, [], [370, 371, 46, 373, 372]) := rfl
theorem k71_7 : az_cd 71 7 = some (17, .iconst 2, 1, 0, 0, 2, [], []) := rfl
theorem k71_8 : az_cd 71 8 = some (18, .iadd, 1, 0, 0, 0, [], []) := rfl
theorem k71_9 : az_cd 71 9 = some (19, .aload_n 0, 1, 0, 0, 0, [], []) := rfl
theorem k71_10 : az_cd 71 10 = some (20, .getfield 40, 3, 6, 4, 0, [], [160]) := rfl
theorem k71_11 : az_cd 71 11 = some (23, .invokevirtual 109, 3, 85, 0, 0, [], [374, 375, 47, 377, 376]) := rfl
theorem k71_12 : az_cd 71 12 = some (26, .isub, 1, 0, 0, 0, [], []) := rfl
theorem k71_13 : az_cd 71 13 = some (27, .goto 4, 3, 15, 0, 0, [], []) := rfl
theorem k71_14 : az_cd 71 14 = some (30, .iconst 0, 1, 0, 0, 0, [], []) := rfl
theorem k71_15 : az_cd 71 15 = some (31, .ireturn, 1, 0, 0, 0, [], []) := rfl
theorem k72_0 : az_cd 72 0 = some (0, .aload_n 0, 1, 0, 0, 0, [], []) := rfl
theorem k72_1 : az_cd 72 1 = some (1, .invokevirtual 112, 3, 71, 0, 0, [], [394, 366, 43, 368, 367]) := rfl
theorem k72_2 : az_cd 72 2 = some (4, .iconst 2, 1, 0, 0, 2, [], []) := rfl
theorem k72_3 : az_cd 72 3 = some (5, .isub, 1, 0, 0, 0, [], []) := rfl
theorem k72_4 : az_cd 72 4 = some (6, .istore_n 1, 1, 0, 0, 0, [], []) := rfl
theorem k72_5 : az_cd 72 5 = some (7, .iload_n 1, 1, 0, 0, 0, [], []) := rfl
theorem k72_6 : az_cd 72 6 = some (8, .ifCond .le 7, 3, 9, 0, 0, [], []) := rfl
theorem k72_7 : az_cd 72 7 = some (11, .iload_n 1, 1, 0, 0, 0, [], []) := rfl
theorem k72_8 : az_cd 72 8 = some (12, .goto 4, 3, 10, 0, 0, [], []) := rfl
theorem k72_9 : az_cd 72 9 = some (15, .iconst 0, 1, 0, 0, 0, [], []) := rfl
theorem k72_10 : az_cd 72 10 = some (16, .ireturn, 1, 0, 0, 0, [], []) := rfl
theorem k73_0 : az_cd 73 0 = some (0, .iload_n 1, 1, 0, 0, 0, [], []) := rfl
theorem k73_1 : az_cd 73 1 = some (1, .aload_n 0, 1, 0, 0, 0, [], []) := rfl
theorem k73_2 : az_cd 73 2 = some (2, .invokevirtual 115, 3, 72, 0, 0, [], [390, 391, 43, 393, 392]) := rfl
theorem k73_3 : az_cd 73 3 = some (5, .if_icmp .ge 5, 3, 6, 0, 0, [], []) := rfl
theorem k73_4 : az_cd 73 4 = some (8, .iconst 0, 1, 0, 0, 0, [], []) := rfl
theorem k73_5 : az_cd 73 5 = some (9, .ireturn, 1, 0, 0, 0, [], []) := rfl
theorem k73_6 : az_cd 73 6 = some (10, .iload_n 1, 1, 0, 0, 0, [], []) := rfl
theorem k73_7 : az_cd 73 7 = some (11, .aload_n 0, 1, 0, 0, 0, [], []) := rfl
theorem k73_8 : az_cd 73 8 = some (12, .invokevirtual 112, 3, 71, 0, 0, [], [394, 366, 43, 368, 367]) := rfl
theorem k73_9 : az_cd 73 9 = some (15, .iconst 1, 1, 0, 0, 1, [], []) := rfl
theorem k73_10 : az_cd 73 10 = some (16, .isub, 1, 0, 0, 0, [], []) := rfl
theorem k73_11 : az_cd 73 11 = some (17, .if_icmp .ne 7, 3, 14, 0, 0, [], []) := rfl
theorem k73_12 : az_cd 73 12 = some (20, .iconst 2, 1, 0, 0, 2, [], []) := rfl
theorem k73_13 : az_cd 73 13 = some (21, .goto 4, 3, 15, 0, 0, [], []) := rfl
theorem k73_14 : az_cd 73 14 = some (24, .iconst 1, 1, 0, 0, 1, [], []) := rfl
theorem k73_15 : az_cd 73 15 = some (25, .ireturn, 1, 0, 0, 0, [], []) := rfl
theorem k74_0 : az_cd 74 0 = some (0, .aload_n 0, 1, 0, 0, 0, [], []) := rfl
theorem k74_1 : az_cd 74 1 = some (1, .iload_n 1, 1, 0, 0, 0, [], []) := rfl
theorem k74_2 : az_cd 74 2 = some (2, .invokevirtual 118, 3, 73, 1, 0, [], [386, 387, 43, 389, 388]) := rfl
theorem k74_3 : az_cd 74 3 = some (5, .ifCond .eq 6, 3, 6, 0, 0, [], []) := rfl
theorem k74_4 : az_cd 74 4 = some (8, .bipush (-5), 2, 0, 0, (-5), [], []) := rfl
theorem k74_5 : az_cd 74 5 = some (10, .ireturn, 1, 0, 0, 0, [], []) := rfl
theorem k74_6 : az_cd 74 6 = some (11, .aload_n 0, 1, 0, 0, 0, [], []) := rfl
theorem k74_7 : az_cd 74 7 = some (12, .getfield 33, 3, 6, 3, 0, [], [158]) := rfl
theorem k74_8 : az_cd 74 8 = some (15, .aload_n 0, 1, 0, 0, 0, [], []) := rfl
theorem k74_9 : az_cd 74 9 = some (16, .getfield 40, 3, 6, 4, 0, [], [160]) := rfl
theorem k74_10 : az_cd 74 10 = some (19, .invokevirtual 109, 3, 85, 0, 0, [], [374, 375, 47, 377, 376]) := rfl
theorem k74_11 : az_cd 74 11 = some (22, .iload_n 1, 1, 0, 0, 0, [], []) := rfl
theorem k74_12 : az_cd 74 12 = some (23, .iadd, 1, 0, 0, 0, [], []) := rfl
theorem k74_13 : az_cd 74 13 = some (24, .invokevirtual 121, 3, 19, 1, 0, [], [439, 440, 46, 442, 441]) := rfl
theorem k74_14 : az_cd 74 14 = some (27, .ireturn, 1, 0, 0, 0, [], []) := rfl
theorem k75_0 : az_cd 75 0 = some (0, .aload_n 0, 1, 0, 0, 0, [], []) := rfl
theorem k75_1 : az_cd 75 1 = some (1, .getfield 40, 3, 6, 4, 0, [], [160]) := rfl
theorem k75_2 : az_cd 75 2 = some (4, .invokevirtual 101, 3, 84, 0, 0, [], [369, 256, 47, 258, 257]) := rfl
theorem k75_3 : az_cd 75 3 = some (7, .ifCond .eq 24, 3, 14, 0, 0, [], []) := rfl
theorem k75_4 : az_cd 75 4 = some (10, .aload_n 0, 1, 0, 0, 0, [], []) := rfl
theorem k75_5 : az_cd 75 5 = some (11, .iconst 0, 1, 0, 0, 0, [], []) := rfl
theorem k75_6 : az_cd 75 6 = some (12, .invokevirtual 118, 3, 73, 1, 0, [], [386, 387, 43, 389, 388]) := rfl
theorem k75_7 : az_cd 75 7 = some (15, .ifCond .ne 12, 3, 12, 0, 0, [], []) := rfl
theorem k75_8 : az_cd 75 8 = some (18, .aload_n 0, 1, 0, 0, 0, [], []) := rfl
theorem k75_9 : az_cd 75 9 = some (19, .invokevirtual 124, 3, 70, 0, 0, [], [395, 397, 43, 398, 4]) := rfl
theorem k75_10 : az_cd 75 10 = some (22, .bipush (-5), 2, 0, 0, (-5), [], []) := rfl
theorem k75_11 : az_cd 75 11 = some (24, .if_icmp .eq 7, 3, 14, 0, 0, [], []) := rfl
theorem k75_12 : az_cd 75 12 = some (27, .iconst 1, 1, 0, 0, 1, [], []) := rfl
theorem k75_13 : az_cd 75 13 = some (28, .goto 4, 3, 15, 0, 0, [], []) := rfl
theorem k75_14 : az_cd 75 14 = some (31, .iconst 0, 1, 0, 0, 0, [], []) := rfl
theorem k75_15 : az_cd 75 15 = some (32, .ireturn, 1, 0, 0, 0, [], []) := rfl
theorem k76_0 : az_cd 76 0 = some (0, .aload_n 0, 1, 0, 0, 0, [], []) := rfl
theorem k76_1 : az_cd 76 1 = some (1, .iconst 0, 1, 0, 0, 0, [], []) := rfl
theorem k76_2 : az_cd 76 2 = some (2, .invokevirtual 118, 3, 73, 1, 0, [], [386, 387, 43, 389, 388]) := rfl
theorem k76_3 : az_cd 76 3 = some (5, .lookupswitch 49 #[(0, 27), (1, 34)], 27, 14, 0, 0, [4, 7], []) := rfl
theorem k76_4 : az_cd 76 4 = some (32, .aload_n 0, 1, 0, 0, 0, [], []) := rfl
theorem k76_5 : az_cd 76 5 = some (33, .invokevirtual 127, 3, 77, 0, 0, [], [435, 437, 43, 438, 5]) := rfl
theorem k76_6 : az_cd 76 6 = some (36, .goto 22, 3, 16, 0, 0, [], []) := rfl
theorem k76_7 : az_cd 76 7 = some (39, .aload_n 0, 1, 0, 0, 0, [], []) := rfl
theorem k76_8 : az_cd 76 8 = some (40, .iconst 0, 1, 0, 0, 0, [], []) := rfl
theorem k76_9 : az_cd 76 9 = some (41, .invokevirtual 130, 3, 78, 1, 0, [], [457, 459, 43, 460, 6]) := rfl
theorem k76_10 : az_cd 76 10 = some (44, .aload_n 0, 1, 0, 0, 0, [], []) := rfl
theorem k76_11 : az_cd 76 11 = some (45, .getfield 40, 3, 6, 4, 0, [], [160]) := rfl
theorem k76_12 : az_cd 76 12 = some (48, .invokevirtual 134, 3, 88, 0, 0, [], [453, 454, 47, 456, 455]) := rfl
theorem k76_13 : az_cd 76 13 = some (51, .goto 7, 3, 16, 0, 0, [], []) := rfl
theorem k76_14 : az_cd 76 14 = some (54, .aload_n 0, 1, 0, 0, 0, [], []) := rfl
theorem k76_15 : az_cd 76 15 = some (55, .invokevirtual 137, 3, 79, 0, 0, [], [487, 489, 43, 490, 7]) := rfl
theorem k76_16 : az_cd 76 16 = some (58, .return_, 1, 0, 0, 0, [], []) := rfl
theorem k77_0 : az_cd 77 0 = some (0, .aload_n 0, 1, 0, 0, 0, [], []) := rfl
theorem k77_1 : az_cd 77 1 = some (1, .getfield 33, 3, 6, 3, 0, [], [158]) := rfl
theorem k77_2 : az_cd 77 2 = some (4, .aload_n 0, 1, 0, 0, 0, [], []) := rfl
theorem k77_3 : az_cd 77 3 = some (5, .getfield 40, 3, 6, 4, 0, [], [160]) := rfl
theorem k77_4 : az_cd 77 4 = some (8, .invokevirtual 109, 3, 85, 0, 0, [], [374, 375, 47, 377, 376]) := rfl
theorem k77_5 : az_cd 77 5 = some (11, .invokevirtual 121, 3, 19, 1, 0, [], [439, 440, 46, 442, 441]) := rfl
theorem k77_6 : az_cd 77 6 = some (14, .istore_n 1, 1, 0, 0, 0, [], []) := rfl
theorem k77_7 : az_cd 77 7 = some (15, .aload_n 0, 1, 0, 0, 0, [], []) := rfl
theorem k77_8 : az_cd 77 8 = some (16, .invokevirtual 124, 3, 70, 0, 0, [], [395, 397, 43, 398, 4]) := rfl
theorem k77_9 : az_cd 77 9 = some (19, .istore_n 2, 1, 0, 0, 0, [], []) := rfl
theorem k77_10 : az_cd 77 10 = some (20, .aload_n 0, 1, 0, 0, 0, [], []) := rfl
theorem k77_11 : az_cd 77 11 = some (21, .getfield 12, 3, 6, 0, 0, [], [154]) := rfl
theorem k77_12 : az_cd 77 12 = some (24, .iload_n 2, 1, 0, 0, 0, [], []) := rfl
theorem k77_13 : az_cd 77 13 = some (25, .aload_n 0, 1, 0, 0, 0, [], []) := rfl
theorem k77_14 : az_cd 77 14 = some (26, .getfield 33, 3, 6, 3, 0, [], [158]) := rfl
theorem k77_15 : az_cd 77 15 = some (29, .iload_n 1, 1, 0, 0, 0, [], []) := rfl
theorem k77_16 : az_cd 77 16 = some (30, .invokevirtual 80, 3, 13, 1, 0, [], [443, 260, 46, 262, 261]) := rfl
theorem k77_17 : az_cd 77 17 = some (33, .iconst 0, 1, 0, 0, 0, [], []) := rfl
theorem k77_18 : az_cd 77 18 = some (34, .invokevirtual 140, 3, 3, 3, 0, [], [444, 445, 44, 447, 446]) := rfl
theorem k77_19 : az_cd 77 19 = some (37, .aload_n 0, 1, 0, 0, 0, [], []) := rfl
theorem k77_20 : az_cd 77 20 = some (38, .getfield 40, 3, 6, 4, 0, [], [160]) := rfl
theorem k77_21 : az_cd 77 21 = some (41, .iload_n 1, 1, 0, 0, 0, [], []) := rfl
theorem k77_22 : az_cd 77 22 = some (42, .iload_n 2, 1, 0, 0, 0, [], []) := rfl
theorem k77_23 : az_cd 77 23 = some (43, .invokevirtual 144, 3, 89, 2, 0, [], [448, 449, 47, 451, 450]) := rfl
theorem k77_24 : az_cd 77 24 = some (46, .aload_n 0, 1, 0, 0, 0, [], []) := rfl
theorem k77_25 : az_cd 77 25 = some (47, .getfield 40, 3, 6, 4, 0, [], [160]) := rfl
theorem k77_26 : az_cd 77 26 = some (50, .invokevirtual 134, 3, 88, 0, 0, [], [453, 454, 47, 456, 455]) := rfl
theorem k77_27 : az_cd 77 27 = some (53, .return_, 1, 0, 0, 0, [], []) := rfl
theorem k78_0 : az_cd 78 0 = some (0, .aload_n 0, 1, 0, 0, 0, [], []) := rfl
theorem k78_1 : az_cd 78 1 = some (1, .invokevirtual 65, 3, 64, 0, 0, [], [403, 404, 43, 406, 405]) := rfl
theorem k78_2 : az_cd 78 2 = some (4, .astore_n 2, 1, 0, 0, 0, [], []) := rfl
theorem k78_3 : az_cd 78 3 = some (5, .aload_n 0, 1, 0, 0, 0, [], []) := rfl
theorem k78_4 : az_cd 78 4 = some (6, .iconst 1, 1, 0, 0, 1, [], []) := rfl
theorem k78_5 : az_cd 78 5 = some (7, .aload_n 0, 1, 0, 0, 0, [], []) := rfl
theorem k78_6 : az_cd 78 6 = some (8, .getfield 51, 3, 6, 6, 0, [], [164]) := rfl
theorem k78_7 : az_cd 78 7 = some (11, .isub, 1, 0, 0, 0, [], []) := rfl
theorem k78_8 : az_cd 78 8 = some (12, .invokevirtual 61, 3, 63, 1, 0, [], [407, 408, 43, 410, 409]) := rfl
theorem k78_9 : az_cd 78 9 = some (15, .astore_n 3, 1, 0, 0, 0, [], []) := rfl
theorem k78_10 : az_cd 78 10 = some (16, .aload_n 3, 1, 0, 0, 0, [], []) := rfl
theorem k78_11 : az_cd 78 11 = some (17, .aload_n 2, 1, 0, 0, 0, [], []) := rfl
theorem k78_12 : az_cd 78 12 = some (18, .invokevirtual 148, 3, 22, 0, 0, [], [461, 462, 45, 464, 463]) := rfl
theorem k78_13 : az_cd 78 13 = some (21, .iconst 1, 1, 0, 0, 1, [], []) := rfl
theorem k78_14 : az_cd 78 14 = some (22, .iadd, 1, 0, 0, 0, [], []) := rfl
theorem k78_15 : az_cd 78 15 = some (23, .iload_n 1, 1, 0, 0, 0, [], []) := rfl
theorem k78_16 : az_cd 78 16 = some (24, .invokevirtual 151, 3, 24, 2, 0, [], [465, 466, 45, 468, 467]) := rfl
theorem k78_17 : az_cd 78 17 = some (27, .iconst 0, 1, 0, 0, 0, [], []) := rfl
theorem k78_18 : az_cd 78 18 = some (28, .istore 4, 2, 0, 0, 0, [], []) := rfl
theorem k78_19 : az_cd 78 19 = some (30, .iload 4, 2, 0, 0, 0, [], []) := rfl
theorem k78_20 : az_cd 78 20 = some (32, .bipush 8, 2, 0, 0, 8, [], []) := rfl
theorem k78_21 : az_cd 78 21 = some (34, .if_icmp .ge 45, 3, 40, 0, 0, [], []) := rfl
theorem k78_22 : az_cd 78 22 = some (37, .aload_n 3, 1, 0, 0, 0, [], []) := rfl
theorem k78_23 : az_cd 78 23 = some (38, .iload 4, 2, 0, 0, 0, [], []) := rfl
theorem k78_24 : az_cd 78 24 = some (40, .aload_n 0, 1, 0, 0, 0, [], []) := rfl
theorem k78_25 : az_cd 78 25 = some (41, .getfield 33, 3, 6, 3, 0, [], [158]) := rfl
theorem k78_26 : az_cd 78 26 = some (44, .iload 4, 2, 0, 0, 0, [], []) := rfl
theorem k78_27 : az_cd 78 27 = some (46, .invokevirtual 76, 3, 14, 1, 0, [], [469, 470, 46, 472, 471]) := rfl
theorem k78_28 : az_cd 78 28 = some (49, .ifCond .eq 15, 3, 34, 0, 0, [], []) := rfl
theorem k78_29 : az_cd 78 29 = some (52, .aload_n 0, 1, 0, 0, 0, [], []) := rfl
theorem k78_30 : az_cd 78 30 = some (53, .getfield 40, 3, 6, 4, 0, [], [160]) := rfl
theorem k78_31 : az_cd 78 31 = some (56, .iload 4, 2, 0, 0, 0, [], []) := rfl
theorem k78_32 : az_cd 78 32 = some (58, .invokevirtual 155, 3, 90, 1, 0, [], [474, 475, 47, 477, 476]) := rfl
theorem k78_33 : az_cd 78 33 = some (61, .goto 9, 3, 37, 0, 0, [], []) := rfl
theorem k78_34 : az_cd 78 34 = some (64, .aload_n 2, 1, 0, 0, 0, [], []) := rfl
theorem k78_35 : az_cd 78 35 = some (65, .iload 4, 2, 0, 0, 0, [], []) := rfl
theorem k78_36 : az_cd 78 36 = some (67, .invokevirtual 69, 3, 25, 1, 0, [], [478, 479, 45, 481, 480]) := rfl
theorem k78_37 : az_cd 78 37 = some (70, .invokevirtual 158, 3, 26, 2, 0, [], [483, 484, 45, 486, 485]) := rfl
theorem k78_38 : az_cd 78 38 = some (73, .iinc 4 1, 3, 0, 0, 1, [], []) := rfl
theorem k78_39 : az_cd 78 39 = some (76, .goto (-46), 3, 19, 0, 0, [], []) := rfl
theorem k78_40 : az_cd 78 40 = some (79, .return_, 1, 0, 0, 0, [], []) := rfl
theorem k79_0 : az_cd 79 0 = some (0, .aload_n 0, 1, 0, 0, 0, [], []) := rfl
theorem k79_1 : az_cd 79 1 = some (1, .iconst 1, 1, 0, 0, 1, [], []) := rfl
theorem k79_2 : az_cd 79 2 = some (2, .aload_n 0, 1, 0, 0, 0, [], []) := rfl
theorem k79_3 : az_cd 79 3 = some (3, .getfield 51, 3, 6, 6, 0, [], [164]) := rfl
theorem k79_4 : az_cd 79 4 = some (6, .isub, 1, 0, 0, 0, [], []) := rfl
theorem k79_5 : az_cd 79 5 = some (7, .putfield 51, 3, 6, 6, 0, [], [164]) := rfl
theorem k79_6 : az_cd 79 6 = some (10, .aload_n 0, 1, 0, 0, 0, [], []) := rfl
theorem k79_7 : az_cd 79 7 = some (11, .dup, 1, 0, 0, 0, [], []) := rfl
theorem k79_8 : az_cd 79 8 = some (12, .getfield 58, 3, 6, 8, 0, [], [166]) := rfl
theorem k79_9 : az_cd 79 9 = some (15, .iconst 1, 1, 0, 0, 1, [], []) := rfl
theorem k79_10 : az_cd 79 10 = some (16, .iadd, 1, 0, 0, 0, [], []) := rfl
theorem k79_11 : az_cd 79 11 = some (17, .putfield 58, 3, 6, 8, 0, [], [166]) := rfl
theorem k79_12 : az_cd 79 12 = some (20, .aload_n 0, 1, 0, 0, 0, [], []) := rfl
theorem k79_13 : az_cd 79 13 = some (21, .getfield 33, 3, 6, 3, 0, [], [158]) := rfl
theorem k79_14 : az_cd 79 14 = some (24, .invokevirtual 161, 3, 16, 0, 0, [], [491, 354, 46, 356, 355]) := rfl
theorem k79_15 : az_cd 79 15 = some (27, .aload_n 0, 1, 0, 0, 0, [], []) := rfl
theorem k79_16 : az_cd 79 16 = some (28, .getfield 40, 3, 6, 4, 0, [], [160]) := rfl
theorem k79_17 : az_cd 79 17 = some (31, .invokevirtual 164, 3, 87, 0, 0, [], [492, 493, 47, 495, 494]) := rfl
theorem k79_18 : az_cd 79 18 = some (34, .return_, 1, 0, 0, 0, [], []) := rfl
theorem k80_0 : az_cd 80 0 = some (0, .aload_n 0, 1, 0, 0, 0, [], []) := rfl
theorem k80_1 : az_cd 80 1 = some (1, .getfield 40, 3, 6, 4, 0, [], [160]) := rfl
theorem k80_2 : az_cd 80 2 = some (4, .invokevirtual 101, 3, 84, 0, 0, [], [369, 256, 47, 258, 257]) := rfl
theorem k80_3 : az_cd 80 3 = some (7, .ifCond .ne 4, 3, 5, 0, 0, [], []) := rfl
theorem k80_4 : az_cd 80 4 = some (10, .return_, 1, 0, 0, 0, [], []) := rfl
theorem k80_5 : az_cd 80 5 = some (11, .aload_n 0, 1, 0, 0, 0, [], []) := rfl
theorem k80_6 : az_cd 80 6 = some (12, .iconst 0, 1, 0, 0, 0, [], []) := rfl
theorem k80_7 : az_cd 80 7 = some (13, .invokevirtual 118, 3, 73, 1, 0, [], [386, 387, 43, 389, 388]) := rfl
theorem k80_8 : az_cd 80 8 = some (16, .istore_n 1, 1, 0, 0, 0, [], []) := rfl
theorem k80_9 : az_cd 80 9 = some (17, .iload_n 1, 1, 0, 0, 0, [], []) := rfl
theorem k80_10 : az_cd 80 10 = some (18, .ifCond .ne 41, 3, 29, 0, 0, [], []) := rfl
theorem k80_11 : az_cd 80 11 = some (21, .aload_n 0, 1, 0, 0, 0, [], []) := rfl
theorem k80_12 : az_cd 80 12 = some (22, .getfield 33, 3, 6, 3, 0, [], [158]) := rfl
theorem k80_13 : az_cd 80 13 = some (25, .aload_n 0, 1, 0, 0, 0, [], []) := rfl
theorem k80_14 : az_cd 80 14 = some (26, .getfield 40, 3, 6, 4, 0, [], [160]) := rfl
theorem k80_15 : az_cd 80 15 = some (29, .invokevirtual 109, 3, 85, 0, 0, [], [374, 375, 47, 377, 376]) := rfl
theorem k80_16 : az_cd 80 16 = some (32, .invokevirtual 121, 3, 19, 1, 0, [], [439, 440, 46, 442, 441]) := rfl
theorem k80_17 : az_cd 80 17 = some (35, .istore_n 2, 1, 0, 0, 0, [], []) := rfl
theorem k80_18 : az_cd 80 18 = some (36, .aload_n 0, 1, 0, 0, 0, [], []) := rfl
theorem k80_19 : az_cd 80 19 = some (37, .getfield 12, 3, 6, 0, 0, [], [154]) := rfl
theorem k80_20 : az_cd 80 20 = some (40, .aload_n 0, 1, 0, 0, 0, [], []) := rfl
theorem k80_21 : az_cd 80 21 = some (41, .invokevirtual 124, 3, 70, 0, 0, [], [395, 397, 43, 398, 4]) := rfl
theorem k80_22 : az_cd 80 22 = some (44, .aload_n 0, 1, 0, 0, 0, [], []) := rfl
theorem k80_23 : az_cd 80 23 = some (45, .getfield 33, 3, 6, 3, 0, [], [158]) := rfl
theorem k80_24 : az_cd 80 24 = some (48, .iload_n 2, 1, 0, 0, 0, [], []) := rfl
theorem k80_25 : az_cd 80 25 = some (49, .invokevirtual 80, 3, 13, 1, 0, [], [443, 260, 46, 262, 261]) := rfl
theorem k80_26 : az_cd 80 26 = some (52, .iconst 1, 1, 0, 0, 1, [], []) := rfl
theorem k80_27 : az_cd 80 27 = some (53, .invokevirtual 140, 3, 3, 3, 0, [], [444, 445, 44, 447, 446]) := rfl
theorem k80_28 : az_cd 80 28 = some (56, .goto 13, 3, 35, 0, 0, [], []) := rfl
theorem k80_29 : az_cd 80 29 = some (59, .iload_n 1, 1, 0, 0, 0, [], []) := rfl
theorem k80_30 : az_cd 80 30 = some (60, .iconst 1, 1, 0, 0, 1, [], []) := rfl
theorem k80_31 : az_cd 80 31 = some (61, .if_icmp .ne 8, 3, 35, 0, 0, [], []) := rfl
theorem k80_32 : az_cd 80 32 = some (64, .aload_n 0, 1, 0, 0, 0, [], []) := rfl
theorem k80_33 : az_cd 80 33 = some (65, .iconst 1, 1, 0, 0, 1, [], []) := rfl
theorem k80_34 : az_cd 80 34 = some (66, .invokevirtual 130, 3, 78, 1, 0, [], [457, 459, 43, 460, 6]) := rfl
theorem k80_35 : az_cd 80 35 = some (69, .return_, 1, 0, 0, 0, [], []) := rfl
theorem k81_0 : az_cd 81 0 = some (0, .aload_n 0, 1, 0, 0, 0, [], []) := rfl
theorem k81_1 : az_cd 81 1 = some (1, .getfield 33, 3, 6, 3, 0, [], [158]) := rfl
theorem k81_2 : az_cd 81 2 = some (4, .invokevirtual 161, 3, 16, 0, 0, [], [491, 354, 46, 356, 355]) := rfl
theorem k81_3 : az_cd 81 3 = some (7, .aload_n 0, 1, 0, 0, 0, [], []) := rfl
theorem k81_4 : az_cd 81 4 = some (8, .getfield 40, 3, 6, 4, 0, [], [160]) := rfl
theorem k81_5 : az_cd 81 5 = some (11, .invokevirtual 164, 3, 87, 0, 0, [], [492, 493, 47, 495, 494]) := rfl
theorem k81_6 : az_cd 81 6 = some (14, .aload_n 0, 1, 0, 0, 0, [], []) := rfl
theorem k81_7 : az_cd 81 7 = some (15, .getfield 47, 3, 6, 5, 0, [], [162]) := rfl
theorem k81_8 : az_cd 81 8 = some (18, .invokevirtual 167, 3, 55, 0, 0, [], [518, 519, 48, 521, 520]) := rfl
theorem k81_9 : az_cd 81 9 = some (21, .aload_n 0, 1, 0, 0, 0, [], []) := rfl
theorem k81_10 : az_cd 81 10 = some (22, .dup, 1, 0, 0, 0, [], []) := rfl
theorem k81_11 : az_cd 81 11 = some (23, .getfield 55, 3, 6, 7, 0, [], [165]) := rfl
theorem k81_12 : az_cd 81 12 = some (26, .iconst 1, 1, 0, 0, 1, [], []) := rfl
theorem k81_13 : az_cd 81 13 = some (27, .iadd, 1, 0, 0, 0, [], []) := rfl
theorem k81_14 : az_cd 81 14 = some (28, .putfield 55, 3, 6, 7, 0, [], [165]) := rfl
theorem k81_15 : az_cd 81 15 = some (31, .return_, 1, 0, 0, 0, [], []) := rfl
theorem k82_0 : az_cd 82 0 = some (0, .aload_n 0, 1, 0, 0, 0, [], []) := rfl
theorem k82_1 : az_cd 82 1 = some (1, .getfield 12, 3, 6, 0, 0, [], [154]) := rfl
theorem k82_2 : az_cd 82 2 = some (4, .aload_n 1, 1, 0, 0, 0, [], []) := rfl
theorem k82_3 : az_cd 82 3 = some (5, .getfield 12, 3, 6, 0, 0, [], [154]) := rfl
theorem k82_4 : az_cd 82 4 = some (8, .invokevirtual 170, 3, 11, 1, 0, [], [275, 276, 44, 278, 277]) := rfl
theorem k82_5 : az_cd 82 5 = some (11, .aload_n 0, 1, 0, 0, 0, [], []) := rfl
theorem k82_6 : az_cd 82 6 = some (12, .getfield 23, 3, 6, 1, 0, [], [156]) := rfl
theorem k82_7 : az_cd 82 7 = some (15, .aload_n 1, 1, 0, 0, 0, [], []) := rfl
theorem k82_8 : az_cd 82 8 = some (16, .getfield 23, 3, 6, 1, 0, [], [156]) := rfl
theorem k82_9 : az_cd 82 9 = some (19, .invokevirtual 174, 3, 30, 1, 0, [], [282, 283, 45, 285, 284]) := rfl
theorem k82_10 : az_cd 82 10 = some (22, .aload_n 0, 1, 0, 0, 0, [], []) := rfl
theorem k82_11 : az_cd 82 11 = some (23, .getfield 27, 3, 6, 2, 0, [], [157]) := rfl
theorem k82_12 : az_cd 82 12 = some (26, .aload_n 1, 1, 0, 0, 0, [], []) := rfl
theorem k82_13 : az_cd 82 13 = some (27, .getfield 27, 3, 6, 2, 0, [], [157]) := rfl
theorem k82_14 : az_cd 82 14 = some (30, .invokevirtual 174, 3, 30, 1, 0, [], [282, 283, 45, 285, 284]) := rfl
theorem k82_15 : az_cd 82 15 = some (33, .aload_n 0, 1, 0, 0, 0, [], []) := rfl
theorem k82_16 : az_cd 82 16 = some (34, .getfield 33, 3, 6, 3, 0, [], [158]) := rfl
theorem k82_17 : az_cd 82 17 = some (37, .aload_n 1, 1, 0, 0, 0, [], []) := rfl
theorem k82_18 : az_cd 82 18 = some (38, .getfield 33, 3, 6, 3, 0, [], [158]) := rfl
theorem k82_19 : az_cd 82 19 = some (41, .invokevirtual 177, 3, 20, 1, 0, [], [287, 288, 46, 290, 289]) := rfl
theorem k82_20 : az_cd 82 20 = some (44, .aload_n 0, 1, 0, 0, 0, [], []) := rfl
theorem k82_21 : az_cd 82 21 = some (45, .getfield 40, 3, 6, 4, 0, [], [160]) := rfl
theorem k82_22 : az_cd 82 22 = some (48, .aload_n 1, 1, 0, 0, 0, [], []) := rfl
theorem k82_23 : az_cd 82 23 = some (49, .getfield 40, 3, 6, 4, 0, [], [160]) := rfl
theorem k82_24 : az_cd 82 24 = some (52, .invokevirtual 180, 3, 92, 1, 0, [], [292, 293, 47, 295, 294]) := rfl
theorem k82_25 : az_cd 82 25 = some (55, .aload_n 0, 1, 0, 0, 0, [], []) := rfl
theorem k82_26 : az_cd 82 26 = some (56, .getfield 47, 3, 6, 5, 0, [], [162]) := rfl
theorem k82_27 : az_cd 82 27 = some (59, .aload_n 1, 1, 0, 0, 0, [], []) := rfl
theorem k82_28 : az_cd 82 28 = some (60, .getfield 47, 3, 6, 5, 0, [], [162]) := rfl
theorem k82_29 : az_cd 82 29 = some (63, .invokevirtual 183, 3, 58, 1, 0, [], [297, 298, 48, 300, 299]) := rfl
theorem k82_30 : az_cd 82 30 = some (66, .aload_n 0, 1, 0, 0, 0, [], []) := rfl
theorem k82_31 : az_cd 82 31 = some (67, .aload_n 1, 1, 0, 0, 0, [], []) := rfl
theorem k82_32 : az_cd 82 32 = some (68, .getfield 51, 3, 6, 6, 0, [], [164]) := rfl
theorem k82_33 : az_cd 82 33 = some (71, .putfield 51, 3, 6, 6, 0, [], [164]) := rfl
theorem k82_34 : az_cd 82 34 = some (74, .aload_n 0, 1, 0, 0, 0, [], []) := rfl
theorem k82_35 : az_cd 82 35 = some (75, .aload_n 1, 1, 0, 0, 0, [], []) := rfl
theorem k82_36 : az_cd 82 36 = some (76, .getfield 55, 3, 6, 7, 0, [], [165]) := rfl
theorem k82_37 : az_cd 82 37 = some (79, .putfield 55, 3, 6, 7, 0, [], [165]) := rfl
theorem k82_38 : az_cd 82 38 = some (82, .aload_n 0, 1, 0, 0, 0, [], []) := rfl
theorem k82_39 : az_cd 82 39 = some (83, .aload_n 1, 1, 0, 0, 0, [], []) := rfl
theorem k82_40 : az_cd 82 40 = some (84, .getfield 58, 3, 6, 8, 0, [], [166]) := rfl
theorem k82_41 : az_cd 82 41 = some (87, .putfield 58, 3, 6, 8, 0, [], [166]) := rfl
theorem k82_42 : az_cd 82 42 = some (90, .return_, 1, 0, 0, 0, [], []) := rfl
theorem k83_0 : az_cd 83 0 = some (0, .aload_n 0, 1, 0, 0, 0, [], []) := rfl
theorem k83_1 : az_cd 83 1 = some (1, .invokespecial 3, 3, 196, 0, 2, [], [125, 61, 62]) := rfl
theorem k83_2 : az_cd 83 2 = some (4, .aload_n 0, 1, 0, 0, 0, [], []) := rfl
theorem k83_3 : az_cd 83 3 = some (5, .bipush 8, 2, 0, 0, 8, [], []) := rfl
theorem k83_4 : az_cd 83 4 = some (7, .newarray .int, 2, 0, 0, 0, [], [91]) := rfl
theorem k83_5 : az_cd 83 5 = some (9, .putfield 9, 3, 7, 2, 0, [], [129]) := rfl
theorem k83_6 : az_cd 83 6 = some (12, .aload_n 0, 1, 0, 0, 0, [], []) := rfl
theorem k83_7 : az_cd 83 7 = some (13, .iconst 0, 1, 0, 0, 0, [], []) := rfl
theorem k83_8 : az_cd 83 8 = some (14, .putfield 15, 3, 7, 0, 0, [], [127]) := rfl
theorem k83_9 : az_cd 83 9 = some (17, .aload_n 0, 1, 0, 0, 0, [], []) := rfl
theorem k83_10 : az_cd 83 10 = some (18, .iconst 0, 1, 0, 0, 0, [], []) := rfl
theorem k83_11 : az_cd 83 11 = some (19, .putfield 19, 3, 7, 1, 0, [], [128]) := rfl
theorem k83_12 : az_cd 83 12 = some (22, .aload_n 0, 1, 0, 0, 0, [], []) := rfl
theorem k83_13 : az_cd 83 13 = some (23, .getfield 9, 3, 7, 2, 0, [], [129]) := rfl
theorem k83_14 : az_cd 83 14 = some (26, .bipush (-5), 2, 0, 0, (-5), [], []) := rfl
theorem k83_15 : az_cd 83 15 = some (28, .invokestatic 23, 3, 124, 2, 1, [], [126, 79, 42, 80]) := rfl
theorem k83_16 : az_cd 83 16 = some (31, .return_, 1, 0, 0, 0, [], []) := rfl
theorem k84_0 : az_cd 84 0 = some (0, .aload_n 0, 1, 0, 0, 0, [], []) := rfl
theorem k84_1 : az_cd 84 1 = some (1, .getfield 15, 3, 7, 0, 0, [], [127]) := rfl
theorem k84_2 : az_cd 84 2 = some (4, .ireturn, 1, 0, 0, 0, [], []) := rfl
theorem k85_0 : az_cd 85 0 = some (0, .aload_n 0, 1, 0, 0, 0, [], []) := rfl
theorem k85_1 : az_cd 85 1 = some (1, .getfield 19, 3, 7, 1, 0, [], [128]) := rfl
theorem k85_2 : az_cd 85 2 = some (4, .ireturn, 1, 0, 0, 0, [], []) := rfl
theorem k86_0 : az_cd 86 0 = some (0, .aload_n 0, 1, 0, 0, 0, [], []) := rfl
theorem k86_1 : az_cd 86 1 = some (1, .iconst 1, 1, 0, 0, 1, [], []) := rfl
theorem k86_2 : az_cd 86 2 = some (2, .putfield 15, 3, 7, 0, 0, [], [127]) := rfl
theorem k86_3 : az_cd 86 3 = some (5, .return_, 1, 0, 0, 0, [], []) := rfl
theorem k87_0 : az_cd 87 0 = some (0, .aload_n 0, 1, 0, 0, 0, [], []) := rfl
theorem k87_1 : az_cd 87 1 = some (1, .iconst 0, 1, 0, 0, 0, [], []) := rfl
theorem k87_2 : az_cd 87 2 = some (2, .putfield 15, 3, 7, 0, 0, [], [127]) := rfl
theorem k87_3 : az_cd 87 3 = some (5, .aload_n 0, 1, 0, 0, 0, [], []) := rfl
theorem k87_4 : az_cd 87 4 = some (6, .iconst 0, 1, 0, 0, 0, [], []) := rfl
theorem k87_5 : az_cd 87 5 = some (7, .putfield 19, 3, 7, 1, 0, [], [128]) := rfl
theorem k87_6 : az_cd 87 6 = some (10, .aload_n 0, 1, 0, 0, 0, [], []) := rfl
theorem k87_7 : az_cd 87 7 = some (11, .getfield 9, 3, 7, 2, 0, [], [129]) := rfl
theorem k87_8 : az_cd 87 8 = some (14, .bipush (-5), 2, 0, 0, (-5), [], []) := rfl
theorem k87_9 : az_cd 87 9 = some (16, .invokestatic 23, 3, 124, 2, 1, [], [126, 79, 42, 80]) := rfl
theorem k87_10 : az_cd 87 10 = some (19, .return_, 1, 0, 0, 0, [], []) := rfl
theorem k88_0 : az_cd 88 0 = some (0, .aload_n 0, 1, 0, 0, 0, [], []) := rfl
theorem k88_1 : az_cd 88 1 = some (1, .dup, 1, 0, 0, 0, [], []) := rfl
theorem k88_2 : az_cd 88 2 = some (2, .getfield 19, 3, 7, 1, 0, [], [128]) := rfl
theorem k88_3 : az_cd 88 3 = some (5, .iconst 1, 1, 0, 0, 1, [], []) := rfl
theorem k88_4 : az_cd 88 4 = some (6, .iadd, 1, 0, 0, 0, [], []) := rfl
theorem k88_5 : az_cd 88 5 = some (7, .putfield 19, 3, 7, 1, 0, [], [128]) := rfl
theorem k88_6 : az_cd 88 6 = some (10, .return_, 1, 0, 0, 0, [], []) := rfl
theorem k89_0 : az_cd 89 0 = some (0, .iload_n 1, 1, 0, 0, 0, [], []) := rfl
theorem k89_1 : az_cd 89 1 = some (1, .invokestatic 27, 3, 121, 1, 1, [], [452, 249, 42, 250]) := rfl
theorem k89_2 : az_cd 89 2 = some (4, .ifCond .eq 10, 3, 8, 0, 0, [], []) := rfl
theorem k89_3 : az_cd 89 3 = some (7, .aload_n 0, 1, 0, 0, 0, [], []) := rfl
theorem k89_4 : az_cd 89 4 = some (8, .getfield 9, 3, 7, 2, 0, [], [129]) := rfl
theorem k89_5 : az_cd 89 5 = some (11, .iload_n 1, 1, 0, 0, 0, [], []) := rfl
theorem k89_6 : az_cd 89 6 = some (12, .iload_n 2, 1, 0, 0, 0, [], []) := rfl
theorem k89_7 : az_cd 89 7 = some (13, .iastore, 1, 0, 0, 0, [], []) := rfl
theorem k89_8 : az_cd 89 8 = some (14, .return_, 1, 0, 0, 0, [], []) := rfl
theorem k90_0 : az_cd 90 0 = some (0, .iload_n 1, 1, 0, 0, 0, [], []) := rfl
theorem k90_1 : az_cd 90 1 = some (1, .invokestatic 27, 3, 121, 1, 1, [], [452, 249, 42, 250]) := rfl
theorem k90_2 : az_cd 90 2 = some (4, .ifCond .eq 12, 3, 8, 0, 0, [], []) := rfl
theorem k90_3 : az_cd 90 3 = some (7, .aload_n 0, 1, 0, 0, 0, [], []) := rfl
theorem k90_4 : az_cd 90 4 = some (8, .getfield 9, 3, 7, 2, 0, [], [129]) := rfl
theorem k90_5 : az_cd 90 5 = some (11, .iload_n 1, 1, 0, 0, 0, [], []) := rfl
theorem k90_6 : az_cd 90 6 = some (12, .iaload, 1, 0, 0, 0, [], []) := rfl
theorem k90_7 : az_cd 90 7 = some (13, .goto 5, 3, 9, 0, 0, [], []) := rfl
theorem k90_8 : az_cd 90 8 = some (16, .bipush (-5), 2, 0, 0, (-5), [], []) := rfl
theorem k90_9 : az_cd 90 9 = some (18, .ireturn, 1, 0, 0, 0, [], []) := rfl
theorem k91_0 : az_cd 91 0 = some (0, .iconst 0, 1, 0, 0, 0, [], []) := rfl
theorem k91_1 : az_cd 91 1 = some (1, .istore_n 2, 1, 0, 0, 0, [], []) := rfl
theorem k91_2 : az_cd 91 2 = some (2, .iload_n 2, 1, 0, 0, 0, [], []) := rfl
theorem k91_3 : az_cd 91 3 = some (3, .bipush 8, 2, 0, 0, 8, [], []) := rfl
theorem k91_4 : az_cd 91 4 = some (5, .if_icmp .ge 21, 3, 15, 0, 0, [], []) := rfl
theorem k91_5 : az_cd 91 5 = some (8, .aload_n 0, 1, 0, 0, 0, [], []) := rfl
theorem k91_6 : az_cd 91 6 = some (9, .getfield 9, 3, 7, 2, 0, [], [129]) := rfl
theorem k91_7 : az_cd 91 7 = some (12, .iload_n 2, 1, 0, 0, 0, [], []) := rfl
theorem k91_8 : az_cd 91 8 = some (13, .iaload, 1, 0, 0, 0, [], []) := rfl
theorem k91_9 : az_cd 91 9 = some (14, .iload_n 1, 1, 0, 0, 0, [], []) := rfl
theorem k91_10 : az_cd 91 10 = some (15, .if_icmp .ne 5, 3, 13, 0, 0, [], []) := rfl
theorem k91_11 : az_cd 91 11 = some (18, .iload_n 2, 1, 0, 0, 0, [], []) := rfl
theorem k91_12 : az_cd 91 12 = some (19, .ireturn, 1, 0, 0, 0, [], []) := rfl
theorem k91_13 : az_cd 91 13 = some (20, .iinc 2 1, 3, 0, 0, 1, [], []) := rfl
theorem k91_14 : az_cd 91 14 = some (23, .goto (-21), 3, 2, 0, 0, [], []) := rfl
theorem k91_15 : az_cd 91 15 = some (26, .bipush (-5), 2, 0, 0, (-5), [], []) := rfl
theorem k91_16 : az_cd 91 16 = some (28, .ireturn, 1, 0, 0, 0, [], []) := rfl
theorem k92_0 : az_cd 92 0 = some (0, .aload_n 0, 1, 0, 0, 0, [], []) := rfl
theorem k92_1 : az_cd 92 1 = some (1, .aload_n 1, 1, 0, 0, 0, [], []) := rfl
theorem k92_2 : az_cd 92 2 = some (2, .getfield 15, 3, 7, 0, 0, [], [127]) := rfl
theorem k92_3 : az_cd 92 3 = some (5, .putfield 15, 3, 7, 0, 0, [], [127]) := rfl
theorem k92_4 : az_cd 92 4 = some (8, .aload_n 0, 1, 0, 0, 0, [], []) := rfl
theorem k92_5 : az_cd 92 5 = some (9, .aload_n 1, 1, 0, 0, 0, [], []) := rfl
theorem k92_6 : az_cd 92 6 = some (10, .getfield 19, 3, 7, 1, 0, [], [128]) := rfl
theorem k92_7 : az_cd 92 7 = some (13, .putfield 19, 3, 7, 1, 0, [], [128]) := rfl
theorem k92_8 : az_cd 92 8 = some (16, .aload_n 1, 1, 0, 0, 0, [], []) := rfl
theorem k92_9 : az_cd 92 9 = some (17, .getfield 9, 3, 7, 2, 0, [], [129]) := rfl
theorem k92_10 : az_cd 92 10 = some (20, .aload_n 0, 1, 0, 0, 0, [], []) := rfl
theorem k92_11 : az_cd 92 11 = some (21, .getfield 9, 3, 7, 2, 0, [], [129]) := rfl
theorem k92_12 : az_cd 92 12 = some (24, .invokestatic 31, 3, 125, 2, 1, [], [296, 280, 42, 281]) := rfl
theorem k92_13 : az_cd 92 13 = some (27, .return_, 1, 0, 0, 0, [], []) := rfl
theorem k93_0 : az_cd 93 0 = some (0, .aload_n 0, 1, 0, 0, 0, [], []) := rfl
theorem k93_1 : az_cd 93 1 = some (1, .invokespecial 3, 3, 196, 0, 2, [], [60, 61, 62]) := rfl
theorem k93_2 : az_cd 93 2 = some (4, .aload_n 0, 1, 0, 0, 0, [], []) := rfl
theorem k93_3 : az_cd 93 3 = some (5, .new 9, 3, 6, 9, 0, [], [63, 64, 43]) := rfl
theorem k93_4 : az_cd 93 4 = some (8, .dup, 1, 0, 0, 0, [], []) := rfl
theorem k93_5 : az_cd 93 5 = some (9, .invokespecial 11, 3, 59, 0, 0, [], [65, 66, 43, 67]) := rfl
theorem k93_6 : az_cd 93 6 = some (12, .putfield 12, 3, 8, 0, 0, [], [228]) := rfl
theorem k93_7 : az_cd 93 7 = some (15, .aload_n 0, 1, 0, 0, 0, [], []) := rfl
theorem k93_8 : az_cd 93 8 = some (16, .new 9, 3, 6, 9, 0, [], [63, 64, 43]) := rfl
theorem k93_9 : az_cd 93 9 = some (19, .dup, 1, 0, 0, 0, [], []) := rfl
theorem k93_10 : az_cd 93 10 = some (20, .invokespecial 11, 3, 59, 0, 0, [], [65, 66, 43, 67]) := rfl
theorem k93_11 : az_cd 93 11 = some (23, .putfield 16, 3, 8, 1, 0, [], [229]) := rfl
theorem k93_12 : az_cd 93 12 = some (26, .aload_n 0, 1, 0, 0, 0, [], []) := rfl
theorem k93_13 : az_cd 93 13 = some (27, .new 19, 3, 3, 3, 0, [], [186, 187, 49]) := rfl
theorem k93_14 : az_cd 93 14 = some (30, .dup, 1, 0, 0, 0, [], []) := rfl
theorem k93_15 : az_cd 93 15 = some (31, .invokespecial 21, 3, 31, 0, 0, [], [188, 189, 49, 190]) := rfl
theorem k93_16 : az_cd 93 16 = some (34, .putfield 22, 3, 8, 2, 0, [], [230]) := rfl
theorem k93_17 : az_cd 93 17 = some (37, .aload_n 0, 1, 0, 0, 0, [], []) := rfl
theorem k93_18 : az_cd 93 18 = some (38, .new 26, 3, 4, 5, 0, [], [205, 206, 50]) := rfl
theorem k93_19 : az_cd 93 19 = some (41, .dup, 1, 0, 0, 0, [], []) := rfl
theorem k93_20 : az_cd 93 20 = some (42, .invokespecial 28, 3, 35, 0, 0, [], [207, 208, 50, 209]) := rfl
theorem k93_21 : az_cd 93 21 = some (45, .putfield 29, 3, 8, 3, 0, [], [231]) := rfl
theorem k93_22 : az_cd 93 22 = some (48, .aload_n 0, 1, 0, 0, 0, [], []) := rfl
theorem k93_23 : az_cd 93 23 = some (49, .iconst 0, 1, 0, 0, 0, [], []) := rfl
theorem k93_24 : az_cd 93 24 = some (50, .putfield 33, 3, 8, 4, 0, [], [232]) := rfl
theorem k93_25 : az_cd 93 25 = some (53, .return_, 1, 0, 0, 0, [], []) := rfl
theorem k94_0 : az_cd 94 0 = some (0, .iload_n 1, 1, 0, 0, 0, [], []) := rfl
theorem k94_1 : az_cd 94 1 = some (1, .invokestatic 37, 3, 121, 1, 0, [], [248, 249, 42, 250]) := rfl
theorem k94_2 : az_cd 94 2 = some (4, .ifCond .ne 5, 3, 5, 0, 0, [], []) := rfl
theorem k94_3 : az_cd 94 3 = some (7, .iconst (-1), 1, 0, 0, (-1), [], []) := rfl
theorem k94_4 : az_cd 94 4 = some (8, .ireturn, 1, 0, 0, 0, [], []) := rfl
theorem k94_5 : az_cd 94 5 = some (9, .iload_n 2, 1, 0, 0, 0, [], []) := rfl
theorem k94_6 : az_cd 94 6 = some (10, .ifCond .lt 10, 3, 10, 0, 0, [], []) := rfl
theorem k94_7 : az_cd 94 7 = some (13, .iload_n 2, 1, 0, 0, 0, [], []) := rfl
theorem k94_8 : az_cd 94 8 = some (14, .sipush 999, 3, 0, 0, 999, [], []) := rfl
theorem k94_9 : az_cd 94 9 = some (17, .if_icmp .le 6, 3, 12, 0, 0, [], []) := rfl
theorem k94_10 : az_cd 94 10 = some (20, .bipush (-2), 2, 0, 0, (-2), [], []) := rfl
theorem k94_11 : az_cd 94 11 = some (22, .ireturn, 1, 0, 0, 0, [], []) := rfl
theorem k94_12 : az_cd 94 12 = some (23, .aload_n 0, 1, 0, 0, 0, [], []) := rfl
theorem k94_13 : az_cd 94 13 = some (24, .iload_n 1, 1, 0, 0, 0, [], []) := rfl
theorem k94_14 : az_cd 94 14 = some (25, .iload_n 2, 1, 0, 0, 0, [], []) := rfl
theorem k94_15 : az_cd 94 15 = some (26, .invokevirtual 41, 3, 96, 2, 0, [], [251, 253, 42, 254, 0]) := rfl
theorem k94_16 : az_cd 94 16 = some (29, .ireturn, 1, 0, 0, 0, [], []) := rfl
theorem k95_0 : az_cd 95 0 = some (0, .iload_n 1, 1, 0, 0, 0, [], []) := rfl
theorem k95_1 : az_cd 95 1 = some (1, .invokestatic 37, 3, 121, 1, 0, [], [248, 249, 42, 250]) := rfl
theorem k95_2 : az_cd 95 2 = some (4, .ifCond .ne 5, 3, 5, 0, 0, [], []) := rfl
theorem k95_3 : az_cd 95 3 = some (7, .iconst (-1), 1, 0, 0, (-1), [], []) := rfl
theorem k95_4 : az_cd 95 4 = some (8, .ireturn, 1, 0, 0, 0, [], []) := rfl
theorem k95_5 : az_cd 95 5 = some (9, .aload_n 0, 1, 0, 0, 0, [], []) := rfl
theorem k95_6 : az_cd 95 6 = some (10, .iload_n 1, 1, 0, 0, 0, [], []) := rfl
theorem k95_7 : az_cd 95 7 = some (11, .bipush (-5), 2, 0, 0, (-5), [], []) := rfl
theorem k95_8 : az_cd 95 8 = some (13, .invokevirtual 41, 3, 96, 2, 0, [], [251, 253, 42, 254, 0]) := rfl
theorem k95_9 : az_cd 95 9 = some (16, .ireturn, 1, 0, 0, 0, [], []) := rfl
theorem k96_0 : az_cd 96 0 = some (0, .aload_n 0, 1, 0, 0, 0, [], []) := rfl
theorem k96_1 : az_cd 96 1 = some (1, .getfield 12, 3, 8, 0, 0, [], [228]) := rfl
theorem k96_2 : az_cd 96 2 = some (4, .getfield 47, 3, 6, 4, 1, [], [161]) := rfl
theorem k96_3 : az_cd 96 3 = some (7, .invokevirtual 51, 3, 84, 0, 0, [], [255, 256, 47, 258, 257]) := rfl
theorem k96_4 : az_cd 96 4 = some (10, .ifCond .eq 6, 3, 7, 0, 0, [], []) := rfl
theorem k96_5 : az_cd 96 5 = some (13, .bipush (-4), 2, 0, 0, (-4), [], []) := rfl
theorem k96_6 : az_cd 96 6 = some (15, .ireturn, 1, 0, 0, 0, [], []) := rfl
theorem k96_7 : az_cd 96 7 = some (16, .aload_n 0, 1, 0, 0, 0, [], []) := rfl
theorem k96_8 : az_cd 96 8 = some (17, .getfield 12, 3, 8, 0, 0, [], [228]) := rfl
theorem k96_9 : az_cd 96 9 = some (20, .getfield 57, 3, 6, 3, 1, [], [159]) := rfl
theorem k96_10 : az_cd 96 10 = some (23, .iload_n 1, 1, 0, 0, 0, [], []) := rfl
theorem k96_11 : az_cd 96 11 = some (24, .invokevirtual 61, 3, 13, 1, 0, [], [259, 260, 46, 262, 261]) := rfl
theorem k96_12 : az_cd 96 12 = some (27, .iload_n 2, 1, 0, 0, 0, [], []) := rfl
theorem k96_13 : az_cd 96 13 = some (28, .if_icmp .ne 6, 3, 16, 0, 0, [], []) := rfl
theorem k96_14 : az_cd 96 14 = some (31, .bipush (-5), 2, 0, 0, (-5), [], []) := rfl
theorem k96_15 : az_cd 96 15 = some (33, .ireturn, 1, 0, 0, 0, [], []) := rfl
theorem k96_16 : az_cd 96 16 = some (34, .aload_n 0, 1, 0, 0, 0, [], []) := rfl
theorem k96_17 : az_cd 96 17 = some (35, .getfield 22, 3, 8, 2, 0, [], [230]) := rfl
theorem k96_18 : az_cd 96 18 = some (38, .aload_n 0, 1, 0, 0, 0, [], []) := rfl
theorem k96_19 : az_cd 96 19 = some (39, .getfield 12, 3, 8, 0, 0, [], [228]) := rfl
theorem k96_20 : az_cd 96 20 = some (42, .invokevirtual 65, 3, 33, 1, 0, [], [264, 265, 49, 267, 266]) := rfl
theorem k96_21 : az_cd 96 21 = some (45, .aload_n 0, 1, 0, 0, 0, [], []) := rfl
theorem k96_22 : az_cd 96 22 = some (46, .getfield 12, 3, 8, 0, 0, [], [228]) := rfl
theorem k96_23 : az_cd 96 23 = some (49, .getfield 57, 3, 6, 3, 1, [], [159]) := rfl
theorem k96_24 : az_cd 96 24 = some (52, .iload_n 1, 1, 0, 0, 0, [], []) := rfl
theorem k96_25 : az_cd 96 25 = some (53, .iload_n 2, 1, 0, 0, 0, [], []) := rfl
theorem k96_26 : az_cd 96 26 = some (54, .invokevirtual 69, 3, 15, 2, 0, [], [302, 303, 46, 305, 304]) := rfl
theorem k96_27 : az_cd 96 27 = some (57, .aload_n 0, 1, 0, 0, 0, [], []) := rfl
theorem k96_28 : az_cd 96 28 = some (58, .getfield 12, 3, 8, 0, 0, [], [228]) := rfl
theorem k96_29 : az_cd 96 29 = some (61, .getfield 57, 3, 6, 3, 1, [], [159]) := rfl
theorem k96_30 : az_cd 96 30 = some (64, .invokevirtual 73, 3, 17, 0, 0, [], [306, 307, 46, 309, 308]) := rfl
theorem k96_31 : az_cd 96 31 = some (67, .ireturn, 1, 0, 0, 0, [], []) := rfl
theorem k97_0 : az_cd 97 0 = some (0, .aload_n 0, 1, 0, 0, 0, [], []) := rfl
theorem k97_1 : az_cd 97 1 = some (1, .getfield 29, 3, 8, 3, 0, [], [231]) := rfl
theorem k97_2 : az_cd 97 2 = some (4, .invokevirtual 77, 3, 43, 0, 0, [], [318, 319, 50, 321, 320]) := rfl
theorem k97_3 : az_cd 97 3 = some (7, .istore_n 1, 1, 0, 0, 0, [], []) := rfl
theorem k97_4 : az_cd 97 4 = some (8, .iload_n 1, 1, 0, 0, 0, [], []) := rfl
theorem k97_5 : az_cd 97 5 = some (9, .iconst (-1), 1, 0, 0, (-1), [], []) := rfl
theorem k97_6 : az_cd 97 6 = some (10, .if_icmp .eq 8, 3, 11, 0, 0, [], []) := rfl
theorem k97_7 : az_cd 97 7 = some (13, .bipush (-100), 2, 0, 0, (-100), [], []) := rfl
theorem k97_8 : az_cd 97 8 = some (15, .iload_n 1, 1, 0, 0, 0, [], []) := rfl
theorem k97_9 : az_cd 97 9 = some (16, .isub, 1, 0, 0, 0, [], []) := rfl
theorem k97_10 : az_cd 97 10 = some (17, .ireturn, 1, 0, 0, 0, [], []) := rfl
theorem k97_11 : az_cd 97 11 = some (18, .aload_n 0, 1, 0, 0, 0, [], []) := rfl
theorem k97_12 : az_cd 97 12 = some (19, .getfield 12, 3, 8, 0, 0, [], [228]) := rfl
theorem k97_13 : az_cd 97 13 = some (22, .getfield 47, 3, 6, 4, 1, [], [161]) := rfl
theorem k97_14 : az_cd 97 14 = some (25, .invokevirtual 51, 3, 84, 0, 0, [], [255, 256, 47, 258, 257]) := rfl
theorem k97_15 : az_cd 97 15 = some (28, .ifCond .eq 6, 3, 18, 0, 0, [], []) := rfl
theorem k97_16 : az_cd 97 16 = some (31, .bipush (-4), 2, 0, 0, (-4), [], []) := rfl
theorem k97_17 : az_cd 97 17 = some (33, .ireturn, 1, 0, 0, 0, [], []) := rfl
theorem k97_18 : az_cd 97 18 = some (34, .aload_n 0, 1, 0, 0, 0, [], []) := rfl
theorem k97_19 : az_cd 97 19 = some (35, .getfield 22, 3, 8, 2, 0, [], [230]) := rfl
theorem k97_20 : az_cd 97 20 = some (38, .aload_n 0, 1, 0, 0, 0, [], []) := rfl
theorem k97_21 : az_cd 97 21 = some (39, .getfield 12, 3, 8, 0, 0, [], [228]) := rfl
theorem k97_22 : az_cd 97 22 = some (42, .invokevirtual 65, 3, 33, 1, 0, [], [264, 265, 49, 267, 266]) := rfl
theorem k97_23 : az_cd 97 23 = some (45, .aload_n 0, 1, 0, 0, 0, [], []) := rfl
theorem k97_24 : az_cd 97 24 = some (46, .getfield 29, 3, 8, 3, 0, [], [231]) := rfl
theorem k97_25 : az_cd 97 25 = some (49, .invokevirtual 80, 3, 40, 0, 0, [], [337, 338, 50, 340, 339]) := rfl
theorem k97_26 : az_cd 97 26 = some (52, .istore_n 2, 1, 0, 0, 0, [], []) := rfl
theorem k97_27 : az_cd 97 27 = some (53, .iconst 0, 1, 0, 0, 0, [], []) := rfl
theorem k97_28 : az_cd 97 28 = some (54, .istore_n 3, 1, 0, 0, 0, [], []) := rfl
theorem k97_29 : az_cd 97 29 = some (55, .iload_n 3, 1, 0, 0, 0, [], []) := rfl
theorem k97_30 : az_cd 97 30 = some (56, .iload_n 2, 1, 0, 0, 0, [], []) := rfl
theorem k97_31 : az_cd 97 31 = some (57, .if_icmp .ge 35, 3, 46, 0, 0, [], []) := rfl
theorem k97_32 : az_cd 97 32 = some (60, .aload_n 0, 1, 0, 0, 0, [], []) := rfl
theorem k97_33 : az_cd 97 33 = some (61, .getfield 12, 3, 8, 0, 0, [], [228]) := rfl
theorem k97_34 : az_cd 97 34 = some (64, .getfield 57, 3, 6, 3, 1, [], [159]) := rfl
theorem k97_35 : az_cd 97 35 = some (67, .aload_n 0, 1, 0, 0, 0, [], []) := rfl
theorem k97_36 : az_cd 97 36 = some (68, .getfield 29, 3, 8, 3, 0, [], [231]) := rfl
theorem k97_37 : az_cd 97 37 = some (71, .iload_n 3, 1, 0, 0, 0, [], []) := rfl
theorem k97_38 : az_cd 97 38 = some (72, .invokevirtual 83, 3, 41, 1, 0, [], [341, 342, 50, 344, 343]) := rfl
theorem k97_39 : az_cd 97 39 = some (75, .aload_n 0, 1, 0, 0, 0, [], []) := rfl
theorem k97_40 : az_cd 97 40 = some (76, .getfield 29, 3, 8, 3, 0, [], [231]) := rfl
theorem k97_41 : az_cd 97 41 = some (79, .iload_n 3, 1, 0, 0, 0, [], []) := rfl
theorem k97_42 : az_cd 97 42 = some (80, .invokevirtual 86, 3, 42, 1, 0, [], [345, 346, 50, 348, 347]) := rfl
theorem k97_43 : az_cd 97 43 = some (83, .invokevirtual 69, 3, 15, 2, 0, [], [302, 303, 46, 305, 304]) := rfl
theorem k97_44 : az_cd 97 44 = some (86, .iinc 3 1, 3, 0, 0, 1, [], []) := rfl
theorem k97_45 : az_cd 97 45 = some (89, .goto (-34), 3, 29, 0, 0, [], []) := rfl
theorem k97_46 : az_cd 97 46 = some (92, .iload_n 2, 1, 0, 0, 0, [], []) := rfl
theorem k97_47 : az_cd 97 47 = some (93, .ireturn, 1, 0, 0, 0, [], []) := rfl
theorem k98_0 : az_cd 98 0 = some (0, .aload_n 0, 1, 0, 0, 0, [], []) := rfl
theorem k98_1 : az_cd 98 1 = some (1, .getfield 12, 3, 8, 0, 0, [], [228]) := rfl
theorem k98_2 : az_cd 98 2 = some (4, .getfield 47, 3, 6, 4, 1, [], [161]) := rfl
theorem k98_3 : az_cd 98 3 = some (7, .invokevirtual 51, 3, 84, 0, 0, [], [255, 256, 47, 258, 257]) := rfl
theorem k98_4 : az_cd 98 4 = some (10, .ifCond .eq 6, 3, 7, 0, 0, [], []) := rfl
theorem k98_5 : az_cd 98 5 = some (13, .bipush (-4), 2, 0, 0, (-4), [], []) := rfl
theorem k98_6 : az_cd 98 6 = some (15, .ireturn, 1, 0, 0, 0, [], []) := rfl
theorem k98_7 : az_cd 98 7 = some (16, .aload_n 0, 1, 0, 0, 0, [], []) := rfl
theorem k98_8 : az_cd 98 8 = some (17, .getfield 12, 3, 8, 0, 0, [], [228]) := rfl
theorem k98_9 : az_cd 98 9 = some (20, .getfield 57, 3, 6, 3, 1, [], [159]) := rfl
theorem k98_10 : az_cd 98 10 = some (23, .invokevirtual 73, 3, 17, 0, 0, [], [306, 307, 46, 309, 308]) := rfl
theorem k98_11 : az_cd 98 11 = some (26, .istore_n 1, 1, 0, 0, 0, [], []) := rfl
theorem k98_12 : az_cd 98 12 = some (27, .iload_n 1, 1, 0, 0, 0, [], []) := rfl
theorem k98_13 : az_cd 98 13 = some (28, .ifCond .ne 6, 3, 16, 0, 0, [], []) := rfl
theorem k98_14 : az_cd 98 14 = some (31, .bipush (-5), 2, 0, 0, (-5), [], []) := rfl
theorem k98_15 : az_cd 98 15 = some (33, .ireturn, 1, 0, 0, 0, [], []) := rfl
theorem k98_16 : az_cd 98 16 = some (34, .aload_n 0, 1, 0, 0, 0, [], []) := rfl
theorem k98_17 : az_cd 98 17 = some (35, .getfield 22, 3, 8, 2, 0, [], [230]) := rfl
theorem k98_18 : az_cd 98 18 = some (38, .aload_n 0, 1, 0, 0, 0, [], []) := rfl
theorem k98_19 : az_cd 98 19 = some (39, .getfield 12, 3, 8, 0, 0, [], [228]) := rfl
theorem k98_20 : az_cd 98 20 = some (42, .invokevirtual 65, 3, 33, 1, 0, [], [264, 265, 49, 267, 266]) := rfl
theorem k98_21 : az_cd 98 21 = some (45, .aload_n 0, 1, 0, 0, 0, [], []) := rfl
theorem k98_22 : az_cd 98 22 = some (46, .getfield 12, 3, 8, 0, 0, [], [228]) := rfl
theorem k98_23 : az_cd 98 23 = some (49, .getfield 57, 3, 6, 3, 1, [], [159]) := rfl
theorem k98_24 : az_cd 98 24 = some (52, .invokevirtual 89, 3, 16, 0, 0, [], [353, 354, 46, 356, 355]) := rfl
theorem k98_25 : az_cd 98 25 = some (55, .iload_n 1, 1, 0, 0, 0, [], []) := rfl
theorem k98_26 : az_cd 98 26 = some (56, .ireturn, 1, 0, 0, 0, [], []) := rfl
theorem k99_0 : az_cd 99 0 = some (0, .aload_n 0, 1, 0, 0, 0, [], []) := rfl
theorem k99_1 : az_cd 99 1 = some (1, .getfield 12, 3, 8, 0, 0, [], [228]) := rfl
theorem k99_2 : az_cd 99 2 = some (4, .getfield 47, 3, 6, 4, 1, [], [161]) := rfl
theorem k99_3 : az_cd 99 3 = some (7, .invokevirtual 51, 3, 84, 0, 0, [], [255, 256, 47, 258, 257]) := rfl
theorem k99_4 : az_cd 99 4 = some (10, .ifCond .eq 6, 3, 7, 0, 0, [], []) := rfl
theorem k99_5 : az_cd 99 5 = some (13, .bipush (-4), 2, 0, 0, (-4), [], []) := rfl
theorem k99_6 : az_cd 99 6 = some (15, .ireturn, 1, 0, 0, 0, [], []) := rfl
theorem k99_7 : az_cd 99 7 = some (16, .aload_n 0, 1, 0, 0, 0, [], []) := rfl
theorem k99_8 : az_cd 99 8 = some (17, .getfield 12, 3, 8, 0, 0, [], [228]) := rfl
theorem k99_9 : az_cd 99 9 = some (20, .getfield 57, 3, 6, 3, 1, [], [159]) := rfl
theorem k99_10 : az_cd 99 10 = some (23, .invokevirtual 73, 3, 17, 0, 0, [], [306, 307, 46, 309, 308]) := rfl
theorem k99_11 : az_cd 99 11 = some (26, .ifCond .ne 6, 3, 14, 0, 0, [], []) := rfl
theorem k99_12 : az_cd 99 12 = some (29, .bipush (-5), 2, 0, 0, (-5), [], []) := rfl
theorem k99_13 : az_cd 99 13 = some (31, .ireturn, 1, 0, 0, 0, [], []) := rfl
theorem k99_14 : az_cd 99 14 = some (32, .aload_n 0, 1, 0, 0, 0, [], []) := rfl
theorem k99_15 : az_cd 99 15 = some (33, .getfield 22, 3, 8, 2, 0, [], [230]) := rfl
theorem k99_16 : az_cd 99 16 = some (36, .aload_n 0, 1, 0, 0, 0, [], []) := rfl
theorem k99_17 : az_cd 99 17 = some (37, .getfield 12, 3, 8, 0, 0, [], [228]) := rfl
theorem k99_18 : az_cd 99 18 = some (40, .invokevirtual 65, 3, 33, 1, 0, [], [264, 265, 49, 267, 266]) := rfl
theorem k99_19 : az_cd 99 19 = some (43, .aload_n 0, 1, 0, 0, 0, [], []) := rfl
theorem k99_20 : az_cd 99 20 = some (44, .getfield 12, 3, 8, 0, 0, [], [228]) := rfl
theorem k99_21 : az_cd 99 21 = some (47, .getfield 47, 3, 6, 4, 1, [], [161]) := rfl
theorem k99_22 : az_cd 99 22 = some (50, .invokevirtual 92, 3, 86, 0, 0, [], [361, 362, 47, 364, 363]) := rfl
theorem k99_23 : az_cd 99 23 = some (53, .aload_n 0, 1, 0, 0, 0, [], []) := rfl
theorem k99_24 : az_cd 99 24 = some (54, .getfield 12, 3, 8, 0, 0, [], [228]) := rfl
theorem k99_25 : az_cd 99 25 = some (57, .invokevirtual 95, 3, 71, 0, 0, [], [365, 366, 43, 368, 367]) := rfl
theorem k99_26 : az_cd 99 26 = some (60, .ireturn, 1, 0, 0, 0, [], []) := rfl
theorem k100_0 : az_cd 100 0 = some (0, .aload_n 0, 1, 0, 0, 0, [], []) := rfl
theorem k100_1 : az_cd 100 1 = some (1, .getfield 12, 3, 8, 0, 0, [], [228]) := rfl
theorem k100_2 : az_cd 100 2 = some (4, .getfield 47, 3, 6, 4, 1, [], [161]) := rfl
theorem k100_3 : az_cd 100 3 = some (7, .invokevirtual 51, 3, 84, 0, 0, [], [255, 256, 47, 258, 257]) := rfl
theorem k100_4 : az_cd 100 4 = some (10, .ifCond .ne 6, 3, 7, 0, 0, [], []) := rfl
theorem k100_5 : az_cd 100 5 = some (13, .bipush (-5), 2, 0, 0, (-5), [], []) := rfl
theorem k100_6 : az_cd 100 6 = some (15, .ireturn, 1, 0, 0, 0, [], []) := rfl
theorem k100_7 : az_cd 100 7 = some (16, .aload_n 0, 1, 0, 0, 0, [], []) := rfl
theorem k100_8 : az_cd 100 8 = some (17, .getfield 12, 3, 8, 0, 0, [], [228]) := rfl
theorem k100_9 : az_cd 100 9 = some (20, .invokevirtual 98, 3, 75, 0, 0, [], [382, 383, 43, 385, 384]) := rfl
theorem k100_10 : az_cd 100 10 = some (23, .ifCond .ne 6, 3, 13, 0, 0, [], []) := rfl
theorem k100_11 : az_cd 100 11 = some (26, .bipush (-3), 2, 0, 0, (-3), [], []) := rfl
theorem k100_12 : az_cd 100 12 = some (28, .ireturn, 1, 0, 0, 0, [], []) := rfl
theorem k100_13 : az_cd 100 13 = some (29, .aload_n 0, 1, 0, 0, 0, [], []) := rfl
theorem k100_14 : az_cd 100 14 = some (30, .getfield 22, 3, 8, 2, 0, [], [230]) := rfl
theorem k100_15 : az_cd 100 15 = some (33, .aload_n 0, 1, 0, 0, 0, [], []) := rfl
theorem k100_16 : az_cd 100 16 = some (34, .getfield 12, 3, 8, 0, 0, [], [228]) := rfl
theorem k100_17 : az_cd 100 17 = some (37, .invokevirtual 65, 3, 33, 1, 0, [], [264, 265, 49, 267, 266]) := rfl
theorem k100_18 : az_cd 100 18 = some (40, .aload_n 0, 1, 0, 0, 0, [], []) := rfl
theorem k100_19 : az_cd 100 19 = some (41, .getfield 12, 3, 8, 0, 0, [], [228]) := rfl
theorem k100_20 : az_cd 100 20 = some (44, .invokevirtual 101, 3, 76, 0, 0, [], [431, 432, 43, 434, 433]) := rfl
theorem k100_21 : az_cd 100 21 = some (47, .aload_n 0, 1, 0, 0, 0, [], []) := rfl
theorem k100_22 : az_cd 100 22 = some (48, .getfield 12, 3, 8, 0, 0, [], [228]) := rfl
theorem k100_23 : az_cd 100 23 = some (51, .invokevirtual 95, 3, 71, 0, 0, [], [365, 366, 43, 368, 367]) := rfl
theorem k100_24 : az_cd 100 24 = some (54, .ireturn, 1, 0, 0, 0, [], []) := rfl
theorem k101_0 : az_cd 101 0 = some (0, .aload_n 0, 1, 0, 0, 0, [], []) := rfl
theorem k101_1 : az_cd 101 1 = some (1, .getfield 12, 3, 8, 0, 0, [], [228]) := rfl
theorem k101_2 : az_cd 101 2 = some (4, .getfield 47, 3, 6, 4, 1, [], [161]) := rfl
theorem k101_3 : az_cd 101 3 = some (7, .invokevirtual 51, 3, 84, 0, 0, [], [255, 256, 47, 258, 257]) := rfl
theorem k101_4 : az_cd 101 4 = some (10, .ifCond .ne 6, 3, 7, 0, 0, [], []) := rfl
theorem k101_5 : az_cd 101 5 = some (13, .bipush (-5), 2, 0, 0, (-5), [], []) := rfl
theorem k101_6 : az_cd 101 6 = some (15, .ireturn, 1, 0, 0, 0, [], []) := rfl
theorem k101_7 : az_cd 101 7 = some (16, .aload_n 0, 1, 0, 0, 0, [], []) := rfl
theorem k101_8 : az_cd 101 8 = some (17, .getfield 12, 3, 8, 0, 0, [], [228]) := rfl
theorem k101_9 : az_cd 101 9 = some (20, .invokevirtual 98, 3, 75, 0, 0, [], [382, 383, 43, 385, 384]) := rfl
theorem k101_10 : az_cd 101 10 = some (23, .ifCond .ne 6, 3, 13, 0, 0, [], []) := rfl
theorem k101_11 : az_cd 101 11 = some (26, .bipush (-3), 2, 0, 0, (-3), [], []) := rfl
theorem k101_12 : az_cd 101 12 = some (28, .ireturn, 1, 0, 0, 0, [], []) := rfl
theorem k101_13 : az_cd 101 13 = some (29, .aload_n 0, 1, 0, 0, 0, [], []) := rfl
theorem k101_14 : az_cd 101 14 = some (30, .getfield 22, 3, 8, 2, 0, [], [230]) := rfl
theorem k101_15 : az_cd 101 15 = some (33, .aload_n 0, 1, 0, 0, 0, [], []) := rfl
theorem k101_16 : az_cd 101 16 = some (34, .getfield 12, 3, 8, 0, 0, [], [228]) := rfl
theorem k101_17 : az_cd 101 17 = some (37, .invokevirtual 65, 3, 33, 1, 0, [], [264, 265, 49, 267, 266]) := rfl
theorem k101_18 : az_cd 101 18 = some (40, .aload_n 0, 1, 0, 0, 0, [], []) := rfl
theorem k101_19 : az_cd 101 19 = some (41, .getfield 12, 3, 8, 0, 0, [], [228]) := rfl
theorem k101_20 : az_cd 101 20 = some (44, .invokevirtual 95, 3, 71, 0, 0, [], [365, 366, 43, 368, 367]) := rfl
theorem k101_21 : az_cd 101 21 = some (47, .istore_n 1, 1, 0, 0, 0, [], []) := rfl
theorem k101_22 : az_cd 101 22 = some (48, .iconst 0, 1, 0, 0, 0, [], []) := rfl
theorem k101_23 : az_cd 101 23 = some (49, .istore_n 2, 1, 0, 0, 0, [], []) := rfl
theorem k101_24 : az_cd 101 24 = some (50, .iload_n 2, 1, 0, 0, 0, [], []) := rfl
theorem k101_25 : az_cd 101 25 = some (51, .iload_n 1, 1, 0, 0, 0, [], []) := rfl
theorem k101_26 : az_cd 101 26 = some (52, .if_icmp .ge 26, 3, 36, 0, 0, [], []) := rfl
theorem k101_27 : az_cd 101 27 = some (55, .aload_n 0, 1, 0, 0, 0, [], []) := rfl
theorem k101_28 : az_cd 101 28 = some (56, .getfield 12, 3, 8, 0, 0, [], [228]) := rfl
theorem k101_29 : az_cd 101 29 = some (59, .invokevirtual 98, 3, 75, 0, 0, [], [382, 383, 43, 385, 384]) := rfl
theorem k101_30 : az_cd 101 30 = some (62, .ifCond .eq 16, 3, 36, 0, 0, [], []) := rfl
theorem k101_31 : az_cd 101 31 = some (65, .aload_n 0, 1, 0, 0, 0, [], []) := rfl
theorem k101_32 : az_cd 101 32 = some (66, .getfield 12, 3, 8, 0, 0, [], [228]) := rfl
theorem k101_33 : az_cd 101 33 = some (69, .invokevirtual 101, 3, 76, 0, 0, [], [431, 432, 43, 434, 433]) := rfl
theorem k101_34 : az_cd 101 34 = some (72, .iinc 2 1, 3, 0, 0, 1, [], []) := rfl
theorem k101_35 : az_cd 101 35 = some (75, .goto (-25), 3, 24, 0, 0, [], []) := rfl
theorem k101_36 : az_cd 101 36 = some (78, .aload_n 0, 1, 0, 0, 0, [], []) := rfl
theorem k101_37 : az_cd 101 37 = some (79, .getfield 12, 3, 8, 0, 0, [], [228]) := rfl
theorem k101_38 : az_cd 101 38 = some (82, .invokevirtual 95, 3, 71, 0, 0, [], [365, 366, 43, 368, 367]) := rfl
theorem k101_39 : az_cd 101 39 = some (85, .ireturn, 1, 0, 0, 0, [], []) := rfl
theorem k102_0 : az_cd 102 0 = some (0, .aload_n 0, 1, 0, 0, 0, [], []) := rfl
theorem k102_1 : az_cd 102 1 = some (1, .getfield 12, 3, 8, 0, 0, [], [228]) := rfl
theorem k102_2 : az_cd 102 2 = some (4, .getfield 47, 3, 6, 4, 1, [], [161]) := rfl
theorem k102_3 : az_cd 102 3 = some (7, .invokevirtual 51, 3, 84, 0, 0, [], [255, 256, 47, 258, 257]) := rfl
theorem k102_4 : az_cd 102 4 = some (10, .ifCond .ne 6, 3, 7, 0, 0, [], []) := rfl
theorem k102_5 : az_cd 102 5 = some (13, .bipush (-5), 2, 0, 0, (-5), [], []) := rfl
theorem k102_6 : az_cd 102 6 = some (15, .ireturn, 1, 0, 0, 0, [], []) := rfl
theorem k102_7 : az_cd 102 7 = some (16, .aload_n 0, 1, 0, 0, 0, [], []) := rfl
theorem k102_8 : az_cd 102 8 = some (17, .getfield 22, 3, 8, 2, 0, [], [230]) := rfl
theorem k102_9 : az_cd 102 9 = some (20, .aload_n 0, 1, 0, 0, 0, [], []) := rfl
theorem k102_10 : az_cd 102 10 = some (21, .getfield 12, 3, 8, 0, 0, [], [228]) := rfl
theorem k102_11 : az_cd 102 11 = some (24, .invokevirtual 65, 3, 33, 1, 0, [], [264, 265, 49, 267, 266]) := rfl
theorem k102_12 : az_cd 102 12 = some (27, .aload_n 0, 1, 0, 0, 0, [], []) := rfl
theorem k102_13 : az_cd 102 13 = some (28, .getfield 12, 3, 8, 0, 0, [], [228]) := rfl
theorem k102_14 : az_cd 102 14 = some (31, .getfield 47, 3, 6, 4, 1, [], [161]) := rfl
theorem k102_15 : az_cd 102 15 = some (34, .invokevirtual 104, 3, 85, 0, 0, [], [504, 375, 47, 377, 376]) := rfl
theorem k102_16 : az_cd 102 16 = some (37, .istore_n 1, 1, 0, 0, 0, [], []) := rfl
theorem k102_17 : az_cd 102 17 = some (38, .aload_n 0, 1, 0, 0, 0, [], []) := rfl
theorem k102_18 : az_cd 102 18 = some (39, .getfield 12, 3, 8, 0, 0, [], [228]) := rfl
theorem k102_19 : az_cd 102 19 = some (42, .getfield 47, 3, 6, 4, 1, [], [161]) := rfl
theorem k102_20 : az_cd 102 20 = some (45, .invokevirtual 107, 3, 87, 0, 0, [], [505, 493, 47, 495, 494]) := rfl
theorem k102_21 : az_cd 102 21 = some (48, .iload_n 1, 1, 0, 0, 0, [], []) := rfl
theorem k102_22 : az_cd 102 22 = some (49, .ireturn, 1, 0, 0, 0, [], []) := rfl
theorem k103_0 : az_cd 103 0 = some (0, .aload_n 0, 1, 0, 0, 0, [], []) := rfl
theorem k103_1 : az_cd 103 1 = some (1, .getfield 22, 3, 8, 2, 0, [], [230]) := rfl
theorem k103_2 : az_cd 103 2 = some (4, .aload_n 0, 1, 0, 0, 0, [], []) := rfl
theorem k103_3 : az_cd 103 3 = some (5, .getfield 12, 3, 8, 0, 0, [], [228]) := rfl
theorem k103_4 : az_cd 103 4 = some (8, .invokevirtual 65, 3, 33, 1, 0, [], [264, 265, 49, 267, 266]) := rfl
theorem k103_5 : az_cd 103 5 = some (11, .iload_n 1, 1, 0, 0, 0, [], []) := rfl
theorem k103_6 : az_cd 103 6 = some (12, .ifCond .eq 10, 3, 10, 0, 0, [], []) := rfl
theorem k103_7 : az_cd 103 7 = some (15, .aload_n 0, 1, 0, 0, 0, [], []) := rfl
theorem k103_8 : az_cd 103 8 = some (16, .getfield 12, 3, 8, 0, 0, [], [228]) := rfl
theorem k103_9 : az_cd 103 9 = some (19, .invokevirtual 110, 3, 80, 0, 0, [], [510, 511, 43, 513, 512]) := rfl
theorem k103_10 : az_cd 103 10 = some (22, .aload_n 0, 1, 0, 0, 0, [], []) := rfl
theorem k103_11 : az_cd 103 11 = some (23, .getfield 12, 3, 8, 0, 0, [], [228]) := rfl
theorem k103_12 : az_cd 103 12 = some (26, .invokevirtual 113, 3, 81, 0, 0, [], [514, 515, 43, 517, 516]) := rfl
theorem k103_13 : az_cd 103 13 = some (29, .aload_n 0, 1, 0, 0, 0, [], []) := rfl
theorem k103_14 : az_cd 103 14 = some (30, .getfield 12, 3, 8, 0, 0, [], [228]) := rfl
theorem k103_15 : az_cd 103 15 = some (33, .invokevirtual 116, 3, 64, 0, 0, [], [522, 404, 43, 406, 405]) := rfl
theorem k103_16 : az_cd 103 16 = some (36, .invokevirtual 120, 3, 22, 0, 0, [], [523, 462, 45, 464, 463]) := rfl
theorem k103_17 : az_cd 103 17 = some (39, .ireturn, 1, 0, 0, 0, [], []) := rfl
theorem k104_0 : az_cd 104 0 = some (0, .aload_n 0, 1, 0, 0, 0, [], []) := rfl
theorem k104_1 : az_cd 104 1 = some (1, .getfield 12, 3, 8, 0, 0, [], [228]) := rfl
theorem k104_2 : az_cd 104 2 = some (4, .getfield 125, 3, 6, 5, 1, [], [163]) := rfl
theorem k104_3 : az_cd 104 3 = some (7, .invokevirtual 129, 3, 50, 0, 0, [], [528, 529, 48, 531, 530]) := rfl
theorem k104_4 : az_cd 104 4 = some (10, .istore_n 1, 1, 0, 0, 0, [], []) := rfl
theorem k104_5 : az_cd 104 5 = some (11, .iload_n 1, 1, 0, 0, 0, [], []) := rfl
theorem k104_6 : az_cd 104 6 = some (12, .bipush (-5), 2, 0, 0, (-5), [], []) := rfl
theorem k104_7 : az_cd 104 7 = some (14, .if_icmp .ne 6, 3, 10, 0, 0, [], []) := rfl
theorem k104_8 : az_cd 104 8 = some (17, .bipush (-3), 2, 0, 0, (-3), [], []) := rfl
theorem k104_9 : az_cd 104 9 = some (19, .ireturn, 1, 0, 0, 0, [], []) := rfl
theorem k104_10 : az_cd 104 10 = some (20, .aload_n 0, 1, 0, 0, 0, [], []) := rfl
theorem k104_11 : az_cd 104 11 = some (21, .getfield 22, 3, 8, 2, 0, [], [230]) := rfl
theorem k104_12 : az_cd 104 12 = some (24, .aload_n 0, 1, 0, 0, 0, [], []) := rfl
theorem k104_13 : az_cd 104 13 = some (25, .getfield 12, 3, 8, 0, 0, [], [228]) := rfl
theorem k104_14 : az_cd 104 14 = some (28, .invokevirtual 65, 3, 33, 1, 0, [], [264, 265, 49, 267, 266]) := rfl
theorem k104_15 : az_cd 104 15 = some (31, .aload_n 0, 1, 0, 0, 0, [], []) := rfl
theorem k104_16 : az_cd 104 16 = some (32, .getfield 12, 3, 8, 0, 0, [], [228]) := rfl
theorem k104_17 : az_cd 104 17 = some (35, .getfield 125, 3, 6, 5, 1, [], [163]) := rfl
theorem k104_18 : az_cd 104 18 = some (38, .iload_n 1, 1, 0, 0, 0, [], []) := rfl
theorem k104_19 : az_cd 104 19 = some (39, .aload_n 0, 1, 0, 0, 0, [], []) := rfl
theorem k104_20 : az_cd 104 20 = some (40, .getfield 12, 3, 8, 0, 0, [], [228]) := rfl
theorem k104_21 : az_cd 104 21 = some (43, .invokevirtual 116, 3, 64, 0, 0, [], [522, 404, 43, 406, 405]) := rfl
theorem k104_22 : az_cd 104 22 = some (46, .invokevirtual 134, 3, 53, 2, 0, [], [532, 533, 48, 535, 534]) := rfl
theorem k104_23 : az_cd 104 23 = some (49, .iload_n 1, 1, 0, 0, 0, [], []) := rfl
theorem k104_24 : az_cd 104 24 = some (50, .ireturn, 1, 0, 0, 0, [], []) := rfl
theorem k105_0 : az_cd 105 0 = some (0, .aload_n 0, 1, 0, 0, 0, [], []) := rfl
theorem k105_1 : az_cd 105 1 = some (1, .getfield 12, 3, 8, 0, 0, [], [228]) := rfl
theorem k105_2 : az_cd 105 2 = some (4, .getfield 125, 3, 6, 5, 1, [], [163]) := rfl
theorem k105_3 : az_cd 105 3 = some (7, .iload_n 1, 1, 0, 0, 0, [], []) := rfl
theorem k105_4 : az_cd 105 4 = some (8, .invokevirtual 138, 3, 49, 1, 0, [], [540, 541, 48, 543, 542]) := rfl
theorem k105_5 : az_cd 105 5 = some (11, .ifCond .ne 5, 3, 8, 0, 0, [], []) := rfl
theorem k105_6 : az_cd 105 6 = some (14, .iconst (-1), 1, 0, 0, (-1), [], []) := rfl
theorem k105_7 : az_cd 105 7 = some (15, .ireturn, 1, 0, 0, 0, [], []) := rfl
theorem k105_8 : az_cd 105 8 = some (16, .aload_n 0, 1, 0, 0, 0, [], []) := rfl
theorem k105_9 : az_cd 105 9 = some (17, .getfield 22, 3, 8, 2, 0, [], [230]) := rfl
theorem k105_10 : az_cd 105 10 = some (20, .aload_n 0, 1, 0, 0, 0, [], []) := rfl
theorem k105_11 : az_cd 105 11 = some (21, .getfield 12, 3, 8, 0, 0, [], [228]) := rfl
theorem k105_12 : az_cd 105 12 = some (24, .invokevirtual 65, 3, 33, 1, 0, [], [264, 265, 49, 267, 266]) := rfl
theorem k105_13 : az_cd 105 13 = some (27, .aload_n 0, 1, 0, 0, 0, [], []) := rfl
theorem k105_14 : az_cd 105 14 = some (28, .getfield 12, 3, 8, 0, 0, [], [228]) := rfl
theorem k105_15 : az_cd 105 15 = some (31, .getfield 125, 3, 6, 5, 1, [], [163]) := rfl
theorem k105_16 : az_cd 105 16 = some (34, .iload_n 1, 1, 0, 0, 0, [], []) := rfl
theorem k105_17 : az_cd 105 17 = some (35, .invokevirtual 141, 3, 54, 1, 0, [], [544, 545, 48, 547, 546]) := rfl
theorem k105_18 : az_cd 105 18 = some (38, .aload_n 0, 1, 0, 0, 0, [], []) := rfl
theorem k105_19 : az_cd 105 19 = some (39, .getfield 12, 3, 8, 0, 0, [], [228]) := rfl
theorem k105_20 : az_cd 105 20 = some (42, .getfield 125, 3, 6, 5, 1, [], [163]) := rfl
theorem k105_21 : az_cd 105 21 = some (45, .invokevirtual 145, 3, 51, 0, 0, [], [548, 549, 48, 551, 550]) := rfl
theorem k105_22 : az_cd 105 22 = some (48, .ireturn, 1, 0, 0, 0, [], []) := rfl
theorem k106_0 : az_cd 106 0 = some (0, .aload_n 0, 1, 0, 0, 0, [], []) := rfl
theorem k106_1 : az_cd 106 1 = some (1, .getfield 29, 3, 8, 3, 0, [], [231]) := rfl
theorem k106_2 : az_cd 106 2 = some (4, .invokevirtual 148, 3, 37, 0, 0, [], [556, 557, 50, 559, 558]) := rfl
theorem k106_3 : az_cd 106 3 = some (7, .ifCond .eq 6, 3, 6, 0, 0, [], []) := rfl
theorem k106_4 : az_cd 106 4 = some (10, .bipush (-3), 2, 0, 0, (-3), [], []) := rfl
theorem k106_5 : az_cd 106 5 = some (12, .ireturn, 1, 0, 0, 0, [], []) := rfl
theorem k106_6 : az_cd 106 6 = some (13, .aload_n 0, 1, 0, 0, 0, [], []) := rfl
theorem k106_7 : az_cd 106 7 = some (14, .getfield 29, 3, 8, 3, 0, [], [231]) := rfl
theorem k106_8 : az_cd 106 8 = some (17, .iload_n 1, 1, 0, 0, 0, [], []) := rfl
theorem k106_9 : az_cd 106 9 = some (18, .invokevirtual 151, 3, 38, 1, 0, [], [560, 561, 50, 563, 562]) := rfl
theorem k106_10 : az_cd 106 10 = some (21, .aload_n 0, 1, 0, 0, 0, [], []) := rfl
theorem k106_11 : az_cd 106 11 = some (22, .getfield 29, 3, 8, 3, 0, [], [231]) := rfl
theorem k106_12 : az_cd 106 12 = some (25, .invokevirtual 155, 3, 36, 0, 0, [], [564, 565, 50, 567, 566]) := rfl
theorem k106_13 : az_cd 106 13 = some (28, .ireturn, 1, 0, 0, 0, [], []) := rfl
theorem k107_0 : az_cd 107 0 = some (0, .aload_n 0, 1, 0, 0, 0, [], []) := rfl
theorem k107_1 : az_cd 107 1 = some (1, .getfield 29, 3, 8, 3, 0, [], [231]) := rfl
theorem k107_2 : az_cd 107 2 = some (4, .invokevirtual 155, 3, 36, 0, 0, [], [564, 565, 50, 567, 566]) := rfl
theorem k107_3 : az_cd 107 3 = some (7, .istore_n 1, 1, 0, 0, 0, [], []) := rfl
theorem k107_4 : az_cd 107 4 = some (8, .aload_n 0, 1, 0, 0, 0, [], []) := rfl
theorem k107_5 : az_cd 107 5 = some (9, .getfield 29, 3, 8, 3, 0, [], [231]) := rfl
theorem k107_6 : az_cd 107 6 = some (12, .invokevirtual 158, 3, 39, 0, 0, [], [572, 573, 50, 575, 574]) := rfl
theorem k107_7 : az_cd 107 7 = some (15, .iload_n 1, 1, 0, 0, 0, [], []) := rfl
theorem k107_8 : az_cd 107 8 = some (16, .ireturn, 1, 0, 0, 0, [], []) := rfl
theorem k108_0 : az_cd 108 0 = some (0, .aload_n 0, 1, 0, 0, 0, [], []) := rfl
theorem k108_1 : az_cd 108 1 = some (1, .getfield 22, 3, 8, 2, 0, [], [230]) := rfl
theorem k108_2 : az_cd 108 2 = some (4, .invokevirtual 159, 3, 32, 0, 0, [], [580, 581, 49, 583, 582]) := rfl
theorem k108_3 : az_cd 108 3 = some (7, .ifCond .ne 6, 3, 6, 0, 0, [], []) := rfl
theorem k108_4 : az_cd 108 4 = some (10, .bipush (-5), 2, 0, 0, (-5), [], []) := rfl
theorem k108_5 : az_cd 108 5 = some (12, .ireturn, 1, 0, 0, 0, [], []) := rfl
theorem k108_6 : az_cd 108 6 = some (13, .aload_n 0, 1, 0, 0, 0, [], []) := rfl
theorem k108_7 : az_cd 108 7 = some (14, .getfield 22, 3, 8, 2, 0, [], [230]) := rfl
theorem k108_8 : az_cd 108 8 = some (17, .aload_n 0, 1, 0, 0, 0, [], []) := rfl
theorem k108_9 : az_cd 108 9 = some (18, .getfield 12, 3, 8, 0, 0, [], [228]) := rfl
theorem k108_10 : az_cd 108 10 = some (21, .invokevirtual 162, 3, 34, 1, 0, [], [584, 585, 49, 587, 586]) := rfl
theorem k108_11 : az_cd 108 11 = some (24, .aload_n 0, 1, 0, 0, 0, [], []) := rfl
theorem k108_12 : az_cd 108 12 = some (25, .getfield 22, 3, 8, 2, 0, [], [230]) := rfl
theorem k108_13 : az_cd 108 13 = some (28, .invokevirtual 159, 3, 32, 0, 0, [], [580, 581, 49, 583, 582]) := rfl
theorem k108_14 : az_cd 108 14 = some (31, .ireturn, 1, 0, 0, 0, [], []) := rfl
theorem k109_0 : az_cd 109 0 = some (0, .aload_n 0, 1, 0, 0, 0, [], []) := rfl
theorem k109_1 : az_cd 109 1 = some (1, .getfield 16, 3, 8, 1, 0, [], [229]) := rfl
theorem k109_2 : az_cd 109 2 = some (4, .aload_n 0, 1, 0, 0, 0, [], []) := rfl
theorem k109_3 : az_cd 109 3 = some (5, .getfield 12, 3, 8, 0, 0, [], [228]) := rfl
theorem k109_4 : az_cd 109 4 = some (8, .invokevirtual 165, 3, 82, 1, 0, [], [592, 272, 43, 274, 273]) := rfl
theorem k109_5 : az_cd 109 5 = some (11, .aload_n 0, 1, 0, 0, 0, [], []) := rfl
theorem k109_6 : az_cd 109 6 = some (12, .iconst 1, 1, 0, 0, 1, [], []) := rfl
theorem k109_7 : az_cd 109 7 = some (13, .putfield 33, 3, 8, 4, 0, [], [232]) := rfl
theorem k109_8 : az_cd 109 8 = some (16, .aload_n 0, 1, 0, 0, 0, [], []) := rfl
theorem k109_9 : az_cd 109 9 = some (17, .getfield 12, 3, 8, 0, 0, [], [228]) := rfl
theorem k109_10 : az_cd 109 10 = some (20, .invokevirtual 116, 3, 64, 0, 0, [], [522, 404, 43, 406, 405]) := rfl
theorem k109_11 : az_cd 109 11 = some (23, .invokevirtual 120, 3, 22, 0, 0, [], [523, 462, 45, 464, 463]) := rfl
theorem k109_12 : az_cd 109 12 = some (26, .ireturn, 1, 0, 0, 0, [], []) := rfl
theorem k110_0 : az_cd 110 0 = some (0, .aload_n 0, 1, 0, 0, 0, [], []) := rfl
theorem k110_1 : az_cd 110 1 = some (1, .getfield 33, 3, 8, 4, 0, [], [232]) := rfl
theorem k110_2 : az_cd 110 2 = some (4, .ifCond .ne 6, 3, 5, 0, 0, [], []) := rfl
theorem k110_3 : az_cd 110 3 = some (7, .bipush (-5), 2, 0, 0, (-5), [], []) := rfl
theorem k110_4 : az_cd 110 4 = some (9, .ireturn, 1, 0, 0, 0, [], []) := rfl
theorem k110_5 : az_cd 110 5 = some (10, .aload_n 0, 1, 0, 0, 0, [], []) := rfl
theorem k110_6 : az_cd 110 6 = some (11, .getfield 22, 3, 8, 2, 0, [], [230]) := rfl
theorem k110_7 : az_cd 110 7 = some (14, .aload_n 0, 1, 0, 0, 0, [], []) := rfl
theorem k110_8 : az_cd 110 8 = some (15, .getfield 12, 3, 8, 0, 0, [], [228]) := rfl
theorem k110_9 : az_cd 110 9 = some (18, .invokevirtual 65, 3, 33, 1, 0, [], [264, 265, 49, 267, 266]) := rfl
theorem k110_10 : az_cd 110 10 = some (21, .aload_n 0, 1, 0, 0, 0, [], []) := rfl
theorem k110_11 : az_cd 110 11 = some (22, .getfield 12, 3, 8, 0, 0, [], [228]) := rfl
theorem k110_12 : az_cd 110 12 = some (25, .aload_n 0, 1, 0, 0, 0, [], []) := rfl
theorem k110_13 : az_cd 110 13 = some (26, .getfield 16, 3, 8, 1, 0, [], [229]) := rfl
theorem k110_14 : az_cd 110 14 = some (29, .invokevirtual 165, 3, 82, 1, 0, [], [592, 272, 43, 274, 273]) := rfl
theorem k110_15 : az_cd 110 15 = some (32, .aload_n 0, 1, 0, 0, 0, [], []) := rfl
theorem k110_16 : az_cd 110 16 = some (33, .getfield 12, 3, 8, 0, 0, [], [228]) := rfl
theorem k110_17 : az_cd 110 17 = some (36, .invokevirtual 116, 3, 64, 0, 0, [], [522, 404, 43, 406, 405]) := rfl
theorem k110_18 : az_cd 110 18 = some (39, .invokevirtual 120, 3, 22, 0, 0, [], [523, 462, 45, 464, 463]) := rfl
theorem k110_19 : az_cd 110 19 = some (42, .ireturn, 1, 0, 0, 0, [], []) := rfl
theorem k111_0 : az_cd 111 0 = some (0, .iload_n 1, 1, 0, 0, 0, [], []) := rfl
theorem k111_1 : az_cd 111 1 = some (1, .invokestatic 37, 3, 121, 1, 0, [], [248, 249, 42, 250]) := rfl
theorem k111_2 : az_cd 111 2 = some (4, .ifCond .ne 5, 3, 5, 0, 0, [], []) := rfl
theorem k111_3 : az_cd 111 3 = some (7, .iconst (-1), 1, 0, 0, (-1), [], []) := rfl
theorem k111_4 : az_cd 111 4 = some (8, .ireturn, 1, 0, 0, 0, [], []) := rfl
theorem k111_5 : az_cd 111 5 = some (9, .aload_n 0, 1, 0, 0, 0, [], []) := rfl
theorem k111_6 : az_cd 111 6 = some (10, .getfield 12, 3, 8, 0, 0, [], [228]) := rfl
theorem k111_7 : az_cd 111 7 = some (13, .iload_n 1, 1, 0, 0, 0, [], []) := rfl
theorem k111_8 : az_cd 111 8 = some (14, .invokevirtual 168, 3, 65, 1, 0, [], [601, 602, 43, 604, 603]) := rfl
theorem k111_9 : az_cd 111 9 = some (17, .ireturn, 1, 0, 0, 0, [], []) := rfl
theorem k112_0 : az_cd 112 0 = some (0, .iload_n 1, 1, 0, 0, 0, [], []) := rfl
theorem k112_1 : az_cd 112 1 = some (1, .invokestatic 37, 3, 121, 1, 0, [], [248, 249, 42, 250]) := rfl
theorem k112_2 : az_cd 112 2 = some (4, .ifCond .ne 5, 3, 5, 0, 0, [], []) := rfl
theorem k112_3 : az_cd 112 3 = some (7, .iconst (-1), 1, 0, 0, (-1), [], []) := rfl
theorem k112_4 : az_cd 112 4 = some (8, .ireturn, 1, 0, 0, 0, [], []) := rfl
theorem k112_5 : az_cd 112 5 = some (9, .aload_n 0, 1, 0, 0, 0, [], []) := rfl
theorem k112_6 : az_cd 112 6 = some (10, .getfield 12, 3, 8, 0, 0, [], [228]) := rfl
theorem k112_7 : az_cd 112 7 = some (13, .iload_n 1, 1, 0, 0, 0, [], []) := rfl
theorem k112_8 : az_cd 112 8 = some (14, .invokevirtual 171, 3, 66, 1, 0, [], [613, 614, 43, 616, 615]) := rfl
theorem k112_9 : az_cd 112 9 = some (17, .ireturn, 1, 0, 0, 0, [], []) := rfl
theorem k113_0 : az_cd 113 0 = some (0, .aload_n 0, 1, 0, 0, 0, [], []) := rfl
theorem k113_1 : az_cd 113 1 = some (1, .getfield 12, 3, 8, 0, 0, [], [228]) := rfl
theorem k113_2 : az_cd 113 2 = some (4, .getfield 125, 3, 6, 5, 1, [], [163]) := rfl
theorem k113_3 : az_cd 113 3 = some (7, .iload_n 1, 1, 0, 0, 0, [], []) := rfl
theorem k113_4 : az_cd 113 4 = some (8, .invokevirtual 138, 3, 49, 1, 0, [], [540, 541, 48, 543, 542]) := rfl
theorem k113_5 : az_cd 113 5 = some (11, .ifCond .eq 10, 3, 9, 0, 0, [], []) := rfl
theorem k113_6 : az_cd 113 6 = some (14, .iload_n 2, 1, 0, 0, 0, [], []) := rfl
theorem k113_7 : az_cd 113 7 = some (15, .invokestatic 37, 3, 121, 1, 0, [], [248, 249, 42, 250]) := rfl
theorem k113_8 : az_cd 113 8 = some (18, .ifCond .ne 5, 3, 11, 0, 0, [], []) := rfl
theorem k113_9 : az_cd 113 9 = some (21, .iconst (-1), 1, 0, 0, (-1), [], []) := rfl
theorem k113_10 : az_cd 113 10 = some (22, .ireturn, 1, 0, 0, 0, [], []) := rfl
theorem k113_11 : az_cd 113 11 = some (23, .aload_n 0, 1, 0, 0, 0, [], []) := rfl
theorem k113_12 : az_cd 113 12 = some (24, .getfield 12, 3, 8, 0, 0, [], [228]) := rfl
theorem k113_13 : az_cd 113 13 = some (27, .getfield 174, 3, 6, 0, 1, [], [155]) := rfl
theorem k113_14 : az_cd 113 14 = some (30, .aload_n 0, 1, 0, 0, 0, [], []) := rfl
theorem k113_15 : az_cd 113 15 = some (31, .getfield 12, 3, 8, 0, 0, [], [228]) := rfl
theorem k113_16 : az_cd 113 16 = some (34, .getfield 125, 3, 6, 5, 1, [], [163]) := rfl
theorem k113_17 : az_cd 113 17 = some (37, .iload_n 1, 1, 0, 0, 0, [], []) := rfl
theorem k113_18 : az_cd 113 18 = some (38, .iload_n 2, 1, 0, 0, 0, [], []) := rfl
theorem k113_19 : az_cd 113 19 = some (39, .invokevirtual 178, 3, 57, 2, 0, [], [622, 623, 48, 625, 624]) := rfl
theorem k113_20 : az_cd 113 20 = some (42, .invokevirtual 181, 3, 4, 1, 0, [], [628, 606, 44, 608, 607]) := rfl
theorem k113_21 : az_cd 113 21 = some (45, .ireturn, 1, 0, 0, 0, [], []) := rfl
theorem k114_0 : az_cd 114 0 = some (0, .iload_n 1, 1, 0, 0, 0, [], []) := rfl
theorem k114_1 : az_cd 114 1 = some (1, .invokestatic 186, 3, 122, 1, 0, [], [633, 429, 42, 430]) := rfl
theorem k114_2 : az_cd 114 2 = some (4, .ifCond .ne 5, 3, 5, 0, 0, [], []) := rfl
theorem k114_3 : az_cd 114 3 = some (7, .iconst (-1), 1, 0, 0, (-1), [], []) := rfl
theorem k114_4 : az_cd 114 4 = some (8, .ireturn, 1, 0, 0, 0, [], []) := rfl
theorem k114_5 : az_cd 114 5 = some (9, .iload_n 2, 1, 0, 0, 0, [], []) := rfl
theorem k114_6 : az_cd 114 6 = some (10, .tableswitch 145 0 7 #[46, 58, 70, 85, 97, 109, 121, 133], 46, 56, 0, 0, [7, 13, 19, 26, 32, 38, 44, 50], []) := rfl
theorem k114_7 : az_cd 114 7 = some (56, .aload_n 0, 1, 0, 0, 0, [], []) := rfl
theorem k114_8 : az_cd 114 8 = some (57, .getfield 12, 3, 8, 0, 0, [], [228]) := rfl
theorem k114_9 : az_cd 114 9 = some (60, .getfield 174, 3, 6, 0, 1, [], [155]) := rfl
theorem k114_10 : az_cd 114 10 = some (63, .iload_n 1, 1, 0, 0, 0, [], []) := rfl
theorem k114_11 : az_cd 114 11 = some (64, .invokevirtual 181, 3, 4, 1, 0, [], [628, 606, 44, 608, 607]) := rfl
theorem k114_12 : az_cd 114 12 = some (67, .ireturn, 1, 0, 0, 0, [], []) := rfl
theorem k114_13 : az_cd 114 13 = some (68, .aload_n 0, 1, 0, 0, 0, [], []) := rfl
theorem k114_14 : az_cd 114 14 = some (69, .getfield 12, 3, 8, 0, 0, [], [228]) := rfl
theorem k114_15 : az_cd 114 15 = some (72, .getfield 174, 3, 6, 0, 1, [], [155]) := rfl
theorem k114_16 : az_cd 114 16 = some (75, .iload_n 1, 1, 0, 0, 0, [], []) := rfl
theorem k114_17 : az_cd 114 17 = some (76, .invokevirtual 189, 3, 5, 1, 0, [], [634, 635, 44, 637, 636]) := rfl
theorem k114_18 : az_cd 114 18 = some (79, .ireturn, 1, 0, 0, 0, [], []) := rfl
theorem k114_19 : az_cd 114 19 = some (80, .aload_n 0, 1, 0, 0, 0, [], []) := rfl
theorem k114_20 : az_cd 114 20 = some (81, .getfield 12, 3, 8, 0, 0, [], [228]) := rfl
theorem k114_21 : az_cd 114 21 = some (84, .getfield 174, 3, 6, 0, 1, [], [155]) := rfl
theorem k114_22 : az_cd 114 22 = some (87, .iload_n 1, 1, 0, 0, 0, [], []) := rfl
theorem k114_23 : az_cd 114 23 = some (88, .invokevirtual 192, 3, 7, 1, 0, [], [638, 639, 44, 641, 640]) := rfl
theorem k114_24 : az_cd 114 24 = some (91, .invokestatic 195, 3, 123, 1, 0, [], [642, 643, 42, 644]) := rfl
theorem k114_25 : az_cd 114 25 = some (94, .ireturn, 1, 0, 0, 0, [], []) := rfl
theorem k114_26 : az_cd 114 26 = some (95, .aload_n 0, 1, 0, 0, 0, [], []) := rfl
theorem k114_27 : az_cd 114 27 = some (96, .getfield 12, 3, 8, 0, 0, [], [228]) := rfl
theorem k114_28 : az_cd 114 28 = some (99, .getfield 174, 3, 6, 0, 1, [], [155]) := rfl
theorem k114_29 : az_cd 114 29 = some (102, .iload_n 1, 1, 0, 0, 0, [], []) := rfl
theorem k114_30 : az_cd 114 30 = some (103, .invokevirtual 199, 3, 6, 1, 0, [], [645, 425, 44, 427, 426]) := rfl
theorem k114_31 : az_cd 114 31 = some (106, .ireturn, 1, 0, 0, 0, [], []) := rfl
theorem k114_32 : az_cd 114 32 = some (107, .aload_n 0, 1, 0, 0, 0, [], []) := rfl
theorem k114_33 : az_cd 114 33 = some (108, .getfield 12, 3, 8, 0, 0, [], [228]) := rfl
theorem k114_34 : az_cd 114 34 = some (111, .iload_n 1, 1, 0, 0, 0, [], []) := rfl
theorem k114_35 : az_cd 114 35 = some (112, .invokevirtual 202, 3, 67, 1, 0, [], [646, 400, 43, 402, 401]) := rfl
theorem k114_36 : az_cd 114 36 = some (115, .invokestatic 195, 3, 123, 1, 0, [], [642, 643, 42, 644]) := rfl
theorem k114_37 : az_cd 114 37 = some (118, .ireturn, 1, 0, 0, 0, [], []) := rfl
theorem k114_38 : az_cd 114 38 = some (119, .aload_n 0, 1, 0, 0, 0, [], []) := rfl
theorem k114_39 : az_cd 114 39 = some (120, .getfield 12, 3, 8, 0, 0, [], [228]) := rfl
theorem k114_40 : az_cd 114 40 = some (123, .invokevirtual 116, 3, 64, 0, 0, [], [522, 404, 43, 406, 405]) := rfl
theorem k114_41 : az_cd 114 41 = some (126, .iload_n 1, 1, 0, 0, 0, [], []) := rfl
theorem k114_42 : az_cd 114 42 = some (127, .invokevirtual 205, 3, 27, 1, 0, [], [647, 412, 45, 414, 413]) := rfl
theorem k114_43 : az_cd 114 43 = some (130, .ireturn, 1, 0, 0, 0, [], []) := rfl
theorem k114_44 : az_cd 114 44 = some (131, .aload_n 0, 1, 0, 0, 0, [], []) := rfl
theorem k114_45 : az_cd 114 45 = some (132, .getfield 12, 3, 8, 0, 0, [], [228]) := rfl
theorem k114_46 : az_cd 114 46 = some (135, .getfield 125, 3, 6, 5, 1, [], [163]) := rfl
theorem k114_47 : az_cd 114 47 = some (138, .iload_n 1, 1, 0, 0, 0, [], []) := rfl
theorem k114_48 : az_cd 114 48 = some (139, .invokevirtual 208, 3, 52, 1, 0, [], [648, 416, 48, 418, 417]) := rfl
theorem k114_49 : az_cd 114 49 = some (142, .ireturn, 1, 0, 0, 0, [], []) := rfl
theorem k114_50 : az_cd 114 50 = some (143, .aload_n 0, 1, 0, 0, 0, [], []) := rfl
theorem k114_51 : az_cd 114 51 = some (144, .getfield 12, 3, 8, 0, 0, [], [228]) := rfl
theorem k114_52 : az_cd 114 52 = some (147, .getfield 47, 3, 6, 4, 1, [], [161]) := rfl
theorem k114_53 : az_cd 114 53 = some (150, .iload_n 1, 1, 0, 0, 0, [], []) := rfl
theorem k114_54 : az_cd 114 54 = some (151, .invokevirtual 211, 3, 91, 1, 0, [], [649, 421, 47, 423, 422]) := rfl
theorem k114_55 : az_cd 114 55 = some (154, .ireturn, 1, 0, 0, 0, [], []) := rfl
theorem k114_56 : az_cd 114 56 = some (155, .bipush (-2), 2, 0, 0, (-2), [], []) := rfl
theorem k114_57 : az_cd 114 57 = some (157, .ireturn, 1, 0, 0, 0, [], []) := rfl
theorem k115_0 : az_cd 115 0 = some (0, .iload_n 1, 1, 0, 0, 0, [], []) := rfl
theorem k115_1 : az_cd 115 1 = some (1, .ifCond .eq 10, 3, 7, 0, 0, [], []) := rfl
theorem k115_2 : az_cd 115 2 = some (4, .iload_n 1, 1, 0, 0, 0, [], []) := rfl
theorem k115_3 : az_cd 115 3 = some (5, .iconst 1, 1, 0, 0, 1, [], []) := rfl
theorem k115_4 : az_cd 115 4 = some (6, .if_icmp .eq 5, 3, 7, 0, 0, [], []) := rfl
theorem k115_5 : az_cd 115 5 = some (9, .iconst (-1), 1, 0, 0, (-1), [], []) := rfl
theorem k115_6 : az_cd 115 6 = some (10, .ireturn, 1, 0, 0, 0, [], []) := rfl
theorem k115_7 : az_cd 115 7 = some (11, .aload_n 0, 1, 0, 0, 0, [], []) := rfl
theorem k115_8 : az_cd 115 8 = some (12, .getfield 12, 3, 8, 0, 0, [], [228]) := rfl
theorem k115_9 : az_cd 115 9 = some (15, .iload_n 1, 1, 0, 0, 0, [], []) := rfl
theorem k115_10 : az_cd 115 10 = some (16, .invokevirtual 214, 3, 63, 1, 0, [], [654, 408, 43, 410, 409]) := rfl
theorem k115_11 : az_cd 115 11 = some (19, .astore_n 3, 1, 0, 0, 0, [], []) := rfl
theorem k115_12 : az_cd 115 12 = some (20, .iload_n 2, 1, 0, 0, 0, [], []) := rfl
theorem k115_13 : az_cd 115 13 = some (21, .tableswitch 69 0 3 #[31, 36, 44, 64], 31, 34, 0, 0, [14, 17, 21, 31], []) := rfl
theorem k115_14 : az_cd 115 14 = some (52, .aload_n 3, 1, 0, 0, 0, [], []) := rfl
theorem k115_15 : az_cd 115 15 = some (53, .invokevirtual 120, 3, 22, 0, 0, [], [523, 462, 45, 464, 463]) := rfl
theorem k115_16 : az_cd 115 16 = some (56, .ireturn, 1, 0, 0, 0, [], []) := rfl
theorem k115_17 : az_cd 115 17 = some (57, .aload_n 3, 1, 0, 0, 0, [], []) := rfl
theorem k115_18 : az_cd 115 18 = some (58, .invokevirtual 218, 3, 23, 0, 0, [], [655, 656, 45, 658, 657]) := rfl
theorem k115_19 : az_cd 115 19 = some (61, .invokestatic 195, 3, 123, 1, 0, [], [642, 643, 42, 644]) := rfl
theorem k115_20 : az_cd 115 20 = some (64, .ireturn, 1, 0, 0, 0, [], []) := rfl
theorem k115_21 : az_cd 115 21 = some (65, .iload_n 1, 1, 0, 0, 0, [], []) := rfl
theorem k115_22 : az_cd 115 22 = some (66, .aload_n 0, 1, 0, 0, 0, [], []) := rfl
theorem k115_23 : az_cd 115 23 = some (67, .getfield 12, 3, 8, 0, 0, [], [228]) := rfl
theorem k115_24 : az_cd 115 24 = some (70, .invokevirtual 220, 3, 60, 0, 0, [], [659, 660, 43, 662, 661]) := rfl
theorem k115_25 : az_cd 115 25 = some (73, .if_icmp .ne 7, 3, 28, 0, 0, [], []) := rfl
theorem k115_26 : az_cd 115 26 = some (76, .iconst 1, 1, 0, 0, 1, [], []) := rfl
theorem k115_27 : az_cd 115 27 = some (77, .goto 4, 3, 29, 0, 0, [], []) := rfl
theorem k115_28 : az_cd 115 28 = some (80, .iconst 0, 1, 0, 0, 0, [], []) := rfl
theorem k115_29 : az_cd 115 29 = some (81, .invokestatic 195, 3, 123, 1, 0, [], [642, 643, 42, 644]) := rfl
theorem k115_30 : az_cd 115 30 = some (84, .ireturn, 1, 0, 0, 0, [], []) := rfl
theorem k115_31 : az_cd 115 31 = some (85, .aload_n 3, 1, 0, 0, 0, [], []) := rfl
theorem k115_32 : az_cd 115 32 = some (86, .invokevirtual 223, 3, 28, 0, 0, [], [663, 664, 45, 666, 665]) := rfl
theorem k115_33 : az_cd 115 33 = some (89, .ireturn, 1, 0, 0, 0, [], []) := rfl
theorem k115_34 : az_cd 115 34 = some (90, .iload_n 2, 1, 0, 0, 0, [], []) := rfl
theorem k115_35 : az_cd 115 35 = some (91, .bipush 10, 2, 0, 0, 10, [], []) := rfl
theorem k115_36 : az_cd 115 36 = some (93, .if_icmp .lt 9, 3, 40, 0, 0, [], []) := rfl
theorem k115_37 : az_cd 115 37 = some (96, .iload_n 2, 1, 0, 0, 0, [], []) := rfl
theorem k115_38 : az_cd 115 38 = some (97, .bipush 18, 2, 0, 0, 18, [], []) := rfl
theorem k115_39 : az_cd 115 39 = some (99, .if_icmp .lt 6, 3, 42, 0, 0, [], []) := rfl
theorem k115_40 : az_cd 115 40 = some (102, .bipush (-2), 2, 0, 0, (-2), [], []) := rfl
theorem k115_41 : az_cd 115 41 = some (104, .ireturn, 1, 0, 0, 0, [], []) := rfl
theorem k115_42 : az_cd 115 42 = some (105, .aload_n 3, 1, 0, 0, 0, [], []) := rfl
theorem k115_43 : az_cd 115 43 = some (106, .iload_n 2, 1, 0, 0, 0, [], []) := rfl
theorem k115_44 : az_cd 115 44 = some (107, .bipush 10, 2, 0, 0, 10, [], []) := rfl
theorem k115_45 : az_cd 115 45 = some (109, .isub, 1, 0, 0, 0, [], []) := rfl
theorem k115_46 : az_cd 115 46 = some (110, .invokevirtual 226, 3, 25, 1, 0, [], [667, 479, 45, 481, 480]) := rfl
theorem k115_47 : az_cd 115 47 = some (113, .ireturn, 1, 0, 0, 0, [], []) := rfl
theorem k116_0 : az_cd 116 0 = some (0, .iload_n 1, 1, 0, 0, 0, [], []) := rfl
theorem k116_1 : az_cd 116 1 = some (1, .ifCond .lt 12, 3, 7, 0, 0, [], []) := rfl
theorem k116_2 : az_cd 116 2 = some (4, .iload_n 2, 1, 0, 0, 0, [], []) := rfl
theorem k116_3 : az_cd 116 3 = some (5, .ifCond .lt 8, 3, 7, 0, 0, [], []) := rfl
theorem k116_4 : az_cd 116 4 = some (8, .iload_n 2, 1, 0, 0, 0, [], []) := rfl
theorem k116_5 : az_cd 116 5 = some (9, .iconst 1, 1, 0, 0, 1, [], []) := rfl
theorem k116_6 : az_cd 116 6 = some (10, .if_icmp .le 6, 3, 9, 0, 0, [], []) := rfl
theorem k116_7 : az_cd 116 7 = some (13, .bipush (-2), 2, 0, 0, (-2), [], []) := rfl
theorem k116_8 : az_cd 116 8 = some (15, .ireturn, 1, 0, 0, 0, [], []) := rfl
theorem k116_9 : az_cd 116 9 = some (16, .iload_n 1, 1, 0, 0, 0, [], []) := rfl
theorem k116_10 : az_cd 116 10 = some (17, .aload_n 0, 1, 0, 0, 0, [], []) := rfl
theorem k116_11 : az_cd 116 11 = some (18, .getfield 12, 3, 8, 0, 0, [], [228]) := rfl
theorem k116_12 : az_cd 116 12 = some (21, .invokevirtual 95, 3, 71, 0, 0, [], [365, 366, 43, 368, 367]) := rfl
theorem k116_13 : az_cd 116 13 = some (24, .if_icmp .lt 6, 3, 16, 0, 0, [], []) := rfl
theorem k116_14 : az_cd 116 14 = some (27, .bipush (-5), 2, 0, 0, (-5), [], []) := rfl
theorem k116_15 : az_cd 116 15 = some (29, .ireturn, 1, 0, 0, 0, [], []) := rfl
theorem k116_16 : az_cd 116 16 = some (30, .iload_n 2, 1, 0, 0, 0, [], []) := rfl
theorem k116_17 : az_cd 116 17 = some (31, .ifCond .ne 14, 3, 23, 0, 0, [], []) := rfl
theorem k116_18 : az_cd 116 18 = some (34, .aload_n 0, 1, 0, 0, 0, [], []) := rfl
theorem k116_19 : az_cd 116 19 = some (35, .getfield 12, 3, 8, 0, 0, [], [228]) := rfl
theorem k116_20 : az_cd 116 20 = some (38, .iload_n 1, 1, 0, 0, 0, [], []) := rfl
theorem k116_21 : az_cd 116 21 = some (39, .invokevirtual 228, 3, 73, 1, 0, [], [672, 387, 43, 389, 388]) := rfl
theorem k116_22 : az_cd 116 22 = some (42, .goto 11, 3, 27, 0, 0, [], []) := rfl
theorem k116_23 : az_cd 116 23 = some (45, .aload_n 0, 1, 0, 0, 0, [], []) := rfl
theorem k116_24 : az_cd 116 24 = some (46, .getfield 12, 3, 8, 0, 0, [], [228]) := rfl
theorem k116_25 : az_cd 116 25 = some (49, .iload_n 1, 1, 0, 0, 0, [], []) := rfl
theorem k116_26 : az_cd 116 26 = some (50, .invokevirtual 231, 3, 74, 1, 0, [], [673, 674, 43, 676, 675]) := rfl
theorem k116_27 : az_cd 116 27 = some (53, .ireturn, 1, 0, 0, 0, [], []) := rfl
theorem k117_0 : az_cd 117 0 = some (0, .aload_n 0, 1, 0, 0, 0, [], []) := rfl
theorem k117_1 : az_cd 117 1 = some (1, .getfield 12, 3, 8, 0, 0, [], [228]) := rfl
theorem k117_2 : az_cd 117 2 = some (4, .getfield 125, 3, 6, 5, 1, [], [163]) := rfl
theorem k117_3 : az_cd 117 3 = some (7, .iload_n 1, 1, 0, 0, 0, [], []) := rfl
theorem k117_4 : az_cd 117 4 = some (8, .invokevirtual 138, 3, 49, 1, 0, [], [540, 541, 48, 543, 542]) := rfl
theorem k117_5 : az_cd 117 5 = some (11, .ifCond .ne 5, 3, 8, 0, 0, [], []) := rfl
theorem k117_6 : az_cd 117 6 = some (14, .iconst (-1), 1, 0, 0, (-1), [], []) := rfl
theorem k117_7 : az_cd 117 7 = some (15, .ireturn, 1, 0, 0, 0, [], []) := rfl
theorem k117_8 : az_cd 117 8 = some (16, .aload_n 0, 1, 0, 0, 0, [], []) := rfl
theorem k117_9 : az_cd 117 9 = some (17, .getfield 12, 3, 8, 0, 0, [], [228]) := rfl
theorem k117_10 : az_cd 117 10 = some (20, .getfield 125, 3, 6, 5, 1, [], [163]) := rfl
theorem k117_11 : az_cd 117 11 = some (23, .iload_n 1, 1, 0, 0, 0, [], []) := rfl
theorem k117_12 : az_cd 117 12 = some (24, .invokevirtual 234, 3, 56, 1, 0, [], [681, 682, 48, 684, 683]) := rfl
theorem k117_13 : az_cd 117 13 = some (27, .ireturn, 1, 0, 0, 0, [], []) := rfl
theorem k118_0 : az_cd 118 0 = some (0, .aload_n 0, 1, 0, 0, 0, [], []) := rfl
theorem k118_1 : az_cd 118 1 = some (1, .getfield 12, 3, 8, 0, 0, [], [228]) := rfl
theorem k118_2 : az_cd 118 2 = some (4, .getfield 174, 3, 6, 0, 1, [], [155]) := rfl
theorem k118_3 : az_cd 118 3 = some (7, .invokevirtual 237, 3, 9, 0, 0, [], [690, 691, 44, 693, 692]) := rfl
theorem k118_4 : az_cd 118 4 = some (10, .i2d, 1, 0, 0, 0, [], []) := rfl
theorem k118_5 : az_cd 118 5 = some (11, .aload_n 0, 1, 0, 0, 0, [], []) := rfl
theorem k118_6 : az_cd 118 6 = some (12, .getfield 12, 3, 8, 0, 0, [], [228]) := rfl
theorem k118_7 : az_cd 118 7 = some (15, .getfield 174, 3, 6, 0, 1, [], [155]) := rfl
theorem k118_8 : az_cd 118 8 = some (18, .invokevirtual 240, 3, 10, 0, 0, [], [694, 695, 44, 697, 696]) := rfl
theorem k118_9 : az_cd 118 9 = some (21, .i2d, 1, 0, 0, 0, [], []) := rfl
theorem k118_10 : az_cd 118 10 = some (22, .ldc2_w 243, 3, 4627448617123184640, 2, 0, [], [698]) := rfl
theorem k118_11 : az_cd 118 11 = some (25, .ddiv, 1, 0, 0, 0, [], []) := rfl
theorem k118_12 : az_cd 118 12 = some (26, .dsub, 1, 0, 0, 0, [], []) := rfl
theorem k118_13 : az_cd 118 13 = some (27, .dreturn, 1, 0, 0, 0, [], []) := rfl
theorem k119_0 : az_cd 119 0 = some (0, .aload_n 0, 1, 0, 0, 0, [], []) := rfl
theorem k119_1 : az_cd 119 1 = some (1, .invokevirtual 245, 3, 118, 0, 0, [], [703, 687, 42, 689, 688]) := rfl
theorem k119_2 : az_cd 119 2 = some (4, .d2f, 1, 0, 0, 0, [], []) := rfl
theorem k119_3 : az_cd 119 3 = some (5, .invokestatic 249, 3, 126, 1, 0, [], [704, 705, 42, 706]) := rfl
theorem k119_4 : az_cd 119 4 = some (8, .ireturn, 1, 0, 0, 0, [], []) := rfl
theorem k120_0 : az_cd 120 0 = some (0, .iload_n 1, 1, 0, 0, 0, [], []) := rfl
theorem k120_1 : az_cd 120 1 = some (1, .tableswitch 243 0 16 #[83, 94, 102, 113, 124, 132, 143, 151, 162, 173, 181, 192, 203, 211, 219, 227, 235], 83, 78, 0, 0, [2, 7, 11, 16, 21, 25, 30, 34, 39, 44, 48, 53, 58, 62, 66, 70, 74], []) := rfl
theorem k120_2 : az_cd 120 2 = some (84, .aload_n 0, 1, 0, 0, 0, [], []) := rfl
theorem k120_3 : az_cd 120 3 = some (85, .getfield 12, 3, 8, 0, 0, [], [228]) := rfl
theorem k120_4 : az_cd 120 4 = some (88, .invokevirtual 116, 3, 64, 0, 0, [], [522, 404, 43, 406, 405]) := rfl
theorem k120_5 : az_cd 120 5 = some (91, .invokevirtual 120, 3, 22, 0, 0, [], [523, 462, 45, 464, 463]) := rfl
theorem k120_6 : az_cd 120 6 = some (94, .ireturn, 1, 0, 0, 0, [], []) := rfl
theorem k120_7 : az_cd 120 7 = some (95, .aload_n 0, 1, 0, 0, 0, [], []) := rfl
theorem k120_8 : az_cd 120 8 = some (96, .getfield 12, 3, 8, 0, 0, [], [228]) := rfl
theorem k120_9 : az_cd 120 9 = some (99, .invokevirtual 220, 3, 60, 0, 0, [], [659, 660, 43, 662, 661]) := rfl
theorem k120_10 : az_cd 120 10 = some (102, .ireturn, 1, 0, 0, 0, [], []) := rfl
theorem k120_11 : az_cd 120 11 = some (103, .aload_n 0, 1, 0, 0, 0, [], []) := rfl
theorem k120_12 : az_cd 120 12 = some (104, .getfield 12, 3, 8, 0, 0, [], [228]) := rfl
theorem k120_13 : az_cd 120 13 = some (107, .invokevirtual 116, 3, 64, 0, 0, [], [522, 404, 43, 406, 405]) := rfl
theorem k120_14 : az_cd 120 14 = some (110, .invokevirtual 253, 3, 29, 0, 0, [], [712, 713, 45, 715, 714]) := rfl
theorem k120_15 : az_cd 120 15 = some (113, .ireturn, 1, 0, 0, 0, [], []) := rfl
theorem k120_16 : az_cd 120 16 = some (114, .aload_n 0, 1, 0, 0, 0, [], []) := rfl
theorem k120_17 : az_cd 120 17 = some (115, .getfield 12, 3, 8, 0, 0, [], [228]) := rfl
theorem k120_18 : az_cd 120 18 = some (118, .getfield 57, 3, 6, 3, 1, [], [159]) := rfl
theorem k120_19 : az_cd 120 19 = some (121, .invokevirtual 73, 3, 17, 0, 0, [], [306, 307, 46, 309, 308]) := rfl
theorem k120_20 : az_cd 120 20 = some (124, .ireturn, 1, 0, 0, 0, [], []) := rfl
theorem k120_21 : az_cd 120 21 = some (125, .aload_n 0, 1, 0, 0, 0, [], []) := rfl
theorem k120_22 : az_cd 120 22 = some (126, .getfield 12, 3, 8, 0, 0, [], [228]) := rfl
theorem k120_23 : az_cd 120 23 = some (129, .invokevirtual 95, 3, 71, 0, 0, [], [365, 366, 43, 368, 367]) := rfl
theorem k120_24 : az_cd 120 24 = some (132, .ireturn, 1, 0, 0, 0, [], []) := rfl
theorem k120_25 : az_cd 120 25 = some (133, .aload_n 0, 1, 0, 0, 0, [], []) := rfl
theorem k120_26 : az_cd 120 26 = some (134, .getfield 12, 3, 8, 0, 0, [], [228]) := rfl
theorem k120_27 : az_cd 120 27 = some (137, .getfield 47, 3, 6, 4, 1, [], [161]) := rfl
theorem k120_28 : az_cd 120 28 = some (140, .invokevirtual 104, 3, 85, 0, 0, [], [504, 375, 47, 377, 376]) := rfl
theorem k120_29 : az_cd 120 29 = some (143, .ireturn, 1, 0, 0, 0, [], []) := rfl
theorem k120_30 : az_cd 120 30 = some (144, .aload_n 0, 1, 0, 0, 0, [], []) := rfl
theorem k120_31 : az_cd 120 31 = some (145, .getfield 12, 3, 8, 0, 0, [], [228]) := rfl
theorem k120_32 : az_cd 120 32 = some (148, .invokevirtual 256, 3, 68, 0, 0, [], [723, 724, 43, 726, 725]) := rfl
theorem k120_33 : az_cd 120 33 = some (151, .ireturn, 1, 0, 0, 0, [], []) := rfl
theorem k120_34 : az_cd 120 34 = some (152, .aload_n 0, 1, 0, 0, 0, [], []) := rfl
theorem k120_35 : az_cd 120 35 = some (153, .getfield 12, 3, 8, 0, 0, [], [228]) := rfl
theorem k120_36 : az_cd 120 36 = some (156, .getfield 174, 3, 6, 0, 1, [], [155]) := rfl
theorem k120_37 : az_cd 120 37 = some (159, .invokevirtual 259, 3, 8, 0, 0, [], [727, 728, 44, 730, 729]) := rfl
theorem k120_38 : az_cd 120 38 = some (162, .ireturn, 1, 0, 0, 0, [], []) := rfl
theorem k120_39 : az_cd 120 39 = some (163, .aload_n 0, 1, 0, 0, 0, [], []) := rfl
theorem k120_40 : az_cd 120 40 = some (164, .getfield 12, 3, 8, 0, 0, [], [228]) := rfl
theorem k120_41 : az_cd 120 41 = some (167, .getfield 125, 3, 6, 5, 1, [], [163]) := rfl
theorem k120_42 : az_cd 120 42 = some (170, .invokevirtual 145, 3, 51, 0, 0, [], [548, 549, 48, 551, 550]) := rfl
theorem k120_43 : az_cd 120 43 = some (173, .ireturn, 1, 0, 0, 0, [], []) := rfl
theorem k120_44 : az_cd 120 44 = some (174, .aload_n 0, 1, 0, 0, 0, [], []) := rfl
theorem k120_45 : az_cd 120 45 = some (175, .getfield 12, 3, 8, 0, 0, [], [228]) := rfl
theorem k120_46 : az_cd 120 46 = some (178, .invokevirtual 262, 3, 61, 0, 0, [], [732, 733, 43, 735, 734]) := rfl
theorem k120_47 : az_cd 120 47 = some (181, .ireturn, 1, 0, 0, 0, [], []) := rfl
theorem k120_48 : az_cd 120 48 = some (182, .aload_n 0, 1, 0, 0, 0, [], []) := rfl
theorem k120_49 : az_cd 120 49 = some (183, .getfield 12, 3, 8, 0, 0, [], [228]) := rfl
theorem k120_50 : az_cd 120 50 = some (186, .getfield 174, 3, 6, 0, 1, [], [155]) := rfl
theorem k120_51 : az_cd 120 51 = some (189, .invokevirtual 237, 3, 9, 0, 0, [], [690, 691, 44, 693, 692]) := rfl
theorem k120_52 : az_cd 120 52 = some (192, .ireturn, 1, 0, 0, 0, [], []) := rfl
theorem k120_53 : az_cd 120 53 = some (193, .aload_n 0, 1, 0, 0, 0, [], []) := rfl
theorem k120_54 : az_cd 120 54 = some (194, .getfield 12, 3, 8, 0, 0, [], [228]) := rfl
theorem k120_55 : az_cd 120 55 = some (197, .getfield 174, 3, 6, 0, 1, [], [155]) := rfl
theorem k120_56 : az_cd 120 56 = some (200, .invokevirtual 240, 3, 10, 0, 0, [], [694, 695, 44, 697, 696]) := rfl
theorem k120_57 : az_cd 120 57 = some (203, .ireturn, 1, 0, 0, 0, [], []) := rfl
theorem k120_58 : az_cd 120 58 = some (204, .aload_n 0, 1, 0, 0, 0, [], []) := rfl
theorem k120_59 : az_cd 120 59 = some (205, .getfield 12, 3, 8, 0, 0, [], [228]) := rfl
theorem k120_60 : az_cd 120 60 = some (208, .invokevirtual 265, 3, 69, 0, 0, [], [736, 737, 43, 739, 738]) := rfl
theorem k120_61 : az_cd 120 61 = some (211, .ireturn, 1, 0, 0, 0, [], []) := rfl
theorem k120_62 : az_cd 120 62 = some (212, .aload_n 0, 1, 0, 0, 0, [], []) := rfl
theorem k120_63 : az_cd 120 63 = some (213, .getfield 12, 3, 8, 0, 0, [], [228]) := rfl
theorem k120_64 : az_cd 120 64 = some (216, .invokevirtual 268, 3, 62, 0, 0, [], [740, 741, 43, 743, 742]) := rfl
theorem k120_65 : az_cd 120 65 = some (219, .ireturn, 1, 0, 0, 0, [], []) := rfl
theorem k120_66 : az_cd 120 66 = some (220, .aload_n 0, 1, 0, 0, 0, [], []) := rfl
theorem k120_67 : az_cd 120 67 = some (221, .getfield 22, 3, 8, 2, 0, [], [230]) := rfl
theorem k120_68 : az_cd 120 68 = some (224, .invokevirtual 159, 3, 32, 0, 0, [], [580, 581, 49, 583, 582]) := rfl
theorem k120_69 : az_cd 120 69 = some (227, .ireturn, 1, 0, 0, 0, [], []) := rfl
theorem k120_70 : az_cd 120 70 = some (228, .aload_n 0, 1, 0, 0, 0, [], []) := rfl
theorem k120_71 : az_cd 120 71 = some (229, .getfield 29, 3, 8, 3, 0, [], [231]) := rfl
theorem k120_72 : az_cd 120 72 = some (232, .invokevirtual 155, 3, 36, 0, 0, [], [564, 565, 50, 567, 566]) := rfl
theorem k120_73 : az_cd 120 73 = some (235, .ireturn, 1, 0, 0, 0, [], []) := rfl
theorem k120_74 : az_cd 120 74 = some (236, .aload_n 0, 1, 0, 0, 0, [], []) := rfl
theorem k120_75 : az_cd 120 75 = some (237, .getfield 12, 3, 8, 0, 0, [], [228]) := rfl
theorem k120_76 : az_cd 120 76 = some (240, .invokevirtual 271, 3, 72, 0, 0, [], [744, 391, 43, 393, 392]) := rfl
theorem k120_77 : az_cd 120 77 = some (243, .ireturn, 1, 0, 0, 0, [], []) := rfl
theorem k120_78 : az_cd 120 78 = some (244, .bipush (-2), 2, 0, 0, (-2), [], []) := rfl
theorem k120_79 : az_cd 120 79 = some (246, .ireturn, 1, 0, 0, 0, [], []) := rfl
theorem k121_0 : az_cd 121 0 = some (0, .iload_n 0, 1, 0, 0, 0, [], []) := rfl
theorem k121_1 : az_cd 121 1 = some (1, .ifCond .lt 13, 3, 7, 0, 0, [], []) := rfl
theorem k121_2 : az_cd 121 2 = some (4, .iload_n 0, 1, 0, 0, 0, [], []) := rfl
theorem k121_3 : az_cd 121 3 = some (5, .bipush 8, 2, 0, 0, 8, [], []) := rfl
theorem k121_4 : az_cd 121 4 = some (7, .if_icmp .ge 7, 3, 7, 0, 0, [], []) := rfl
theorem k121_5 : az_cd 121 5 = some (10, .iconst 1, 1, 0, 0, 1, [], []) := rfl
theorem k121_6 : az_cd 121 6 = some (11, .goto 4, 3, 8, 0, 0, [], []) := rfl
theorem k121_7 : az_cd 121 7 = some (14, .iconst 0, 1, 0, 0, 0, [], []) := rfl
theorem k121_8 : az_cd 121 8 = some (15, .ireturn, 1, 0, 0, 0, [], []) := rfl
theorem k122_0 : az_cd 122 0 = some (0, .iload_n 0, 1, 0, 0, 0, [], []) := rfl
theorem k122_1 : az_cd 122 1 = some (1, .ifCond .lt 13, 3, 7, 0, 0, [], []) := rfl
theorem k122_2 : az_cd 122 2 = some (4, .iload_n 0, 1, 0, 0, 0, [], []) := rfl
theorem k122_3 : az_cd 122 3 = some (5, .bipush 24, 2, 0, 0, 24, [], []) := rfl
theorem k122_4 : az_cd 122 4 = some (7, .if_icmp .ge 7, 3, 7, 0, 0, [], []) := rfl
theorem k122_5 : az_cd 122 5 = some (10, .iconst 1, 1, 0, 0, 1, [], []) := rfl
theorem k122_6 : az_cd 122 6 = some (11, .goto 4, 3, 8, 0, 0, [], []) := rfl
theorem k122_7 : az_cd 122 7 = some (14, .iconst 0, 1, 0, 0, 0, [], []) := rfl
theorem k122_8 : az_cd 122 8 = some (15, .ireturn, 1, 0, 0, 0, [], []) := rfl
theorem k123_0 : az_cd 123 0 = some (0, .iload_n 0, 1, 0, 0, 0, [], []) := rfl
theorem k123_1 : az_cd 123 1 = some (1, .ifCond .eq 7, 3, 4, 0, 0, [], []) := rfl
theorem k123_2 : az_cd 123 2 = some (4, .iconst 1, 1, 0, 0, 1, [], []) := rfl
theorem k123_3 : az_cd 123 3 = some (5, .goto 4, 3, 5, 0, 0, [], []) := rfl
theorem k123_4 : az_cd 123 4 = some (8, .iconst 0, 1, 0, 0, 0, [], []) := rfl
theorem k123_5 : az_cd 123 5 = some (9, .ireturn, 1, 0, 0, 0, [], []) := rfl
theorem k124_0 : az_cd 124 0 = some (0, .iconst 0, 1, 0, 0, 0, [], []) := rfl
theorem k124_1 : az_cd 124 1 = some (1, .istore_n 2, 1, 0, 0, 0, [], []) := rfl
theorem k124_2 : az_cd 124 2 = some (2, .iload_n 2, 1, 0, 0, 0, [], []) := rfl
theorem k124_3 : az_cd 124 3 = some (3, .aload_n 0, 1, 0, 0, 0, [], []) := rfl
theorem k124_4 : az_cd 124 4 = some (4, .arraylength, 1, 0, 0, 0, [], []) := rfl
theorem k124_5 : az_cd 124 5 = some (5, .if_icmp .ge 13, 3, 12, 0, 0, [], []) := rfl
theorem k124_6 : az_cd 124 6 = some (8, .aload_n 0, 1, 0, 0, 0, [], []) := rfl
theorem k124_7 : az_cd 124 7 = some (9, .iload_n 2, 1, 0, 0, 0, [], []) := rfl
theorem k124_8 : az_cd 124 8 = some (10, .iload_n 1, 1, 0, 0, 0, [], []) := rfl
theorem k124_9 : az_cd 124 9 = some (11, .iastore, 1, 0, 0, 0, [], []) := rfl
theorem k124_10 : az_cd 124 10 = some (12, .iinc 2 1, 3, 0, 0, 1, [], []) := rfl
theorem k124_11 : az_cd 124 11 = some (15, .goto (-13), 3, 2, 0, 0, [], []) := rfl
theorem k124_12 : az_cd 124 12 = some (18, .return_, 1, 0, 0, 0, [], []) := rfl
theorem k125_0 : az_cd 125 0 = some (0, .iconst 0, 1, 0, 0, 0, [], []) := rfl
theorem k125_1 : az_cd 125 1 = some (1, .istore_n 2, 1, 0, 0, 0, [], []) := rfl
theorem k125_2 : az_cd 125 2 = some (2, .iload_n 2, 1, 0, 0, 0, [], []) := rfl
theorem k125_3 : az_cd 125 3 = some (3, .aload_n 0, 1, 0, 0, 0, [], []) := rfl
theorem k125_4 : az_cd 125 4 = some (4, .arraylength, 1, 0, 0, 0, [], []) := rfl
theorem k125_5 : az_cd 125 5 = some (5, .if_icmp .ge 21, 3, 18, 0, 0, [], []) := rfl
theorem k125_6 : az_cd 125 6 = some (8, .iload_n 2, 1, 0, 0, 0, [], []) := rfl
theorem k125_7 : az_cd 125 7 = some (9, .aload_n 1, 1, 0, 0, 0, [], []) := rfl
theorem k125_8 : az_cd 125 8 = some (10, .arraylength, 1, 0, 0, 0, [], []) := rfl
theorem k125_9 : az_cd 125 9 = some (11, .if_icmp .ge 15, 3, 18, 0, 0, [], []) := rfl
theorem k125_10 : az_cd 125 10 = some (14, .aload_n 1, 1, 0, 0, 0, [], []) := rfl
theorem k125_11 : az_cd 125 11 = some (15, .iload_n 2, 1, 0, 0, 0, [], []) := rfl
theorem k125_12 : az_cd 125 12 = some (16, .aload_n 0, 1, 0, 0, 0, [], []) := rfl
theorem k125_13 : az_cd 125 13 = some (17, .iload_n 2, 1, 0, 0, 0, [], []) := rfl
theorem k125_14 : az_cd 125 14 = some (18, .iaload, 1, 0, 0, 0, [], []) := rfl
theorem k125_15 : az_cd 125 15 = some (19, .iastore, 1, 0, 0, 0, [], []) := rfl
theorem k125_16 : az_cd 125 16 = some (20, .iinc 2 1, 3, 0, 0, 1, [], []) := rfl
theorem k125_17 : az_cd 125 17 = some (23, .goto (-21), 3, 2, 0, 0, [], []) := rfl
theorem k125_18 : az_cd 125 18 = some (26, .return_, 1, 0, 0, 0, [], []) := rfl
theorem k126_0 : az_cd 126 0 = some (0, .fload_n 0, 1, 0, 0, 0, [], []) := rfl
theorem k126_1 : az_cd 126 1 = some (1, .fconst 0, 1, 0, 0, 0, [], []) := rfl
theorem k126_2 : az_cd 126 2 = some (2, .fcmp .l, 1, 0, 0, 0, [], []) := rfl
theorem k126_3 : az_cd 126 3 = some (3, .ifCond .gt 5, 3, 6, 0, 0, [], []) := rfl
theorem k126_4 : az_cd 126 4 = some (6, .iconst 0, 1, 0, 0, 0, [], []) := rfl
theorem k126_5 : az_cd 126 5 = some (7, .ireturn, 1, 0, 0, 0, [], []) := rfl
theorem k126_6 : az_cd 126 6 = some (8, .fload_n 0, 1, 0, 0, 0, [], []) := rfl
theorem k126_7 : az_cd 126 7 = some (9, .fstore_n 1, 1, 0, 0, 0, [], []) := rfl
theorem k126_8 : az_cd 126 8 = some (10, .bipush 127, 2, 0, 0, 127, [], []) := rfl
theorem k126_9 : az_cd 126 9 = some (12, .istore_n 2, 1, 0, 0, 0, [], []) := rfl
theorem k126_10 : az_cd 126 10 = some (13, .fload_n 1, 1, 0, 0, 0, [], []) := rfl
theorem k126_11 : az_cd 126 11 = some (14, .fconst 2, 1, 0, 0, 0, [], []) := rfl
theorem k126_12 : az_cd 126 12 = some (15, .fcmp .l, 1, 0, 0, 0, [], []) := rfl
theorem k126_13 : az_cd 126 13 = some (16, .ifCond .lt 20, 3, 23, 0, 0, [], []) := rfl
theorem k126_14 : az_cd 126 14 = some (19, .iload_n 2, 1, 0, 0, 0, [], []) := rfl
theorem k126_15 : az_cd 126 15 = some (20, .sipush 254, 3, 0, 0, 254, [], []) := rfl
theorem k126_16 : az_cd 126 16 = some (23, .if_icmp .ge 13, 3, 23, 0, 0, [], []) := rfl
theorem k126_17 : az_cd 126 17 = some (26, .fload_n 1, 1, 0, 0, 0, [], []) := rfl
theorem k126_18 : az_cd 126 18 = some (27, .fconst 2, 1, 0, 0, 0, [], []) := rfl
theorem k126_19 : az_cd 126 19 = some (28, .fdiv, 1, 0, 0, 0, [], []) := rfl
theorem k126_20 : az_cd 126 20 = some (29, .fstore_n 1, 1, 0, 0, 0, [], []) := rfl
theorem k126_21 : az_cd 126 21 = some (30, .iinc 2 1, 3, 0, 0, 1, [], []) := rfl
theorem k126_22 : az_cd 126 22 = some (33, .goto (-20), 3, 10, 0, 0, [], []) := rfl
theorem k126_23 : az_cd 126 23 = some (36, .fload_n 1, 1, 0, 0, 0, [], []) := rfl
theorem k126_24 : az_cd 126 24 = some (37, .fconst 1, 1, 0, 0, 0, [], []) := rfl
theorem k126_25 : az_cd 126 25 = some (38, .fcmp .g, 1, 0, 0, 0, [], []) := rfl
theorem k126_26 : az_cd 126 26 = some (39, .ifCond .ge 18, 3, 36, 0, 0, [], []) := rfl
theorem k126_27 : az_cd 126 27 = some (42, .iload_n 2, 1, 0, 0, 0, [], []) := rfl
theorem k126_28 : az_cd 126 28 = some (43, .iconst 1, 1, 0, 0, 1, [], []) := rfl
theorem k126_29 : az_cd 126 29 = some (44, .if_icmp .le 13, 3, 36, 0, 0, [], []) := rfl
theorem k126_30 : az_cd 126 30 = some (47, .fload_n 1, 1, 0, 0, 0, [], []) := rfl
theorem k126_31 : az_cd 126 31 = some (48, .fconst 2, 1, 0, 0, 0, [], []) := rfl
theorem k126_32 : az_cd 126 32 = some (49, .fmul, 1, 0, 0, 0, [], []) := rfl
theorem k126_33 : az_cd 126 33 = some (50, .fstore_n 1, 1, 0, 0, 0, [], []) := rfl
theorem k126_34 : az_cd 126 34 = some (51, .iinc 2 (-1), 3, 0, 0, (-1), [], []) := rfl
theorem k126_35 : az_cd 126 35 = some (54, .goto (-18), 3, 23, 0, 0, [], []) := rfl
theorem k126_36 : az_cd 126 36 = some (57, .fload_n 1, 1, 0, 0, 0, [], []) := rfl
theorem k126_37 : az_cd 126 37 = some (58, .fconst 1, 1, 0, 0, 0, [], []) := rfl
theorem k126_38 : az_cd 126 38 = some (59, .fsub, 1, 0, 0, 0, [], []) := rfl
theorem k126_39 : az_cd 126 39 = some (60, .ldc_w 274, 3, 1258291200, 1, 0, [], [707]) := rfl
theorem k126_40 : az_cd 126 40 = some (63, .fmul, 1, 0, 0, 0, [], []) := rfl
theorem k126_41 : az_cd 126 41 = some (64, .f2i, 1, 0, 0, 0, [], []) := rfl
theorem k126_42 : az_cd 126 42 = some (65, .istore_n 3, 1, 0, 0, 0, [], []) := rfl
theorem k126_43 : az_cd 126 43 = some (66, .iload_n 2, 1, 0, 0, 0, [], []) := rfl
theorem k126_44 : az_cd 126 44 = some (67, .bipush 23, 2, 0, 0, 23, [], []) := rfl
theorem k126_45 : az_cd 126 45 = some (69, .ishl, 1, 0, 0, 0, [], []) := rfl
theorem k126_46 : az_cd 126 46 = some (70, .iload_n 3, 1, 0, 0, 0, [], []) := rfl
theorem k126_47 : az_cd 126 47 = some (71, .ior, 1, 0, 0, 0, [], []) := rfl
theorem k126_48 : az_cd 126 48 = some (72, .ireturn, 1, 0, 0, 0, [], []) := rfl
theorem k127_0 : az_cd 127 0 = some (0, .aload_n 0, 1, 0, 0, 0, [], []) := rfl
theorem k127_1 : az_cd 127 1 = some (1, .invokespecial 1, 3, 196, 0, 2, [], [750, 61, 62]) := rfl
theorem k127_2 : az_cd 127 2 = some (4, .aload_n 0, 1, 0, 0, 0, [], []) := rfl
theorem k127_3 : az_cd 127 3 = some (5, .sipush 153, 3, 0, 0, 153, [], []) := rfl
theorem k127_4 : az_cd 127 4 = some (8, .newarray .int, 2, 0, 0, 0, [], [91]) := rfl
theorem k127_5 : az_cd 127 5 = some (10, .putfield 7, 3, 9, 0, 0, [], [751]) := rfl
theorem k127_6 : az_cd 127 6 = some (13, .aload_n 0, 1, 0, 0, 0, [], []) := rfl
theorem k127_7 : az_cd 127 7 = some (14, .sipush 612, 3, 0, 0, 612, [], []) := rfl
theorem k127_8 : az_cd 127 8 = some (17, .newarray .int, 2, 0, 0, 0, [], [91]) := rfl
theorem k127_9 : az_cd 127 9 = some (19, .putfield 13, 3, 9, 1, 0, [], [752]) := rfl
theorem k127_10 : az_cd 127 10 = some (22, .aload_n 0, 1, 0, 0, 0, [], []) := rfl
theorem k127_11 : az_cd 127 11 = some (23, .sipush 153, 3, 0, 0, 153, [], []) := rfl
theorem k127_12 : az_cd 127 12 = some (26, .newarray .int, 2, 0, 0, 0, [], [91]) := rfl
theorem k127_13 : az_cd 127 13 = some (28, .putfield 16, 3, 9, 3, 0, [], [754]) := rfl
theorem k127_14 : az_cd 127 14 = some (31, .aload_n 0, 1, 0, 0, 0, [], []) := rfl
theorem k127_15 : az_cd 127 15 = some (32, .bipush 60, 2, 0, 0, 60, [], []) := rfl
theorem k127_16 : az_cd 127 16 = some (34, .newarray .char, 2, 0, 1, 0, [], [227]) := rfl
theorem k127_17 : az_cd 127 17 = some (36, .putfield 19, 3, 9, 5, 0, [], [756]) := rfl
theorem k127_18 : az_cd 127 18 = some (39, .aload_n 0, 1, 0, 0, 0, [], []) := rfl
theorem k127_19 : az_cd 127 19 = some (40, .bipush 42, 2, 0, 0, 42, [], []) := rfl
theorem k127_20 : az_cd 127 20 = some (42, .newarray .int, 2, 0, 0, 0, [], [91]) := rfl
theorem k127_21 : az_cd 127 21 = some (44, .putfield 23, 3, 9, 8, 0, [], [759]) := rfl
theorem k127_22 : az_cd 127 22 = some (47, .iconst 0, 1, 0, 0, 0, [], []) := rfl
theorem k127_23 : az_cd 127 23 = some (48, .istore_n 1, 1, 0, 0, 0, [], []) := rfl
theorem k127_24 : az_cd 127 24 = some (49, .iload_n 1, 1, 0, 0, 0, [], []) := rfl
theorem k127_25 : az_cd 127 25 = some (50, .bipush 24, 2, 0, 0, 24, [], []) := rfl
theorem k127_26 : az_cd 127 26 = some (52, .if_icmp .ge 20, 3, 36, 0, 0, [], []) := rfl
theorem k127_27 : az_cd 127 27 = some (55, .aload_n 0, 1, 0, 0, 0, [], []) := rfl
theorem k127_28 : az_cd 127 28 = some (56, .getfield 7, 3, 9, 0, 0, [], [751]) := rfl
theorem k127_29 : az_cd 127 29 = some (59, .bipush 24, 2, 0, 0, 24, [], []) := rfl
theorem k127_30 : az_cd 127 30 = some (61, .iload_n 1, 1, 0, 0, 0, [], []) := rfl
theorem k127_31 : az_cd 127 31 = some (62, .iadd, 1, 0, 0, 0, [], []) := rfl
theorem k127_32 : az_cd 127 32 = some (63, .bipush 11, 2, 0, 0, 11, [], []) := rfl
theorem k127_33 : az_cd 127 33 = some (65, .iastore, 1, 0, 0, 0, [], []) := rfl
theorem k127_34 : az_cd 127 34 = some (66, .iinc 1 1, 3, 0, 0, 1, [], []) := rfl
theorem k127_35 : az_cd 127 35 = some (69, .goto (-20), 3, 24, 0, 0, [], []) := rfl
theorem k127_36 : az_cd 127 36 = some (72, .aload_n 0, 1, 0, 0, 0, [], []) := rfl
theorem k127_37 : az_cd 127 37 = some (73, .getfield 7, 3, 9, 0, 0, [], [751]) := rfl
theorem k127_38 : az_cd 127 38 = some (76, .bipush 72, 2, 0, 0, 72, [], []) := rfl
theorem k127_39 : az_cd 127 39 = some (78, .iconst 1, 1, 0, 0, 1, [], []) := rfl
theorem k127_40 : az_cd 127 40 = some (79, .iastore, 1, 0, 0, 0, [], []) := rfl
theorem k127_41 : az_cd 127 41 = some (80, .iconst 0, 1, 0, 0, 0, [], []) := rfl
theorem k127_42 : az_cd 127 42 = some (81, .istore_n 1, 1, 0, 0, 0, [], []) := rfl
theorem k127_43 : az_cd 127 43 = some (82, .iload_n 1, 1, 0, 0, 0, [], []) := rfl
theorem k127_44 : az_cd 127 44 = some (83, .bipush 8, 2, 0, 0, 8, [], []) := rfl
theorem k127_45 : az_cd 127 45 = some (85, .if_icmp .ge 53, 3, 76, 0, 0, [], []) := rfl
theorem k127_46 : az_cd 127 46 = some (88, .aload_n 0, 1, 0, 0, 0, [], []) := rfl
theorem k127_47 : az_cd 127 47 = some (89, .getfield 7, 3, 9, 0, 0, [], [751]) := rfl
theorem k127_48 : az_cd 127 48 = some (92, .bipush 74, 2, 0, 0, 74, [], []) := rfl
theorem k127_49 : az_cd 127 49 = some (94, .iload_n 1, 1, 0, 0, 0, [], []) := rfl
theorem k127_50 : az_cd 127 50 = some (95, .iadd, 1, 0, 0, 0, [], []) := rfl
theorem k127_51 : az_cd 127 51 = some (96, .bipush (-5), 2, 0, 0, (-5), [], []) := rfl
theorem k127_52 : az_cd 127 52 = some (98, .iastore, 1, 0, 0, 0, [], []) := rfl
theorem k127_53 : az_cd 127 53 = some (99, .aload_n 0, 1, 0, 0, 0, [], []) := rfl
theorem k127_54 : az_cd 127 54 = some (100, .getfield 7, 3, 9, 0, 0, [], [751]) := rfl
theorem k127_55 : az_cd 127 55 = some (103, .bipush 84, 2, 0, 0, 84, [], []) := rfl
theorem k127_56 : az_cd 127 56 = some (105, .iload_n 1, 1, 0, 0, 0, [], []) := rfl
theorem k127_57 : az_cd 127 57 = some (106, .iadd, 1, 0, 0, 0, [], []) := rfl
theorem k127_58 : az_cd 127 58 = some (107, .bipush (-5), 2, 0, 0, (-5), [], []) := rfl
theorem k127_59 : az_cd 127 59 = some (109, .iastore, 1, 0, 0, 0, [], []) := rfl
theorem k127_60 : az_cd 127 60 = some (110, .aload_n 0, 1, 0, 0, 0, [], []) := rfl
theorem k127_61 : az_cd 127 61 = some (111, .getfield 7, 3, 9, 0, 0, [], [751]) := rfl
theorem k127_62 : az_cd 127 62 = some (114, .bipush 93, 2, 0, 0, 93, [], []) := rfl
theorem k127_63 : az_cd 127 63 = some (116, .iload_n 1, 1, 0, 0, 0, [], []) := rfl
theorem k127_64 : az_cd 127 64 = some (117, .iadd, 1, 0, 0, 0, [], []) := rfl
theorem k127_65 : az_cd 127 65 = some (118, .bipush (-5), 2, 0, 0, (-5), [], []) := rfl
theorem k127_66 : az_cd 127 66 = some (120, .iastore, 1, 0, 0, 0, [], []) := rfl
theorem k127_67 : az_cd 127 67 = some (121, .aload_n 0, 1, 0, 0, 0, [], []) := rfl
theorem k127_68 : az_cd 127 68 = some (122, .getfield 7, 3, 9, 0, 0, [], [751]) := rfl
theorem k127_69 : az_cd 127 69 = some (125, .bipush 103, 2, 0, 0, 103, [], []) := rfl
theorem k127_70 : az_cd 127 70 = some (127, .iload_n 1, 1, 0, 0, 0, [], []) := rfl
theorem k127_71 : az_cd 127 71 = some (128, .iadd, 1, 0, 0, 0, [], []) := rfl
theorem k127_72 : az_cd 127 72 = some (129, .bipush (-5), 2, 0, 0, (-5), [], []) := rfl
theorem k127_73 : az_cd 127 73 = some (131, .iastore, 1, 0, 0, 0, [], []) := rfl
theorem k127_74 : az_cd 127 74 = some (132, .iinc 1 1, 3, 0, 0, 1, [], []) := rfl
theorem k127_75 : az_cd 127 75 = some (135, .goto (-53), 3, 43, 0, 0, [], []) := rfl
theorem k127_76 : az_cd 127 76 = some (138, .return_, 1, 0, 0, 0, [], []) := rfl
theorem k128_0 : az_cd 128 0 = some (0, .iload_n 0, 1, 0, 0, 0, [], []) := rfl
theorem k128_1 : az_cd 128 1 = some (1, .iload_n 1, 1, 0, 0, 0, [], []) := rfl
theorem k128_2 : az_cd 128 2 = some (2, .if_icmp .lt 12, 3, 8, 0, 0, [], []) := rfl
theorem k128_3 : az_cd 128 3 = some (5, .iload_n 0, 1, 0, 0, 0, [], []) := rfl
theorem k128_4 : az_cd 128 4 = some (6, .iload_n 2, 1, 0, 0, 0, [], []) := rfl
theorem k128_5 : az_cd 128 5 = some (7, .if_icmp .gt 7, 3, 8, 0, 0, [], []) := rfl
theorem k128_6 : az_cd 128 6 = some (10, .iconst 1, 1, 0, 0, 1, [], []) := rfl
theorem k128_7 : az_cd 128 7 = some (11, .goto 4, 3, 9, 0, 0, [], []) := rfl
theorem k128_8 : az_cd 128 8 = some (14, .iconst 0, 1, 0, 0, 0, [], []) := rfl
theorem k128_9 : az_cd 128 9 = some (15, .ireturn, 1, 0, 0, 0, [], []) := rfl
theorem k129_0 : az_cd 129 0 = some (0, .iload_n 0, 1, 0, 0, 0, [], []) := rfl
theorem k129_1 : az_cd 129 1 = some (1, .iconst 0, 1, 0, 0, 0, [], []) := rfl
theorem k129_2 : az_cd 129 2 = some (2, .bipush 7, 2, 0, 0, 7, [], []) := rfl
theorem k129_3 : az_cd 129 3 = some (4, .invokestatic 26, 3, 128, 3, 0, [], [789, 790, 51, 791]) := rfl
theorem k129_4 : az_cd 129 4 = some (7, .ireturn, 1, 0, 0, 0, [], []) := rfl
theorem k130_0 : az_cd 130 0 = some (0, .iconst 0, 1, 0, 0, 0, [], []) := rfl
theorem k130_1 : az_cd 130 1 = some (1, .istore 4, 2, 0, 0, 0, [], []) := rfl
theorem k130_2 : az_cd 130 2 = some (3, .iload 4, 2, 0, 0, 0, [], []) := rfl
theorem k130_3 : az_cd 130 3 = some (5, .sipush 153, 3, 0, 0, 153, [], []) := rfl
theorem k130_4 : az_cd 130 4 = some (8, .if_icmp .ge 21, 3, 17, 0, 0, [], []) := rfl
theorem k130_5 : az_cd 130 5 = some (11, .aload_n 2, 1, 0, 0, 0, [], []) := rfl
theorem k130_6 : az_cd 130 6 = some (12, .iload_n 3, 1, 0, 0, 0, [], []) := rfl
theorem k130_7 : az_cd 130 7 = some (13, .iload 4, 2, 0, 0, 0, [], []) := rfl
theorem k130_8 : az_cd 130 8 = some (15, .iadd, 1, 0, 0, 0, [], []) := rfl
theorem k130_9 : az_cd 130 9 = some (16, .aload_n 0, 1, 0, 0, 0, [], []) := rfl
theorem k130_10 : az_cd 130 10 = some (17, .iload_n 1, 1, 0, 0, 0, [], []) := rfl
theorem k130_11 : az_cd 130 11 = some (18, .iload 4, 2, 0, 0, 0, [], []) := rfl
theorem k130_12 : az_cd 130 12 = some (20, .iadd, 1, 0, 0, 0, [], []) := rfl
theorem k130_13 : az_cd 130 13 = some (21, .iaload, 1, 0, 0, 0, [], []) := rfl
theorem k130_14 : az_cd 130 14 = some (22, .iastore, 1, 0, 0, 0, [], []) := rfl
theorem k130_15 : az_cd 130 15 = some (23, .iinc 4 1, 3, 0, 0, 1, [], []) := rfl
theorem k130_16 : az_cd 130 16 = some (26, .goto (-23), 3, 2, 0, 0, [], []) := rfl
theorem k130_17 : az_cd 130 17 = some (29, .return_, 1, 0, 0, 0, [], []) := rfl
theorem k131_0 : az_cd 131 0 = some (0, .aload_n 0, 1, 0, 0, 0, [], []) := rfl
theorem k131_1 : az_cd 131 1 = some (1, .getfield 30, 3, 9, 2, 0, [], [753]) := rfl
theorem k131_2 : az_cd 131 2 = some (4, .iconst 4, 1, 0, 0, 4, [], []) := rfl
theorem k131_3 : az_cd 131 3 = some (5, .if_icmp .ne 44, 3, 27, 0, 0, [], []) := rfl
theorem k131_4 : az_cd 131 4 = some (8, .iconst 0, 1, 0, 0, 0, [], []) := rfl
theorem k131_5 : az_cd 131 5 = some (9, .istore_n 1, 1, 0, 0, 0, [], []) := rfl
theorem k131_6 : az_cd 131 6 = some (10, .iload_n 1, 1, 0, 0, 0, [], []) := rfl
theorem k131_7 : az_cd 131 7 = some (11, .sipush 459, 3, 0, 0, 459, [], []) := rfl
theorem k131_8 : az_cd 131 8 = some (14, .if_icmp .ge 25, 3, 21, 0, 0, [], []) := rfl
theorem k131_9 : az_cd 131 9 = some (17, .aload_n 0, 1, 0, 0, 0, [], []) := rfl
theorem k131_10 : az_cd 131 10 = some (18, .getfield 13, 3, 9, 1, 0, [], [752]) := rfl
theorem k131_11 : az_cd 131 11 = some (21, .iload_n 1, 1, 0, 0, 0, [], []) := rfl
theorem k131_12 : az_cd 131 12 = some (22, .aload_n 0, 1, 0, 0, 0, [], []) := rfl
theorem k131_13 : az_cd 131 13 = some (23, .getfield 13, 3, 9, 1, 0, [], [752]) := rfl
theorem k131_14 : az_cd 131 14 = some (26, .iload_n 1, 1, 0, 0, 0, [], []) := rfl
theorem k131_15 : az_cd 131 15 = some (27, .sipush 153, 3, 0, 0, 153, [], []) := rfl
theorem k131_16 : az_cd 131 16 = some (30, .iadd, 1, 0, 0, 0, [], []) := rfl
theorem k131_17 : az_cd 131 17 = some (31, .iaload, 1, 0, 0, 0, [], []) := rfl
theorem k131_18 : az_cd 131 18 = some (32, .iastore, 1, 0, 0, 0, [], []) := rfl
theorem k131_19 : az_cd 131 19 = some (33, .iinc 1 1, 3, 0, 0, 1, [], []) := rfl
theorem k131_20 : az_cd 131 20 = some (36, .goto (-26), 3, 6, 0, 0, [], []) := rfl
theorem k131_21 : az_cd 131 21 = some (39, .aload_n 0, 1, 0, 0, 0, [], []) := rfl
theorem k131_22 : az_cd 131 22 = some (40, .dup, 1, 0, 0, 0, [], []) := rfl
theorem k131_23 : az_cd 131 23 = some (41, .getfield 30, 3, 9, 2, 0, [], [753]) := rfl
theorem k131_24 : az_cd 131 24 = some (44, .iconst 1, 1, 0, 0, 1, [], []) := rfl
theorem k131_25 : az_cd 131 25 = some (45, .isub, 1, 0, 0, 0, [], []) := rfl
theorem k131_26 : az_cd 131 26 = some (46, .putfield 30, 3, 9, 2, 0, [], [753]) := rfl
theorem k131_27 : az_cd 131 27 = some (49, .aload_n 0, 1, 0, 0, 0, [], []) := rfl
theorem k131_28 : az_cd 131 28 = some (50, .getfield 7, 3, 9, 0, 0, [], [751]) := rfl
theorem k131_29 : az_cd 131 29 = some (53, .iconst 0, 1, 0, 0, 0, [], []) := rfl
theorem k131_30 : az_cd 131 30 = some (54, .aload_n 0, 1, 0, 0, 0, [], []) := rfl
theorem k131_31 : az_cd 131 31 = some (55, .getfield 13, 3, 9, 1, 0, [], [752]) := rfl
theorem k131_32 : az_cd 131 32 = some (58, .sipush 153, 3, 0, 0, 153, [], []) := rfl
theorem k131_33 : az_cd 131 33 = some (61, .aload_n 0, 1, 0, 0, 0, [], []) := rfl
theorem k131_34 : az_cd 131 34 = some (62, .getfield 30, 3, 9, 2, 0, [], [753]) := rfl
theorem k131_35 : az_cd 131 35 = some (65, .imul, 1, 0, 0, 0, [], []) := rfl
theorem k131_36 : az_cd 131 36 = some (66, .invokestatic 34, 3, 130, 4, 0, [], [800, 801, 51, 802]) := rfl
theorem k131_37 : az_cd 131 37 = some (69, .aload_n 0, 1, 0, 0, 0, [], []) := rfl
theorem k131_38 : az_cd 131 38 = some (70, .dup, 1, 0, 0, 0, [], []) := rfl
theorem k131_39 : az_cd 131 39 = some (71, .getfield 30, 3, 9, 2, 0, [], [753]) := rfl
theorem k131_40 : az_cd 131 40 = some (74, .iconst 1, 1, 0, 0, 1, [], []) := rfl
theorem k131_41 : az_cd 131 41 = some (75, .iadd, 1, 0, 0, 0, [], []) := rfl
theorem k131_42 : az_cd 131 42 = some (76, .putfield 30, 3, 9, 2, 0, [], [753]) := rfl
theorem k131_43 : az_cd 131 43 = some (79, .return_, 1, 0, 0, 0, [], []) := rfl
theorem k132_0 : az_cd 132 0 = some (0, .iload_n 0, 1, 0, 0, 0, [], []) := rfl
theorem k132_1 : az_cd 132 1 = some (1, .bipush 37, 2, 0, 0, 37, [], []) := rfl
theorem k132_2 : az_cd 132 2 = some (3, .imul, 1, 0, 0, 0, [], []) := rfl
theorem k132_3 : az_cd 132 3 = some (4, .bipush 11, 2, 0, 0, 11, [], []) := rfl
theorem k132_4 : az_cd 132 4 = some (6, .iadd, 1, 0, 0, 0, [], []) := rfl
theorem k132_5 : az_cd 132 5 = some (7, .bipush 101, 2, 0, 0, 101, [], []) := rfl
theorem k132_6 : az_cd 132 6 = some (9, .irem, 1, 0, 0, 0, [], []) := rfl
theorem k132_7 : az_cd 132 7 = some (10, .ireturn, 1, 0, 0, 0, [], []) := rfl
theorem k133_0 : az_cd 133 0 = some (0, .aload_n 0, 1, 0, 0, 0, [], []) := rfl
theorem k133_1 : az_cd 133 1 = some (1, .getfield 7, 3, 9, 0, 0, [], [751]) := rfl
theorem k133_2 : az_cd 133 2 = some (4, .bipush 72, 2, 0, 0, 72, [], []) := rfl
theorem k133_3 : az_cd 133 3 = some (6, .bipush 10, 2, 0, 0, 10, [], []) := rfl
theorem k133_4 : az_cd 133 4 = some (8, .aload_n 0, 1, 0, 0, 0, [], []) := rfl
theorem k133_5 : az_cd 133 5 = some (9, .getfield 7, 3, 9, 0, 0, [], [751]) := rfl
theorem k133_6 : az_cd 133 6 = some (12, .bipush 92, 2, 0, 0, 92, [], []) := rfl
theorem k133_7 : az_cd 133 7 = some (14, .iaload, 1, 0, 0, 0, [], []) := rfl
theorem k133_8 : az_cd 133 8 = some (15, .imul, 1, 0, 0, 0, [], []) := rfl
theorem k133_9 : az_cd 133 9 = some (16, .iadd, 1, 0, 0, 0, [], []) := rfl
theorem k133_10 : az_cd 133 10 = some (17, .iload_n 1, 1, 0, 0, 0, [], []) := rfl
theorem k133_11 : az_cd 133 11 = some (18, .iadd, 1, 0, 0, 0, [], []) := rfl
theorem k133_12 : az_cd 133 12 = some (19, .iaload, 1, 0, 0, 0, [], []) := rfl
theorem k133_13 : az_cd 133 13 = some (20, .ireturn, 1, 0, 0, 0, [], []) := rfl
theorem k134_0 : az_cd 134 0 = some (0, .iload_n 1, 1, 0, 0, 0, [], []) := rfl
theorem k134_1 : az_cd 134 1 = some (1, .iconst 0, 1, 0, 0, 0, [], []) := rfl
theorem k134_2 : az_cd 134 2 = some (2, .iconst 3, 1, 0, 0, 3, [], []) := rfl
theorem k134_3 : az_cd 134 3 = some (3, .invokestatic 26, 3, 128, 3, 0, [], [789, 790, 51, 791]) := rfl
theorem k134_4 : az_cd 134 4 = some (6, .ifCond .eq 23, 3, 17, 0, 0, [], []) := rfl
theorem k134_5 : az_cd 134 5 = some (9, .aload_n 0, 1, 0, 0, 0, [], []) := rfl
theorem k134_6 : az_cd 134 6 = some (10, .getfield 7, 3, 9, 0, 0, [], [751]) := rfl
theorem k134_7 : az_cd 134 7 = some (13, .bipush 111, 2, 0, 0, 111, [], []) := rfl
theorem k134_8 : az_cd 134 8 = some (15, .bipush 10, 2, 0, 0, 10, [], []) := rfl
theorem k134_9 : az_cd 134 9 = some (17, .iload_n 1, 1, 0, 0, 0, [], []) := rfl
theorem k134_10 : az_cd 134 10 = some (18, .imul, 1, 0, 0, 0, [], []) := rfl
theorem k134_11 : az_cd 134 11 = some (19, .iadd, 1, 0, 0, 0, [], []) := rfl
theorem k134_12 : az_cd 134 12 = some (20, .iaload, 1, 0, 0, 0, [], []) := rfl
theorem k134_13 : az_cd 134 13 = some (21, .iconst 1, 1, 0, 0, 1, [], []) := rfl
theorem k134_14 : az_cd 134 14 = some (22, .if_icmp .ne 7, 3, 17, 0, 0, [], []) := rfl
theorem k134_15 : az_cd 134 15 = some (25, .iconst 1, 1, 0, 0, 1, [], []) := rfl
theorem k134_16 : az_cd 134 16 = some (26, .goto 4, 3, 18, 0, 0, [], []) := rfl
theorem k134_17 : az_cd 134 17 = some (29, .iconst 0, 1, 0, 0, 0, [], []) := rfl
theorem k134_18 : az_cd 134 18 = some (30, .ireturn, 1, 0, 0, 0, [], []) := rfl
theorem k135_0 : az_cd 135 0 = some (0, .bipush (-5), 2, 0, 0, (-5), [], []) := rfl
theorem k135_1 : az_cd 135 1 = some (2, .istore_n 2, 1, 0, 0, 0, [], []) := rfl
theorem k135_2 : az_cd 135 2 = some (3, .iconst 0, 1, 0, 0, 0, [], []) := rfl
theorem k135_3 : az_cd 135 3 = some (4, .istore_n 3, 1, 0, 0, 0, [], []) := rfl
theorem k135_4 : az_cd 135 4 = some (5, .iload_n 3, 1, 0, 0, 0, [], []) := rfl
theorem k135_5 : az_cd 135 5 = some (6, .bipush 8, 2, 0, 0, 8, [], []) := rfl
theorem k135_6 : az_cd 135 6 = some (8, .if_icmp .ge 26, 3, 20, 0, 0, [], []) := rfl
theorem k135_7 : az_cd 135 7 = some (11, .aload_n 0, 1, 0, 0, 0, [], []) := rfl
theorem k135_8 : az_cd 135 8 = some (12, .iconst 2, 1, 0, 0, 2, [], []) := rfl
theorem k135_9 : az_cd 135 9 = some (13, .iload_n 3, 1, 0, 0, 0, [], []) := rfl
theorem k135_10 : az_cd 135 10 = some (14, .iadd, 1, 0, 0, 0, [], []) := rfl
theorem k135_11 : az_cd 135 11 = some (15, .invokevirtual 38, 3, 133, 1, 0, [], [875, 877, 51, 878, 23]) := rfl
theorem k135_12 : az_cd 135 12 = some (18, .iload_n 1, 1, 0, 0, 0, [], []) := rfl
theorem k135_13 : az_cd 135 13 = some (19, .if_icmp .ne 7, 3, 16, 0, 0, [], []) := rfl
theorem k135_14 : az_cd 135 14 = some (22, .iload_n 3, 1, 0, 0, 0, [], []) := rfl
theorem k135_15 : az_cd 135 15 = some (23, .goto 4, 3, 17, 0, 0, [], []) := rfl
theorem k135_16 : az_cd 135 16 = some (26, .iload_n 2, 1, 0, 0, 0, [], []) := rfl
theorem k135_17 : az_cd 135 17 = some (27, .istore_n 2, 1, 0, 0, 0, [], []) := rfl
theorem k135_18 : az_cd 135 18 = some (28, .iinc 3 1, 3, 0, 0, 1, [], []) := rfl
theorem k135_19 : az_cd 135 19 = some (31, .goto (-26), 3, 4, 0, 0, [], []) := rfl
theorem k135_20 : az_cd 135 20 = some (34, .iload_n 2, 1, 0, 0, 0, [], []) := rfl
theorem k135_21 : az_cd 135 21 = some (35, .ireturn, 1, 0, 0, 0, [], []) := rfl
theorem k136_0 : az_cd 136 0 = some (0, .iconst 0, 1, 0, 0, 0, [], []) := rfl
theorem k136_1 : az_cd 136 1 = some (1, .istore_n 3, 1, 0, 0, 0, [], []) := rfl
theorem k136_2 : az_cd 136 2 = some (2, .iconst 0, 1, 0, 0, 0, [], []) := rfl
theorem k136_3 : az_cd 136 3 = some (3, .istore 4, 2, 0, 0, 0, [], []) := rfl
theorem k136_4 : az_cd 136 4 = some (5, .iload 4, 2, 0, 0, 0, [], []) := rfl
theorem k136_5 : az_cd 136 5 = some (7, .bipush 8, 2, 0, 0, 8, [], []) := rfl
theorem k136_6 : az_cd 136 6 = some (9, .if_icmp .ge 48, 3, 33, 0, 0, [], []) := rfl
theorem k136_7 : az_cd 136 7 = some (12, .aload_n 0, 1, 0, 0, 0, [], []) := rfl
theorem k136_8 : az_cd 136 8 = some (13, .iload_n 1, 1, 0, 0, 0, [], []) := rfl
theorem k136_9 : az_cd 136 9 = some (14, .invokevirtual 42, 3, 134, 1, 0, [], [887, 889, 51, 890, 26]) := rfl
theorem k136_10 : az_cd 136 10 = some (17, .ifCond .eq 40, 3, 33, 0, 0, [], []) := rfl
theorem k136_11 : az_cd 136 11 = some (20, .iload_n 3, 1, 0, 0, 0, [], []) := rfl
theorem k136_12 : az_cd 136 12 = some (21, .ifCond .ne 24, 3, 27, 0, 0, [], []) := rfl
theorem k136_13 : az_cd 136 13 = some (24, .aload_n 0, 1, 0, 0, 0, [], []) := rfl
theorem k136_14 : az_cd 136 14 = some (25, .getfield 7, 3, 9, 0, 0, [], [751]) := rfl
theorem k136_15 : az_cd 136 15 = some (28, .bipush 111, 2, 0, 0, 111, [], []) := rfl
theorem k136_16 : az_cd 136 16 = some (30, .bipush 10, 2, 0, 0, 10, [], []) := rfl
theorem k136_17 : az_cd 136 17 = some (32, .iload_n 1, 1, 0, 0, 0, [], []) := rfl
theorem k136_18 : az_cd 136 18 = some (33, .imul, 1, 0, 0, 0, [], []) := rfl
theorem k136_19 : az_cd 136 19 = some (34, .iadd, 1, 0, 0, 0, [], []) := rfl
theorem k136_20 : az_cd 136 20 = some (35, .iconst 2, 1, 0, 0, 2, [], []) := rfl
theorem k136_21 : az_cd 136 21 = some (36, .iadd, 1, 0, 0, 0, [], []) := rfl
theorem k136_22 : az_cd 136 22 = some (37, .iload 4, 2, 0, 0, 0, [], []) := rfl
theorem k136_23 : az_cd 136 23 = some (39, .iadd, 1, 0, 0, 0, [], []) := rfl
theorem k136_24 : az_cd 136 24 = some (40, .iaload, 1, 0, 0, 0, [], []) := rfl
theorem k136_25 : az_cd 136 25 = some (41, .iload_n 2, 1, 0, 0, 0, [], []) := rfl
theorem k136_26 : az_cd 136 26 = some (42, .if_icmp .ne 7, 3, 29, 0, 0, [], []) := rfl
theorem k136_27 : az_cd 136 27 = some (45, .iconst 1, 1, 0, 0, 1, [], []) := rfl
theorem k136_28 : az_cd 136 28 = some (46, .goto 4, 3, 30, 0, 0, [], []) := rfl
theorem k136_29 : az_cd 136 29 = some (49, .iconst 0, 1, 0, 0, 0, [], []) := rfl
theorem k136_30 : az_cd 136 30 = some (50, .istore_n 3, 1, 0, 0, 0, [], []) := rfl
theorem k136_31 : az_cd 136 31 = some (51, .iinc 4 1, 3, 0, 0, 1, [], []) := rfl
theorem k136_32 : az_cd 136 32 = some (54, .goto (-49), 3, 4, 0, 0, [], []) := rfl
theorem k136_33 : az_cd 136 33 = some (57, .iload_n 3, 1, 0, 0, 0, [], []) := rfl
theorem k136_34 : az_cd 136 34 = some (58, .ireturn, 1, 0, 0, 0, [], []) := rfl
theorem k137_0 : az_cd 137 0 = some (0, .iconst 0, 1, 0, 0, 0, [], []) := rfl
theorem k137_1 : az_cd 137 1 = some (1, .istore_n 2, 1, 0, 0, 0, [], []) := rfl
theorem k137_2 : az_cd 137 2 = some (2, .iconst 0, 1, 0, 0, 0, [], []) := rfl
theorem k137_3 : az_cd 137 3 = some (3, .istore_n 3, 1, 0, 0, 0, [], []) := rfl
theorem k137_4 : az_cd 137 4 = some (4, .iload_n 3, 1, 0, 0, 0, [], []) := rfl
theorem k137_5 : az_cd 137 5 = some (5, .iconst 4, 1, 0, 0, 4, [], []) := rfl
theorem k137_6 : az_cd 137 6 = some (6, .if_icmp .ge 26, 3, 20, 0, 0, [], []) := rfl
theorem k137_7 : az_cd 137 7 = some (9, .iload_n 2, 1, 0, 0, 0, [], []) := rfl
theorem k137_8 : az_cd 137 8 = some (10, .aload_n 0, 1, 0, 0, 0, [], []) := rfl
theorem k137_9 : az_cd 137 9 = some (11, .iload_n 3, 1, 0, 0, 0, [], []) := rfl
theorem k137_10 : az_cd 137 10 = some (12, .iload_n 1, 1, 0, 0, 0, [], []) := rfl
theorem k137_11 : az_cd 137 11 = some (13, .invokevirtual 46, 3, 136, 2, 0, [], [883, 885, 51, 886, 25]) := rfl
theorem k137_12 : az_cd 137 12 = some (16, .ifCond .eq 7, 3, 15, 0, 0, [], []) := rfl
theorem k137_13 : az_cd 137 13 = some (19, .iconst 1, 1, 0, 0, 1, [], []) := rfl
theorem k137_14 : az_cd 137 14 = some (20, .goto 4, 3, 16, 0, 0, [], []) := rfl
theorem k137_15 : az_cd 137 15 = some (23, .iconst 0, 1, 0, 0, 0, [], []) := rfl
theorem k137_16 : az_cd 137 16 = some (24, .iadd, 1, 0, 0, 0, [], []) := rfl
theorem k137_17 : az_cd 137 17 = some (25, .istore_n 2, 1, 0, 0, 0, [], []) := rfl
theorem k137_18 : az_cd 137 18 = some (26, .iinc 3 1, 3, 0, 0, 1, [], []) := rfl
theorem k137_19 : az_cd 137 19 = some (29, .goto (-25), 3, 4, 0, 0, [], []) := rfl
theorem k137_20 : az_cd 137 20 = some (32, .iload_n 2, 1, 0, 0, 0, [], []) := rfl
theorem k137_21 : az_cd 137 21 = some (33, .ireturn, 1, 0, 0, 0, [], []) := rfl
theorem k138_0 : az_cd 138 0 = some (0, .bipush (-5), 2, 0, 0, (-5), [], []) := rfl
theorem k138_1 : az_cd 138 1 = some (2, .istore_n 2, 1, 0, 0, 0, [], []) := rfl
theorem k138_2 : az_cd 138 2 = some (3, .iconst 0, 1, 0, 0, 0, [], []) := rfl
theorem k138_3 : az_cd 138 3 = some (4, .istore_n 3, 1, 0, 0, 0, [], []) := rfl
theorem k138_4 : az_cd 138 4 = some (5, .iload_n 3, 1, 0, 0, 0, [], []) := rfl
theorem k138_5 : az_cd 138 5 = some (6, .bipush 8, 2, 0, 0, 8, [], []) := rfl
theorem k138_6 : az_cd 138 6 = some (8, .if_icmp .ge 28, 3, 21, 0, 0, [], []) := rfl
theorem k138_7 : az_cd 138 7 = some (11, .aload_n 0, 1, 0, 0, 0, [], []) := rfl
theorem k138_8 : az_cd 138 8 = some (12, .getfield 7, 3, 9, 0, 0, [], [751]) := rfl
theorem k138_9 : az_cd 138 9 = some (15, .bipush 103, 2, 0, 0, 103, [], []) := rfl
theorem k138_10 : az_cd 138 10 = some (17, .iload_n 3, 1, 0, 0, 0, [], []) := rfl
theorem k138_11 : az_cd 138 11 = some (18, .iadd, 1, 0, 0, 0, [], []) := rfl
theorem k138_12 : az_cd 138 12 = some (19, .iaload, 1, 0, 0, 0, [], []) := rfl
theorem k138_13 : az_cd 138 13 = some (20, .iload_n 1, 1, 0, 0, 0, [], []) := rfl
theorem k138_14 : az_cd 138 14 = some (21, .if_icmp .ne 7, 3, 17, 0, 0, [], []) := rfl
theorem k138_15 : az_cd 138 15 = some (24, .iload_n 3, 1, 0, 0, 0, [], []) := rfl
theorem k138_16 : az_cd 138 16 = some (25, .goto 4, 3, 18, 0, 0, [], []) := rfl
theorem k138_17 : az_cd 138 17 = some (28, .iload_n 2, 1, 0, 0, 0, [], []) := rfl
theorem k138_18 : az_cd 138 18 = some (29, .istore_n 2, 1, 0, 0, 0, [], []) := rfl
theorem k138_19 : az_cd 138 19 = some (30, .iinc 3 1, 3, 0, 0, 1, [], []) := rfl
theorem k138_20 : az_cd 138 20 = some (33, .goto (-28), 3, 4, 0, 0, [], []) := rfl
theorem k138_21 : az_cd 138 21 = some (36, .iload_n 2, 1, 0, 0, 0, [], []) := rfl
theorem k138_22 : az_cd 138 22 = some (37, .ireturn, 1, 0, 0, 0, [], []) := rfl
theorem k139_0 : az_cd 139 0 = some (0, .aload_n 0, 1, 0, 0, 0, [], []) := rfl
theorem k139_1 : az_cd 139 1 = some (1, .iload_n 1, 1, 0, 0, 0, [], []) := rfl
theorem k139_2 : az_cd 139 2 = some (2, .invokevirtual 50, 3, 135, 1, 0, [], [871, 873, 51, 874, 22]) := rfl
theorem k139_3 : az_cd 139 3 = some (5, .bipush (-5), 2, 0, 0, (-5), [], []) := rfl
theorem k139_4 : az_cd 139 4 = some (7, .if_icmp .ne 25, 3, 16, 0, 0, [], []) := rfl
theorem k139_5 : az_cd 139 5 = some (10, .aload_n 0, 1, 0, 0, 0, [], []) := rfl
theorem k139_6 : az_cd 139 6 = some (11, .iload_n 1, 1, 0, 0, 0, [], []) := rfl
theorem k139_7 : az_cd 139 7 = some (12, .invokevirtual 53, 3, 137, 1, 0, [], [879, 881, 51, 882, 24]) := rfl
theorem k139_8 : az_cd 139 8 = some (15, .ifCond .ne 17, 3, 16, 0, 0, [], []) := rfl
theorem k139_9 : az_cd 139 9 = some (18, .aload_n 0, 1, 0, 0, 0, [], []) := rfl
theorem k139_10 : az_cd 139 10 = some (19, .iload_n 1, 1, 0, 0, 0, [], []) := rfl
theorem k139_11 : az_cd 139 11 = some (20, .invokevirtual 56, 3, 138, 1, 0, [], [891, 893, 51, 894, 27]) := rfl
theorem k139_12 : az_cd 139 12 = some (23, .bipush (-5), 2, 0, 0, (-5), [], []) := rfl
theorem k139_13 : az_cd 139 13 = some (25, .if_icmp .ne 7, 3, 16, 0, 0, [], []) := rfl
theorem k139_14 : az_cd 139 14 = some (28, .iconst 1, 1, 0, 0, 1, [], []) := rfl
theorem k139_15 : az_cd 139 15 = some (29, .goto 4, 3, 17, 0, 0, [], []) := rfl
theorem k139_16 : az_cd 139 16 = some (32, .iconst 0, 1, 0, 0, 0, [], []) := rfl
theorem k139_17 : az_cd 139 17 = some (33, .ireturn, 1, 0, 0, 0, [], []) := rfl
theorem k140_0 : az_cd 140 0 = some (0, .aload_n 0, 1, 0, 0, 0, [], []) := rfl
theorem k140_1 : az_cd 140 1 = some (1, .getfield 7, 3, 9, 0, 0, [], [751]) := rfl
theorem k140_2 : az_cd 140 2 = some (4, .bipush 24, 2, 0, 0, 24, [], []) := rfl
theorem k140_3 : az_cd 140 3 = some (6, .iload_n 1, 1, 0, 0, 0, [], []) := rfl
theorem k140_4 : az_cd 140 4 = some (7, .iadd, 1, 0, 0, 0, [], []) := rfl
theorem k140_5 : az_cd 140 5 = some (8, .iaload, 1, 0, 0, 0, [], []) := rfl
theorem k140_6 : az_cd 140 6 = some (9, .aload_n 0, 1, 0, 0, 0, [], []) := rfl
theorem k140_7 : az_cd 140 7 = some (10, .getfield 7, 3, 9, 0, 0, [], [751]) := rfl
theorem k140_8 : az_cd 140 8 = some (13, .iconst 0, 1, 0, 0, 0, [], []) := rfl
theorem k140_9 : az_cd 140 9 = some (14, .iload_n 1, 1, 0, 0, 0, [], []) := rfl
theorem k140_10 : az_cd 140 10 = some (15, .iadd, 1, 0, 0, 0, [], []) := rfl
theorem k140_11 : az_cd 140 11 = some (16, .iaload, 1, 0, 0, 0, [], []) := rfl
theorem k140_12 : az_cd 140 12 = some (17, .invokestatic 59, 3, 132, 1, 0, [], [903, 904, 51, 905]) := rfl
theorem k140_13 : az_cd 140 13 = some (20, .if_icmp .eq 7, 3, 16, 0, 0, [], []) := rfl
theorem k140_14 : az_cd 140 14 = some (23, .iconst 1, 1, 0, 0, 1, [], []) := rfl
theorem k140_15 : az_cd 140 15 = some (24, .goto 4, 3, 17, 0, 0, [], []) := rfl
theorem k140_16 : az_cd 140 16 = some (27, .iconst 0, 1, 0, 0, 0, [], []) := rfl
theorem k140_17 : az_cd 140 17 = some (28, .ireturn, 1, 0, 0, 0, [], []) := rfl
theorem k141_0 : az_cd 141 0 = some (0, .bipush (-5), 2, 0, 0, (-5), [], []) := rfl
theorem k141_1 : az_cd 141 1 = some (2, .istore_n 1, 1, 0, 0, 0, [], []) := rfl
theorem k141_2 : az_cd 141 2 = some (3, .iconst 0, 1, 0, 0, 0, [], []) := rfl
theorem k141_3 : az_cd 141 3 = some (4, .istore_n 2, 1, 0, 0, 0, [], []) := rfl
theorem k141_4 : az_cd 141 4 = some (5, .iload_n 2, 1, 0, 0, 0, [], []) := rfl
theorem k141_5 : az_cd 141 5 = some (6, .bipush 24, 2, 0, 0, 24, [], []) := rfl
theorem k141_6 : az_cd 141 6 = some (8, .if_icmp .ge 50, 3, 33, 0, 0, [], []) := rfl
theorem k141_7 : az_cd 141 7 = some (11, .aload_n 0, 1, 0, 0, 0, [], []) := rfl
theorem k141_8 : az_cd 141 8 = some (12, .iload_n 2, 1, 0, 0, 0, [], []) := rfl
theorem k141_9 : az_cd 141 9 = some (13, .invokevirtual 62, 3, 139, 1, 0, [], [867, 869, 51, 870, 21]) := rfl
theorem k141_10 : az_cd 141 10 = some (16, .ifCond .eq 34, 3, 29, 0, 0, [], []) := rfl
theorem k141_11 : az_cd 141 11 = some (19, .iload_n 1, 1, 0, 0, 0, [], []) := rfl
theorem k141_12 : az_cd 141 12 = some (20, .bipush (-5), 2, 0, 0, (-5), [], []) := rfl
theorem k141_13 : az_cd 141 13 = some (22, .if_icmp .eq 24, 3, 27, 0, 0, [], []) := rfl
theorem k141_14 : az_cd 141 14 = some (25, .aload_n 0, 1, 0, 0, 0, [], []) := rfl
theorem k141_15 : az_cd 141 15 = some (26, .getfield 7, 3, 9, 0, 0, [], [751]) := rfl
theorem k141_16 : az_cd 141 16 = some (29, .bipush 48, 2, 0, 0, 48, [], []) := rfl
theorem k141_17 : az_cd 141 17 = some (31, .iload_n 2, 1, 0, 0, 0, [], []) := rfl
theorem k141_18 : az_cd 141 18 = some (32, .iadd, 1, 0, 0, 0, [], []) := rfl
theorem k141_19 : az_cd 141 19 = some (33, .iaload, 1, 0, 0, 0, [], []) := rfl
theorem k141_20 : az_cd 141 20 = some (34, .aload_n 0, 1, 0, 0, 0, [], []) := rfl
theorem k141_21 : az_cd 141 21 = some (35, .getfield 7, 3, 9, 0, 0, [], [751]) := rfl
theorem k141_22 : az_cd 141 22 = some (38, .bipush 48, 2, 0, 0, 48, [], []) := rfl
theorem k141_23 : az_cd 141 23 = some (40, .iload_n 1, 1, 0, 0, 0, [], []) := rfl
theorem k141_24 : az_cd 141 24 = some (41, .iadd, 1, 0, 0, 0, [], []) := rfl
theorem k141_25 : az_cd 141 25 = some (42, .iaload, 1, 0, 0, 0, [], []) := rfl
theorem k141_26 : az_cd 141 26 = some (43, .if_icmp .ge 7, 3, 29, 0, 0, [], []) := rfl
theorem k141_27 : az_cd 141 27 = some (46, .iload_n 2, 1, 0, 0, 0, [], []) := rfl
theorem k141_28 : az_cd 141 28 = some (47, .goto 4, 3, 30, 0, 0, [], []) := rfl
theorem k141_29 : az_cd 141 29 = some (50, .iload_n 1, 1, 0, 0, 0, [], []) := rfl
theorem k141_30 : az_cd 141 30 = some (51, .istore_n 1, 1, 0, 0, 0, [], []) := rfl
theorem k141_31 : az_cd 141 31 = some (52, .iinc 2 1, 3, 0, 0, 1, [], []) := rfl
theorem k141_32 : az_cd 141 32 = some (55, .goto (-50), 3, 4, 0, 0, [], []) := rfl
theorem k141_33 : az_cd 141 33 = some (58, .iload_n 1, 1, 0, 0, 0, [], []) := rfl
theorem k141_34 : az_cd 141 34 = some (59, .ireturn, 1, 0, 0, 0, [], []) := rfl
theorem k142_0 : az_cd 142 0 = some (0, .aload_n 0, 1, 0, 0, 0, [], []) := rfl
theorem k142_1 : az_cd 142 1 = some (1, .getfield 7, 3, 9, 0, 0, [], [751]) := rfl
theorem k142_2 : az_cd 142 2 = some (4, .iconst 0, 1, 0, 0, 0, [], []) := rfl
theorem k142_3 : az_cd 142 3 = some (5, .iload_n 1, 1, 0, 0, 0, [], []) := rfl
theorem k142_4 : az_cd 142 4 = some (6, .iadd, 1, 0, 0, 0, [], []) := rfl
theorem k142_5 : az_cd 142 5 = some (7, .iload_n 2, 1, 0, 0, 0, [], []) := rfl
theorem k142_6 : az_cd 142 6 = some (8, .iastore, 1, 0, 0, 0, [], []) := rfl
theorem k142_7 : az_cd 142 7 = some (9, .aload_n 0, 1, 0, 0, 0, [], []) := rfl
theorem k142_8 : az_cd 142 8 = some (10, .getfield 7, 3, 9, 0, 0, [], [751]) := rfl
theorem k142_9 : az_cd 142 9 = some (13, .bipush 24, 2, 0, 0, 24, [], []) := rfl
theorem k142_10 : az_cd 142 10 = some (15, .iload_n 1, 1, 0, 0, 0, [], []) := rfl
theorem k142_11 : az_cd 142 11 = some (16, .iadd, 1, 0, 0, 0, [], []) := rfl
theorem k142_12 : az_cd 142 12 = some (17, .iload_n 2, 1, 0, 0, 0, [], []) := rfl
theorem k142_13 : az_cd 142 13 = some (18, .invokestatic 59, 3, 132, 1, 0, [], [903, 904, 51, 905]) := rfl
theorem k142_14 : az_cd 142 14 = some (21, .iload_n 3, 1, 0, 0, 0, [], []) := rfl
theorem k142_15 : az_cd 142 15 = some (22, .iadd, 1, 0, 0, 0, [], []) := rfl
theorem k142_16 : az_cd 142 16 = some (23, .bipush 101, 2, 0, 0, 101, [], []) := rfl
theorem k142_17 : az_cd 142 17 = some (25, .irem, 1, 0, 0, 0, [], []) := rfl
theorem k142_18 : az_cd 142 18 = some (26, .iastore, 1, 0, 0, 0, [], []) := rfl
theorem k142_19 : az_cd 142 19 = some (27, .aload_n 0, 1, 0, 0, 0, [], []) := rfl
theorem k142_20 : az_cd 142 20 = some (28, .getfield 7, 3, 9, 0, 0, [], [751]) := rfl
theorem k142_21 : az_cd 142 21 = some (31, .bipush 48, 2, 0, 0, 48, [], []) := rfl
theorem k142_22 : az_cd 142 22 = some (33, .iload_n 1, 1, 0, 0, 0, [], []) := rfl
theorem k142_23 : az_cd 142 23 = some (34, .iadd, 1, 0, 0, 0, [], []) := rfl
theorem k142_24 : az_cd 142 24 = some (35, .dup2, 1, 0, 0, 0, [], []) := rfl
theorem k142_25 : az_cd 142 25 = some (36, .iaload, 1, 0, 0, 0, [], []) := rfl
theorem k142_26 : az_cd 142 26 = some (37, .iconst 1, 1, 0, 0, 1, [], []) := rfl
theorem k142_27 : az_cd 142 27 = some (38, .iadd, 1, 0, 0, 0, [], []) := rfl
theorem k142_28 : az_cd 142 28 = some (39, .iastore, 1, 0, 0, 0, [], []) := rfl
theorem k142_29 : az_cd 142 29 = some (40, .return_, 1, 0, 0, 0, [], []) := rfl
theorem k143_0 : az_cd 143 0 = some (0, .iconst 0, 1, 0, 0, 0, [], []) := rfl
theorem k143_1 : az_cd 143 1 = some (1, .istore_n 1, 1, 0, 0, 0, [], []) := rfl
theorem k143_2 : az_cd 143 2 = some (2, .iconst 0, 1, 0, 0, 0, [], []) := rfl
theorem k143_3 : az_cd 143 3 = some (3, .istore_n 2, 1, 0, 0, 0, [], []) := rfl
theorem k143_4 : az_cd 143 4 = some (4, .iload_n 2, 1, 0, 0, 0, [], []) := rfl
theorem k143_5 : az_cd 143 5 = some (5, .bipush 8, 2, 0, 0, 8, [], []) := rfl
theorem k143_6 : az_cd 143 6 = some (7, .if_icmp .ge 31, 3, 23, 0, 0, [], []) := rfl
theorem k143_7 : az_cd 143 7 = some (10, .iload_n 1, 1, 0, 0, 0, [], []) := rfl
theorem k143_8 : az_cd 143 8 = some (11, .aload_n 0, 1, 0, 0, 0, [], []) := rfl
theorem k143_9 : az_cd 143 9 = some (12, .getfield 7, 3, 9, 0, 0, [], [751]) := rfl
theorem k143_10 : az_cd 143 10 = some (15, .bipush 93, 2, 0, 0, 93, [], []) := rfl
theorem k143_11 : az_cd 143 11 = some (17, .iload_n 2, 1, 0, 0, 0, [], []) := rfl
theorem k143_12 : az_cd 143 12 = some (18, .iadd, 1, 0, 0, 0, [], []) := rfl
theorem k143_13 : az_cd 143 13 = some (19, .iaload, 1, 0, 0, 0, [], []) := rfl
theorem k143_14 : az_cd 143 14 = some (20, .bipush (-5), 2, 0, 0, (-5), [], []) := rfl
theorem k143_15 : az_cd 143 15 = some (22, .if_icmp .eq 7, 3, 18, 0, 0, [], []) := rfl
theorem k143_16 : az_cd 143 16 = some (25, .iconst 1, 1, 0, 0, 1, [], []) := rfl
theorem k143_17 : az_cd 143 17 = some (26, .goto 4, 3, 19, 0, 0, [], []) := rfl
theorem k143_18 : az_cd 143 18 = some (29, .iconst 0, 1, 0, 0, 0, [], []) := rfl
theorem k143_19 : az_cd 143 19 = some (30, .iadd, 1, 0, 0, 0, [], []) := rfl
theorem k143_20 : az_cd 143 20 = some (31, .istore_n 1, 1, 0, 0, 0, [], []) := rfl
theorem k143_21 : az_cd 143 21 = some (32, .iinc 2 1, 3, 0, 0, 1, [], []) := rfl
theorem k143_22 : az_cd 143 22 = some (35, .goto (-31), 3, 4, 0, 0, [], []) := rfl
theorem k143_23 : az_cd 143 23 = some (38, .iload_n 1, 1, 0, 0, 0, [], []) := rfl
theorem k143_24 : az_cd 143 24 = some (39, .ireturn, 1, 0, 0, 0, [], []) := rfl
theorem k144_0 : az_cd 144 0 = some (0, .iconst 0, 1, 0, 0, 0, [], []) := rfl
theorem k144_1 : az_cd 144 1 = some (1, .istore_n 1, 1, 0, 0, 0, [], []) := rfl
theorem k144_2 : az_cd 144 2 = some (2, .iload_n 1, 1, 0, 0, 0, [], []) := rfl
theorem k144_3 : az_cd 144 3 = some (3, .bipush 8, 2, 0, 0, 8, [], []) := rfl
theorem k144_4 : az_cd 144 4 = some (5, .if_icmp .ge 20, 3, 14, 0, 0, [], []) := rfl
theorem k144_5 : az_cd 144 5 = some (8, .aload_n 0, 1, 0, 0, 0, [], []) := rfl
theorem k144_6 : az_cd 144 6 = some (9, .getfield 7, 3, 9, 0, 0, [], [751]) := rfl
theorem k144_7 : az_cd 144 7 = some (12, .bipush 93, 2, 0, 0, 93, [], []) := rfl
theorem k144_8 : az_cd 144 8 = some (14, .iload_n 1, 1, 0, 0, 0, [], []) := rfl
theorem k144_9 : az_cd 144 9 = some (15, .iadd, 1, 0, 0, 0, [], []) := rfl
theorem k144_10 : az_cd 144 10 = some (16, .bipush (-5), 2, 0, 0, (-5), [], []) := rfl
theorem k144_11 : az_cd 144 11 = some (18, .iastore, 1, 0, 0, 0, [], []) := rfl
theorem k144_12 : az_cd 144 12 = some (19, .iinc 1 1, 3, 0, 0, 1, [], []) := rfl
theorem k144_13 : az_cd 144 13 = some (22, .goto (-20), 3, 2, 0, 0, [], []) := rfl
theorem k144_14 : az_cd 144 14 = some (25, .return_, 1, 0, 0, 0, [], []) := rfl
theorem k145_0 : az_cd 145 0 = some (0, .aload_n 0, 1, 0, 0, 0, [], []) := rfl
theorem k145_1 : az_cd 145 1 = some (1, .getfield 7, 3, 9, 0, 0, [], [751]) := rfl
theorem k145_2 : az_cd 145 2 = some (4, .bipush 93, 2, 0, 0, 93, [], []) := rfl
theorem k145_3 : az_cd 145 3 = some (6, .iload_n 1, 1, 0, 0, 0, [], []) := rfl
theorem k145_4 : az_cd 145 4 = some (7, .iadd, 1, 0, 0, 0, [], []) := rfl
theorem k145_5 : az_cd 145 5 = some (8, .iaload, 1, 0, 0, 0, [], []) := rfl
theorem k145_6 : az_cd 145 6 = some (9, .iload_n 2, 1, 0, 0, 0, [], []) := rfl
theorem k145_7 : az_cd 145 7 = some (10, .if_icmp .ne 6, 3, 10, 0, 0, [], []) := rfl
theorem k145_8 : az_cd 145 8 = some (13, .bipush (-5), 2, 0, 0, (-5), [], []) := rfl
theorem k145_9 : az_cd 145 9 = some (15, .ireturn, 1, 0, 0, 0, [], []) := rfl
theorem k145_10 : az_cd 145 10 = some (16, .aload_n 0, 1, 0, 0, 0, [], []) := rfl
theorem k145_11 : az_cd 145 11 = some (17, .invokevirtual 65, 3, 131, 0, 0, [], [796, 798, 51, 799, 9]) := rfl
theorem k145_12 : az_cd 145 12 = some (20, .aload_n 0, 1, 0, 0, 0, [], []) := rfl
theorem k145_13 : az_cd 145 13 = some (21, .getfield 7, 3, 9, 0, 0, [], [751]) := rfl
theorem k145_14 : az_cd 145 14 = some (24, .bipush 93, 2, 0, 0, 93, [], []) := rfl
theorem k145_15 : az_cd 145 15 = some (26, .iload_n 1, 1, 0, 0, 0, [], []) := rfl
theorem k145_16 : az_cd 145 16 = some (27, .iadd, 1, 0, 0, 0, [], []) := rfl
theorem k145_17 : az_cd 145 17 = some (28, .iload_n 2, 1, 0, 0, 0, [], []) := rfl
theorem k145_18 : az_cd 145 18 = some (29, .iastore, 1, 0, 0, 0, [], []) := rfl
theorem k145_19 : az_cd 145 19 = some (30, .aload_n 0, 1, 0, 0, 0, [], []) := rfl
theorem k145_20 : az_cd 145 20 = some (31, .invokevirtual 68, 3, 143, 0, 0, [], [803, 805, 51, 806, 10]) := rfl
theorem k145_21 : az_cd 145 21 = some (34, .ireturn, 1, 0, 0, 0, [], []) := rfl
theorem k146_0 : az_cd 146 0 = some (0, .iload_n 1, 1, 0, 0, 0, [], []) := rfl
theorem k146_1 : az_cd 146 1 = some (1, .invokestatic 72, 3, 129, 1, 0, [], [786, 787, 51, 788]) := rfl
theorem k146_2 : az_cd 146 2 = some (4, .ifCond .ne 5, 3, 5, 0, 0, [], []) := rfl
theorem k146_3 : az_cd 146 3 = some (7, .iconst (-1), 1, 0, 0, (-1), [], []) := rfl
theorem k146_4 : az_cd 146 4 = some (8, .ireturn, 1, 0, 0, 0, [], []) := rfl
theorem k146_5 : az_cd 146 5 = some (9, .iload_n 2, 1, 0, 0, 0, [], []) := rfl
theorem k146_6 : az_cd 146 6 = some (10, .iconst 0, 1, 0, 0, 0, [], []) := rfl
theorem k146_7 : az_cd 146 7 = some (11, .sipush 999, 3, 0, 0, 999, [], []) := rfl
theorem k146_8 : az_cd 146 8 = some (14, .invokestatic 26, 3, 128, 3, 0, [], [789, 790, 51, 791]) := rfl
theorem k146_9 : az_cd 146 9 = some (17, .ifCond .ne 6, 3, 12, 0, 0, [], []) := rfl
theorem k146_10 : az_cd 146 10 = some (20, .bipush (-2), 2, 0, 0, (-2), [], []) := rfl
theorem k146_11 : az_cd 146 11 = some (22, .ireturn, 1, 0, 0, 0, [], []) := rfl
theorem k146_12 : az_cd 146 12 = some (23, .aload_n 0, 1, 0, 0, 0, [], []) := rfl
theorem k146_13 : az_cd 146 13 = some (24, .getfield 7, 3, 9, 0, 0, [], [751]) := rfl
theorem k146_14 : az_cd 146 14 = some (27, .bipush 101, 2, 0, 0, 101, [], []) := rfl
theorem k146_15 : az_cd 146 15 = some (29, .iaload, 1, 0, 0, 0, [], []) := rfl
theorem k146_16 : az_cd 146 16 = some (30, .iconst 1, 1, 0, 0, 1, [], []) := rfl
theorem k146_17 : az_cd 146 17 = some (31, .if_icmp .ne 8, 3, 20, 0, 0, [], []) := rfl
theorem k146_18 : az_cd 146 18 = some (34, .bipush (-4), 2, 0, 0, (-4), [], []) := rfl
theorem k146_19 : az_cd 146 19 = some (36, .goto 9, 3, 24, 0, 0, [], []) := rfl
theorem k146_20 : az_cd 146 20 = some (39, .aload_n 0, 1, 0, 0, 0, [], []) := rfl
theorem k146_21 : az_cd 146 21 = some (40, .iload_n 1, 1, 0, 0, 0, [], []) := rfl
theorem k146_22 : az_cd 146 22 = some (41, .iload_n 2, 1, 0, 0, 0, [], []) := rfl
theorem k146_23 : az_cd 146 23 = some (42, .invokevirtual 75, 3, 145, 2, 0, [], [792, 794, 51, 795, 8]) := rfl
theorem k146_24 : az_cd 146 24 = some (45, .ireturn, 1, 0, 0, 0, [], []) := rfl
theorem k147_0 : az_cd 147 0 = some (0, .iload_n 1, 1, 0, 0, 0, [], []) := rfl
theorem k147_1 : az_cd 147 1 = some (1, .invokestatic 72, 3, 129, 1, 0, [], [786, 787, 51, 788]) := rfl
theorem k147_2 : az_cd 147 2 = some (4, .ifCond .ne 5, 3, 5, 0, 0, [], []) := rfl
theorem k147_3 : az_cd 147 3 = some (7, .iconst (-1), 1, 0, 0, (-1), [], []) := rfl
theorem k147_4 : az_cd 147 4 = some (8, .ireturn, 1, 0, 0, 0, [], []) := rfl
theorem k147_5 : az_cd 147 5 = some (9, .aload_n 0, 1, 0, 0, 0, [], []) := rfl
theorem k147_6 : az_cd 147 6 = some (10, .getfield 7, 3, 9, 0, 0, [], [751]) := rfl
theorem k147_7 : az_cd 147 7 = some (13, .bipush 101, 2, 0, 0, 101, [], []) := rfl
theorem k147_8 : az_cd 147 8 = some (15, .iaload, 1, 0, 0, 0, [], []) := rfl
theorem k147_9 : az_cd 147 9 = some (16, .iconst 1, 1, 0, 0, 1, [], []) := rfl
theorem k147_10 : az_cd 147 10 = some (17, .if_icmp .ne 8, 3, 13, 0, 0, [], []) := rfl
theorem k147_11 : az_cd 147 11 = some (20, .bipush (-4), 2, 0, 0, (-4), [], []) := rfl
theorem k147_12 : az_cd 147 12 = some (22, .goto 10, 3, 17, 0, 0, [], []) := rfl
theorem k147_13 : az_cd 147 13 = some (25, .aload_n 0, 1, 0, 0, 0, [], []) := rfl
theorem k147_14 : az_cd 147 14 = some (26, .iload_n 1, 1, 0, 0, 0, [], []) := rfl
theorem k147_15 : az_cd 147 15 = some (27, .bipush (-6), 2, 0, 0, (-6), [], []) := rfl
theorem k147_16 : az_cd 147 16 = some (29, .invokevirtual 75, 3, 145, 2, 0, [], [792, 794, 51, 795, 8]) := rfl
theorem k147_17 : az_cd 147 17 = some (32, .ireturn, 1, 0, 0, 0, [], []) := rfl
theorem k148_0 : az_cd 148 0 = some (0, .aload_n 0, 1, 0, 0, 0, [], []) := rfl
theorem k148_1 : az_cd 148 1 = some (1, .invokevirtual 79, 3, 171, 0, 0, [], [815, 817, 51, 818, 11]) := rfl
theorem k148_2 : az_cd 148 2 = some (4, .istore_n 1, 1, 0, 0, 0, [], []) := rfl
theorem k148_3 : az_cd 148 3 = some (5, .iload_n 1, 1, 0, 0, 0, [], []) := rfl
theorem k148_4 : az_cd 148 4 = some (6, .bipush (-5), 2, 0, 0, (-5), [], []) := rfl
theorem k148_5 : az_cd 148 5 = some (8, .if_icmp .eq 8, 3, 10, 0, 0, [], []) := rfl
theorem k148_6 : az_cd 148 6 = some (11, .bipush (-100), 2, 0, 0, (-100), [], []) := rfl
theorem k148_7 : az_cd 148 7 = some (13, .iload_n 1, 1, 0, 0, 0, [], []) := rfl
theorem k148_8 : az_cd 148 8 = some (14, .isub, 1, 0, 0, 0, [], []) := rfl
theorem k148_9 : az_cd 148 9 = some (15, .ireturn, 1, 0, 0, 0, [], []) := rfl
theorem k148_10 : az_cd 148 10 = some (16, .aload_n 0, 1, 0, 0, 0, [], []) := rfl
theorem k148_11 : az_cd 148 11 = some (17, .getfield 7, 3, 9, 0, 0, [], [751]) := rfl
theorem k148_12 : az_cd 148 12 = some (20, .bipush 101, 2, 0, 0, 101, [], []) := rfl
theorem k148_13 : az_cd 148 13 = some (22, .iaload, 1, 0, 0, 0, [], []) := rfl
theorem k148_14 : az_cd 148 14 = some (23, .iconst 1, 1, 0, 0, 1, [], []) := rfl
theorem k148_15 : az_cd 148 15 = some (24, .if_icmp .ne 6, 3, 18, 0, 0, [], []) := rfl
theorem k148_16 : az_cd 148 16 = some (27, .bipush (-4), 2, 0, 0, (-4), [], []) := rfl
theorem k148_17 : az_cd 148 17 = some (29, .ireturn, 1, 0, 0, 0, [], []) := rfl
theorem k148_18 : az_cd 148 18 = some (30, .aload_n 0, 1, 0, 0, 0, [], []) := rfl
theorem k148_19 : az_cd 148 19 = some (31, .invokevirtual 65, 3, 131, 0, 0, [], [796, 798, 51, 799, 9]) := rfl
theorem k148_20 : az_cd 148 20 = some (34, .iconst 0, 1, 0, 0, 0, [], []) := rfl
theorem k148_21 : az_cd 148 21 = some (35, .istore_n 2, 1, 0, 0, 0, [], []) := rfl
theorem k148_22 : az_cd 148 22 = some (36, .iload_n 2, 1, 0, 0, 0, [], []) := rfl
theorem k148_23 : az_cd 148 23 = some (37, .aload_n 0, 1, 0, 0, 0, [], []) := rfl
theorem k148_24 : az_cd 148 24 = some (38, .getfield 82, 3, 9, 9, 0, [], [760]) := rfl
theorem k148_25 : az_cd 148 25 = some (41, .if_icmp .ge 35, 3, 47, 0, 0, [], []) := rfl
theorem k148_26 : az_cd 148 26 = some (44, .aload_n 0, 1, 0, 0, 0, [], []) := rfl
theorem k148_27 : az_cd 148 27 = some (45, .getfield 7, 3, 9, 0, 0, [], [751]) := rfl
theorem k148_28 : az_cd 148 28 = some (48, .bipush 93, 2, 0, 0, 93, [], []) := rfl
theorem k148_29 : az_cd 148 29 = some (50, .aload_n 0, 1, 0, 0, 0, [], []) := rfl
theorem k148_30 : az_cd 148 30 = some (51, .getfield 23, 3, 9, 8, 0, [], [759]) := rfl
theorem k148_31 : az_cd 148 31 = some (54, .iconst 2, 1, 0, 0, 2, [], []) := rfl
theorem k148_32 : az_cd 148 32 = some (55, .iload_n 2, 1, 0, 0, 0, [], []) := rfl
theorem k148_33 : az_cd 148 33 = some (56, .imul, 1, 0, 0, 0, [], []) := rfl
theorem k148_34 : az_cd 148 34 = some (57, .iaload, 1, 0, 0, 0, [], []) := rfl
theorem k148_35 : az_cd 148 35 = some (58, .iadd, 1, 0, 0, 0, [], []) := rfl
theorem k148_36 : az_cd 148 36 = some (59, .aload_n 0, 1, 0, 0, 0, [], []) := rfl
theorem k148_37 : az_cd 148 37 = some (60, .getfield 23, 3, 9, 8, 0, [], [759]) := rfl
theorem k148_38 : az_cd 148 38 = some (63, .iconst 2, 1, 0, 0, 2, [], []) := rfl
theorem k148_39 : az_cd 148 39 = some (64, .iload_n 2, 1, 0, 0, 0, [], []) := rfl
theorem k148_40 : az_cd 148 40 = some (65, .imul, 1, 0, 0, 0, [], []) := rfl
theorem k148_41 : az_cd 148 41 = some (66, .iconst 1, 1, 0, 0, 1, [], []) := rfl
theorem k148_42 : az_cd 148 42 = some (67, .iadd, 1, 0, 0, 0, [], []) := rfl
theorem k148_43 : az_cd 148 43 = some (68, .iaload, 1, 0, 0, 0, [], []) := rfl
theorem k148_44 : az_cd 148 44 = some (69, .iastore, 1, 0, 0, 0, [], []) := rfl
theorem k148_45 : az_cd 148 45 = some (70, .iinc 2 1, 3, 0, 0, 1, [], []) := rfl
theorem k148_46 : az_cd 148 46 = some (73, .goto (-37), 3, 22, 0, 0, [], []) := rfl
theorem k148_47 : az_cd 148 47 = some (76, .aload_n 0, 1, 0, 0, 0, [], []) := rfl
theorem k148_48 : az_cd 148 48 = some (77, .getfield 82, 3, 9, 9, 0, [], [760]) := rfl
theorem k148_49 : az_cd 148 49 = some (80, .ireturn, 1, 0, 0, 0, [], []) := rfl
theorem k149_0 : az_cd 149 0 = some (0, .aload_n 0, 1, 0, 0, 0, [], []) := rfl
theorem k149_1 : az_cd 149 1 = some (1, .getfield 7, 3, 9, 0, 0, [], [751]) := rfl
theorem k149_2 : az_cd 149 2 = some (4, .bipush 101, 2, 0, 0, 101, [], []) := rfl
theorem k149_3 : az_cd 149 3 = some (6, .iaload, 1, 0, 0, 0, [], []) := rfl
theorem k149_4 : az_cd 149 4 = some (7, .iconst 1, 1, 0, 0, 1, [], []) := rfl
theorem k149_5 : az_cd 149 5 = some (8, .if_icmp .ne 6, 3, 8, 0, 0, [], []) := rfl
theorem k149_6 : az_cd 149 6 = some (11, .bipush (-4), 2, 0, 0, (-4), [], []) := rfl
theorem k149_7 : az_cd 149 7 = some (13, .ireturn, 1, 0, 0, 0, [], []) := rfl
theorem k149_8 : az_cd 149 8 = some (14, .aload_n 0, 1, 0, 0, 0, [], []) := rfl
theorem k149_9 : az_cd 149 9 = some (15, .invokevirtual 68, 3, 143, 0, 0, [], [803, 805, 51, 806, 10]) := rfl
theorem k149_10 : az_cd 149 10 = some (18, .istore_n 1, 1, 0, 0, 0, [], []) := rfl
theorem k149_11 : az_cd 149 11 = some (19, .iload_n 1, 1, 0, 0, 0, [], []) := rfl
theorem k149_12 : az_cd 149 12 = some (20, .ifCond .ne 6, 3, 15, 0, 0, [], []) := rfl
theorem k149_13 : az_cd 149 13 = some (23, .bipush (-5), 2, 0, 0, (-5), [], []) := rfl
theorem k149_14 : az_cd 149 14 = some (25, .ireturn, 1, 0, 0, 0, [], []) := rfl
theorem k149_15 : az_cd 149 15 = some (26, .aload_n 0, 1, 0, 0, 0, [], []) := rfl
theorem k149_16 : az_cd 149 16 = some (27, .invokevirtual 65, 3, 131, 0, 0, [], [796, 798, 51, 799, 9]) := rfl
theorem k149_17 : az_cd 149 17 = some (30, .aload_n 0, 1, 0, 0, 0, [], []) := rfl
theorem k149_18 : az_cd 149 18 = some (31, .invokevirtual 85, 3, 144, 0, 0, [], [835, 837, 51, 838, 15]) := rfl
theorem k149_19 : az_cd 149 19 = some (34, .iload_n 1, 1, 0, 0, 0, [], []) := rfl
theorem k149_20 : az_cd 149 20 = some (35, .ireturn, 1, 0, 0, 0, [], []) := rfl
theorem k150_0 : az_cd 150 0 = some (0, .iconst 0, 1, 0, 0, 0, [], []) := rfl
theorem k150_1 : az_cd 150 1 = some (1, .istore_n 1, 1, 0, 0, 0, [], []) := rfl
theorem k150_2 : az_cd 150 2 = some (2, .iconst 0, 1, 0, 0, 0, [], []) := rfl
theorem k150_3 : az_cd 150 3 = some (3, .istore_n 2, 1, 0, 0, 0, [], []) := rfl
theorem k150_4 : az_cd 150 4 = some (4, .iload_n 2, 1, 0, 0, 0, [], []) := rfl
theorem k150_5 : az_cd 150 5 = some (5, .bipush 8, 2, 0, 0, 8, [], []) := rfl
theorem k150_6 : az_cd 150 6 = some (7, .if_icmp .ge 29, 3, 22, 0, 0, [], []) := rfl
theorem k150_7 : az_cd 150 7 = some (10, .iload_n 1, 1, 0, 0, 0, [], []) := rfl
theorem k150_8 : az_cd 150 8 = some (11, .aload_n 0, 1, 0, 0, 0, [], []) := rfl
theorem k150_9 : az_cd 150 9 = some (12, .getfield 7, 3, 9, 0, 0, [], [751]) := rfl
theorem k150_10 : az_cd 150 10 = some (15, .bipush 93, 2, 0, 0, 93, [], []) := rfl
theorem k150_11 : az_cd 150 11 = some (17, .iload_n 2, 1, 0, 0, 0, [], []) := rfl
theorem k150_12 : az_cd 150 12 = some (18, .iadd, 1, 0, 0, 0, [], []) := rfl
theorem k150_13 : az_cd 150 13 = some (19, .iaload, 1, 0, 0, 0, [], []) := rfl
theorem k150_14 : az_cd 150 14 = some (20, .ifCond .lt 7, 3, 17, 0, 0, [], []) := rfl
theorem k150_15 : az_cd 150 15 = some (23, .iconst 1, 1, 0, 0, 1, [], []) := rfl
theorem k150_16 : az_cd 150 16 = some (24, .goto 4, 3, 18, 0, 0, [], []) := rfl
theorem k150_17 : az_cd 150 17 = some (27, .iconst 0, 1, 0, 0, 0, [], []) := rfl
theorem k150_18 : az_cd 150 18 = some (28, .iadd, 1, 0, 0, 0, [], []) := rfl
theorem k150_19 : az_cd 150 19 = some (29, .istore_n 1, 1, 0, 0, 0, [], []) := rfl
theorem k150_20 : az_cd 150 20 = some (30, .iinc 2 1, 3, 0, 0, 1, [], []) := rfl
theorem k150_21 : az_cd 150 21 = some (33, .goto (-29), 3, 4, 0, 0, [], []) := rfl
theorem k150_22 : az_cd 150 22 = some (36, .iload_n 1, 1, 0, 0, 0, [], []) := rfl
theorem k150_23 : az_cd 150 23 = some (37, .ireturn, 1, 0, 0, 0, [], []) := rfl
theorem k151_0 : az_cd 151 0 = some (0, .aload_n 0, 1, 0, 0, 0, [], []) := rfl
theorem k151_1 : az_cd 151 1 = some (1, .getfield 7, 3, 9, 0, 0, [], [751]) := rfl
theorem k151_2 : az_cd 151 2 = some (4, .bipush 101, 2, 0, 0, 101, [], []) := rfl
theorem k151_3 : az_cd 151 3 = some (6, .iaload, 1, 0, 0, 0, [], []) := rfl
theorem k151_4 : az_cd 151 4 = some (7, .iconst 1, 1, 0, 0, 1, [], []) := rfl
theorem k151_5 : az_cd 151 5 = some (8, .if_icmp .ne 20, 3, 16, 0, 0, [], []) := rfl
theorem k151_6 : az_cd 151 6 = some (11, .aload_n 0, 1, 0, 0, 0, [], []) := rfl
theorem k151_7 : az_cd 151 7 = some (12, .invokevirtual 88, 3, 150, 0, 0, [], [847, 849, 51, 850, 17]) := rfl
theorem k151_8 : az_cd 151 8 = some (15, .iconst 2, 1, 0, 0, 2, [], []) := rfl
theorem k151_9 : az_cd 151 9 = some (16, .iadd, 1, 0, 0, 0, [], []) := rfl
theorem k151_10 : az_cd 151 10 = some (17, .aload_n 0, 1, 0, 0, 0, [], []) := rfl
theorem k151_11 : az_cd 151 11 = some (18, .getfield 7, 3, 9, 0, 0, [], [751]) := rfl
theorem k151_12 : az_cd 151 12 = some (21, .bipush 102, 2, 0, 0, 102, [], []) := rfl
theorem k151_13 : az_cd 151 13 = some (23, .iaload, 1, 0, 0, 0, [], []) := rfl
theorem k151_14 : az_cd 151 14 = some (24, .isub, 1, 0, 0, 0, [], []) := rfl
theorem k151_15 : az_cd 151 15 = some (25, .goto 4, 3, 17, 0, 0, [], []) := rfl
theorem k151_16 : az_cd 151 16 = some (28, .iconst 0, 1, 0, 0, 0, [], []) := rfl
theorem k151_17 : az_cd 151 17 = some (29, .ireturn, 1, 0, 0, 0, [], []) := rfl
theorem k152_0 : az_cd 152 0 = some (0, .iload_n 1, 1, 0, 0, 0, [], []) := rfl
theorem k152_1 : az_cd 152 1 = some (1, .istore_n 2, 1, 0, 0, 0, [], []) := rfl
theorem k152_2 : az_cd 152 2 = some (2, .iconst 0, 1, 0, 0, 0, [], []) := rfl
theorem k152_3 : az_cd 152 3 = some (3, .istore_n 3, 1, 0, 0, 0, [], []) := rfl
theorem k152_4 : az_cd 152 4 = some (4, .iload_n 3, 1, 0, 0, 0, [], []) := rfl
theorem k152_5 : az_cd 152 5 = some (5, .bipush 8, 2, 0, 0, 8, [], []) := rfl
theorem k152_6 : az_cd 152 6 = some (7, .if_icmp .ge 30, 3, 21, 0, 0, [], []) := rfl
theorem k152_7 : az_cd 152 7 = some (10, .aload_n 0, 1, 0, 0, 0, [], []) := rfl
theorem k152_8 : az_cd 152 8 = some (11, .getfield 7, 3, 9, 0, 0, [], [751]) := rfl
theorem k152_9 : az_cd 152 9 = some (14, .bipush 93, 2, 0, 0, 93, [], []) := rfl
theorem k152_10 : az_cd 152 10 = some (16, .iload_n 3, 1, 0, 0, 0, [], []) := rfl
theorem k152_11 : az_cd 152 11 = some (17, .iadd, 1, 0, 0, 0, [], []) := rfl
theorem k152_12 : az_cd 152 12 = some (18, .iaload, 1, 0, 0, 0, [], []) := rfl
theorem k152_13 : az_cd 152 13 = some (19, .ifCond .lt 12, 3, 19, 0, 0, [], []) := rfl
theorem k152_14 : az_cd 152 14 = some (22, .iload_n 2, 1, 0, 0, 0, [], []) := rfl
theorem k152_15 : az_cd 152 15 = some (23, .ifCond .ne 5, 3, 18, 0, 0, [], []) := rfl
theorem k152_16 : az_cd 152 16 = some (26, .iload_n 3, 1, 0, 0, 0, [], []) := rfl
theorem k152_17 : az_cd 152 17 = some (27, .ireturn, 1, 0, 0, 0, [], []) := rfl
theorem k152_18 : az_cd 152 18 = some (28, .iinc 2 (-1), 3, 0, 0, (-1), [], []) := rfl
theorem k152_19 : az_cd 152 19 = some (31, .iinc 3 1, 3, 0, 0, 1, [], []) := rfl
theorem k152_20 : az_cd 152 20 = some (34, .goto (-30), 3, 4, 0, 0, [], []) := rfl
theorem k152_21 : az_cd 152 21 = some (37, .bipush (-5), 2, 0, 0, (-5), [], []) := rfl
theorem k152_22 : az_cd 152 22 = some (39, .ireturn, 1, 0, 0, 0, [], []) := rfl
theorem k153_0 : az_cd 153 0 = some (0, .aload_n 0, 1, 0, 0, 0, [], []) := rfl
theorem k153_1 : az_cd 153 1 = some (1, .getfield 7, 3, 9, 0, 0, [], [751]) := rfl
theorem k153_2 : az_cd 153 2 = some (4, .bipush 101, 2, 0, 0, 101, [], []) := rfl
theorem k153_3 : az_cd 153 3 = some (6, .iconst 0, 1, 0, 0, 0, [], []) := rfl
theorem k153_4 : az_cd 153 4 = some (7, .iastore, 1, 0, 0, 0, [], []) := rfl
theorem k153_5 : az_cd 153 5 = some (8, .aload_n 0, 1, 0, 0, 0, [], []) := rfl
theorem k153_6 : az_cd 153 6 = some (9, .getfield 7, 3, 9, 0, 0, [], [751]) := rfl
theorem k153_7 : az_cd 153 7 = some (12, .bipush 102, 2, 0, 0, 102, [], []) := rfl
theorem k153_8 : az_cd 153 8 = some (14, .iconst 0, 1, 0, 0, 0, [], []) := rfl
theorem k153_9 : az_cd 153 9 = some (15, .iastore, 1, 0, 0, 0, [], []) := rfl
theorem k153_10 : az_cd 153 10 = some (16, .iconst 0, 1, 0, 0, 0, [], []) := rfl
theorem k153_11 : az_cd 153 11 = some (17, .istore_n 1, 1, 0, 0, 0, [], []) := rfl
theorem k153_12 : az_cd 153 12 = some (18, .iload_n 1, 1, 0, 0, 0, [], []) := rfl
theorem k153_13 : az_cd 153 13 = some (19, .bipush 8, 2, 0, 0, 8, [], []) := rfl
theorem k153_14 : az_cd 153 14 = some (21, .if_icmp .ge 20, 3, 24, 0, 0, [], []) := rfl
theorem k153_15 : az_cd 153 15 = some (24, .aload_n 0, 1, 0, 0, 0, [], []) := rfl
theorem k153_16 : az_cd 153 16 = some (25, .getfield 7, 3, 9, 0, 0, [], [751]) := rfl
theorem k153_17 : az_cd 153 17 = some (28, .bipush 103, 2, 0, 0, 103, [], []) := rfl
theorem k153_18 : az_cd 153 18 = some (30, .iload_n 1, 1, 0, 0, 0, [], []) := rfl
theorem k153_19 : az_cd 153 19 = some (31, .iadd, 1, 0, 0, 0, [], []) := rfl
theorem k153_20 : az_cd 153 20 = some (32, .bipush (-5), 2, 0, 0, (-5), [], []) := rfl
theorem k153_21 : az_cd 153 21 = some (34, .iastore, 1, 0, 0, 0, [], []) := rfl
theorem k153_22 : az_cd 153 22 = some (35, .iinc 1 1, 3, 0, 0, 1, [], []) := rfl
theorem k153_23 : az_cd 153 23 = some (38, .goto (-20), 3, 12, 0, 0, [], []) := rfl
theorem k153_24 : az_cd 153 24 = some (41, .return_, 1, 0, 0, 0, [], []) := rfl
theorem k154_0 : az_cd 154 0 = some (0, .bipush 72, 2, 0, 0, 72, [], []) := rfl
theorem k154_1 : az_cd 154 1 = some (2, .bipush 10, 2, 0, 0, 10, [], []) := rfl
theorem k154_2 : az_cd 154 2 = some (4, .iconst 1, 1, 0, 0, 1, [], []) := rfl
theorem k154_3 : az_cd 154 3 = some (5, .aload_n 0, 1, 0, 0, 0, [], []) := rfl
theorem k154_4 : az_cd 154 4 = some (6, .getfield 7, 3, 9, 0, 0, [], [751]) := rfl
theorem k154_5 : az_cd 154 5 = some (9, .bipush 92, 2, 0, 0, 92, [], []) := rfl
theorem k154_6 : az_cd 154 6 = some (11, .iaload, 1, 0, 0, 0, [], []) := rfl
theorem k154_7 : az_cd 154 7 = some (12, .isub, 1, 0, 0, 0, [], []) := rfl
theorem k154_8 : az_cd 154 8 = some (13, .imul, 1, 0, 0, 0, [], []) := rfl
theorem k154_9 : az_cd 154 9 = some (14, .iadd, 1, 0, 0, 0, [], []) := rfl
theorem k154_10 : az_cd 154 10 = some (15, .istore_n 2, 1, 0, 0, 0, [], []) := rfl
theorem k154_11 : az_cd 154 11 = some (16, .aload_n 0, 1, 0, 0, 0, [], []) := rfl
theorem k154_12 : az_cd 154 12 = some (17, .getfield 7, 3, 9, 0, 0, [], [751]) := rfl
theorem k154_13 : az_cd 154 13 = some (20, .iload_n 2, 1, 0, 0, 0, [], []) := rfl
theorem k154_14 : az_cd 154 14 = some (21, .iconst 0, 1, 0, 0, 0, [], []) := rfl
theorem k154_15 : az_cd 154 15 = some (22, .iadd, 1, 0, 0, 0, [], []) := rfl
theorem k154_16 : az_cd 154 16 = some (23, .aload_n 0, 1, 0, 0, 0, [], []) := rfl
theorem k154_17 : az_cd 154 17 = some (24, .iconst 0, 1, 0, 0, 0, [], []) := rfl
theorem k154_18 : az_cd 154 18 = some (25, .invokevirtual 38, 3, 133, 1, 0, [], [875, 877, 51, 878, 23]) := rfl
theorem k154_19 : az_cd 154 19 = some (28, .iconst 1, 1, 0, 0, 1, [], []) := rfl
theorem k154_20 : az_cd 154 20 = some (29, .iadd, 1, 0, 0, 0, [], []) := rfl
theorem k154_21 : az_cd 154 21 = some (30, .iastore, 1, 0, 0, 0, [], []) := rfl
theorem k154_22 : az_cd 154 22 = some (31, .aload_n 0, 1, 0, 0, 0, [], []) := rfl
theorem k154_23 : az_cd 154 23 = some (32, .getfield 7, 3, 9, 0, 0, [], [751]) := rfl
theorem k154_24 : az_cd 154 24 = some (35, .iload_n 2, 1, 0, 0, 0, [], []) := rfl
theorem k154_25 : az_cd 154 25 = some (36, .iconst 1, 1, 0, 0, 1, [], []) := rfl
theorem k154_26 : az_cd 154 26 = some (37, .iadd, 1, 0, 0, 0, [], []) := rfl
theorem k154_27 : az_cd 154 27 = some (38, .iload_n 1, 1, 0, 0, 0, [], []) := rfl
theorem k154_28 : az_cd 154 28 = some (39, .iastore, 1, 0, 0, 0, [], []) := rfl
theorem k154_29 : az_cd 154 29 = some (40, .iconst 0, 1, 0, 0, 0, [], []) := rfl
theorem k154_30 : az_cd 154 30 = some (41, .istore_n 3, 1, 0, 0, 0, [], []) := rfl
theorem k154_31 : az_cd 154 31 = some (42, .iload_n 3, 1, 0, 0, 0, [], []) := rfl
theorem k154_32 : az_cd 154 32 = some (43, .bipush 8, 2, 0, 0, 8, [], []) := rfl
theorem k154_33 : az_cd 154 33 = some (45, .if_icmp .ge 66, 3, 70, 0, 0, [], []) := rfl
theorem k154_34 : az_cd 154 34 = some (48, .aload_n 0, 1, 0, 0, 0, [], []) := rfl
theorem k154_35 : az_cd 154 35 = some (49, .getfield 7, 3, 9, 0, 0, [], [751]) := rfl
theorem k154_36 : az_cd 154 36 = some (52, .bipush 93, 2, 0, 0, 93, [], []) := rfl
theorem k154_37 : az_cd 154 37 = some (54, .iload_n 3, 1, 0, 0, 0, [], []) := rfl
theorem k154_38 : az_cd 154 38 = some (55, .iadd, 1, 0, 0, 0, [], []) := rfl
theorem k154_39 : az_cd 154 39 = some (56, .iaload, 1, 0, 0, 0, [], []) := rfl
theorem k154_40 : az_cd 154 40 = some (57, .istore 4, 2, 0, 0, 0, [], []) := rfl
theorem k154_41 : az_cd 154 41 = some (59, .aload_n 0, 1, 0, 0, 0, [], []) := rfl
theorem k154_42 : az_cd 154 42 = some (60, .getfield 7, 3, 9, 0, 0, [], [751]) := rfl
theorem k154_43 : az_cd 154 43 = some (63, .iload_n 2, 1, 0, 0, 0, [], []) := rfl
theorem k154_44 : az_cd 154 44 = some (64, .iconst 2, 1, 0, 0, 2, [], []) := rfl
theorem k154_45 : az_cd 154 45 = some (65, .iadd, 1, 0, 0, 0, [], []) := rfl
theorem k154_46 : az_cd 154 46 = some (66, .iload_n 3, 1, 0, 0, 0, [], []) := rfl
theorem k154_47 : az_cd 154 47 = some (67, .iadd, 1, 0, 0, 0, [], []) := rfl
theorem k154_48 : az_cd 154 48 = some (68, .iload 4, 2, 0, 0, 0, [], []) := rfl
theorem k154_49 : az_cd 154 49 = some (70, .ifCond .lt 15, 3, 57, 0, 0, [], []) := rfl
theorem k154_50 : az_cd 154 50 = some (73, .aload_n 0, 1, 0, 0, 0, [], []) := rfl
theorem k154_51 : az_cd 154 51 = some (74, .getfield 7, 3, 9, 0, 0, [], [751]) := rfl
theorem k154_52 : az_cd 154 52 = some (77, .bipush 103, 2, 0, 0, 103, [], []) := rfl
theorem k154_53 : az_cd 154 53 = some (79, .iload_n 3, 1, 0, 0, 0, [], []) := rfl
theorem k154_54 : az_cd 154 54 = some (80, .iadd, 1, 0, 0, 0, [], []) := rfl
theorem k154_55 : az_cd 154 55 = some (81, .iaload, 1, 0, 0, 0, [], []) := rfl
theorem k154_56 : az_cd 154 56 = some (82, .goto 22, 3, 67, 0, 0, [], []) := rfl
theorem k154_57 : az_cd 154 57 = some (85, .iload 4, 2, 0, 0, 0, [], []) := rfl
theorem k154_58 : az_cd 154 58 = some (87, .bipush (-6), 2, 0, 0, (-6), [], []) := rfl
theorem k154_59 : az_cd 154 59 = some (89, .if_icmp .ne 8, 3, 62, 0, 0, [], []) := rfl
theorem k154_60 : az_cd 154 60 = some (92, .bipush (-5), 2, 0, 0, (-5), [], []) := rfl
theorem k154_61 : az_cd 154 61 = some (94, .goto 10, 3, 67, 0, 0, [], []) := rfl
theorem k154_62 : az_cd 154 62 = some (97, .aload_n 0, 1, 0, 0, 0, [], []) := rfl
theorem k154_63 : az_cd 154 63 = some (98, .iconst 2, 1, 0, 0, 2, [], []) := rfl
theorem k154_64 : az_cd 154 64 = some (99, .iload_n 3, 1, 0, 0, 0, [], []) := rfl
theorem k154_65 : az_cd 154 65 = some (100, .iadd, 1, 0, 0, 0, [], []) := rfl
theorem k154_66 : az_cd 154 66 = some (101, .invokevirtual 38, 3, 133, 1, 0, [], [875, 877, 51, 878, 23]) := rfl
theorem k154_67 : az_cd 154 67 = some (104, .iastore, 1, 0, 0, 0, [], []) := rfl
theorem k154_68 : az_cd 154 68 = some (105, .iinc 3 1, 3, 0, 0, 1, [], []) := rfl
theorem k154_69 : az_cd 154 69 = some (108, .goto (-66), 3, 31, 0, 0, [], []) := rfl
theorem k154_70 : az_cd 154 70 = some (111, .return_, 1, 0, 0, 0, [], []) := rfl
theorem k155_0 : az_cd 155 0 = some (0, .aload_n 0, 1, 0, 0, 0, [], []) := rfl
theorem k155_1 : az_cd 155 1 = some (1, .aload_n 0, 1, 0, 0, 0, [], []) := rfl
theorem k155_2 : az_cd 155 2 = some (2, .getfield 7, 3, 9, 0, 0, [], [751]) := rfl
theorem k155_3 : az_cd 155 3 = some (5, .bipush 102, 2, 0, 0, 102, [], []) := rfl
theorem k155_4 : az_cd 155 4 = some (7, .iaload, 1, 0, 0, 0, [], []) := rfl
theorem k155_5 : az_cd 155 5 = some (8, .invokevirtual 91, 3, 152, 1, 0, [], [859, 861, 51, 862, 19]) := rfl
theorem k155_6 : az_cd 155 6 = some (11, .bipush (-5), 2, 0, 0, (-5), [], []) := rfl
theorem k155_7 : az_cd 155 7 = some (13, .if_icmp .eq 12, 3, 12, 0, 0, [], []) := rfl
theorem k155_8 : az_cd 155 8 = some (16, .aload_n 0, 1, 0, 0, 0, [], []) := rfl
theorem k155_9 : az_cd 155 9 = some (17, .invokevirtual 94, 3, 141, 0, 0, [], [863, 865, 51, 866, 20]) := rfl
theorem k155_10 : az_cd 155 10 = some (20, .bipush (-5), 2, 0, 0, (-5), [], []) := rfl
theorem k155_11 : az_cd 155 11 = some (22, .if_icmp .eq 7, 3, 14, 0, 0, [], []) := rfl
theorem k155_12 : az_cd 155 12 = some (25, .iconst 1, 1, 0, 0, 1, [], []) := rfl
theorem k155_13 : az_cd 155 13 = some (26, .goto 4, 3, 15, 0, 0, [], []) := rfl
theorem k155_14 : az_cd 155 14 = some (29, .iconst 0, 1, 0, 0, 0, [], []) := rfl
theorem k155_15 : az_cd 155 15 = some (30, .ireturn, 1, 0, 0, 0, [], []) := rfl
theorem k156_0 : az_cd 156 0 = some (0, .aload_n 0, 1, 0, 0, 0, [], []) := rfl
theorem k156_1 : az_cd 156 1 = some (1, .aload_n 0, 1, 0, 0, 0, [], []) := rfl
theorem k156_2 : az_cd 156 2 = some (2, .getfield 7, 3, 9, 0, 0, [], [751]) := rfl
theorem k156_3 : az_cd 156 3 = some (5, .bipush 102, 2, 0, 0, 102, [], []) := rfl
theorem k156_4 : az_cd 156 4 = some (7, .iaload, 1, 0, 0, 0, [], []) := rfl
theorem k156_5 : az_cd 156 5 = some (8, .invokevirtual 91, 3, 152, 1, 0, [], [859, 861, 51, 862, 19]) := rfl
theorem k156_6 : az_cd 156 6 = some (11, .istore_n 1, 1, 0, 0, 0, [], []) := rfl
theorem k156_7 : az_cd 156 7 = some (12, .iload_n 1, 1, 0, 0, 0, [], []) := rfl
theorem k156_8 : az_cd 156 8 = some (13, .bipush (-5), 2, 0, 0, (-5), [], []) := rfl
theorem k156_9 : az_cd 156 9 = some (15, .if_icmp .eq 47, 3, 39, 0, 0, [], []) := rfl
theorem k156_10 : az_cd 156 10 = some (18, .aload_n 0, 1, 0, 0, 0, [], []) := rfl
theorem k156_11 : az_cd 156 11 = some (19, .invokevirtual 94, 3, 141, 0, 0, [], [863, 865, 51, 866, 20]) := rfl
theorem k156_12 : az_cd 156 12 = some (22, .istore_n 2, 1, 0, 0, 0, [], []) := rfl
theorem k156_13 : az_cd 156 13 = some (23, .aload_n 0, 1, 0, 0, 0, [], []) := rfl
theorem k156_14 : az_cd 156 14 = some (24, .iload_n 2, 1, 0, 0, 0, [], []) := rfl
theorem k156_15 : az_cd 156 15 = some (25, .aload_n 0, 1, 0, 0, 0, [], []) := rfl
theorem k156_16 : az_cd 156 16 = some (26, .getfield 7, 3, 9, 0, 0, [], [751]) := rfl
theorem k156_17 : az_cd 156 17 = some (29, .bipush 93, 2, 0, 0, 93, [], []) := rfl
theorem k156_18 : az_cd 156 18 = some (31, .iload_n 1, 1, 0, 0, 0, [], []) := rfl
theorem k156_19 : az_cd 156 19 = some (32, .iadd, 1, 0, 0, 0, [], []) := rfl
theorem k156_20 : az_cd 156 20 = some (33, .iaload, 1, 0, 0, 0, [], []) := rfl
theorem k156_21 : az_cd 156 21 = some (34, .iconst 0, 1, 0, 0, 0, [], []) := rfl
theorem k156_22 : az_cd 156 22 = some (35, .invokevirtual 97, 3, 142, 3, 0, [], [899, 901, 51, 902, 29]) := rfl
theorem k156_23 : az_cd 156 23 = some (38, .aload_n 0, 1, 0, 0, 0, [], []) := rfl
theorem k156_24 : az_cd 156 24 = some (39, .getfield 7, 3, 9, 0, 0, [], [751]) := rfl
theorem k156_25 : az_cd 156 25 = some (42, .bipush 103, 2, 0, 0, 103, [], []) := rfl
theorem k156_26 : az_cd 156 26 = some (44, .iload_n 1, 1, 0, 0, 0, [], []) := rfl
theorem k156_27 : az_cd 156 27 = some (45, .iadd, 1, 0, 0, 0, [], []) := rfl
theorem k156_28 : az_cd 156 28 = some (46, .iload_n 2, 1, 0, 0, 0, [], []) := rfl
theorem k156_29 : az_cd 156 29 = some (47, .iastore, 1, 0, 0, 0, [], []) := rfl
theorem k156_30 : az_cd 156 30 = some (48, .aload_n 0, 1, 0, 0, 0, [], []) := rfl
theorem k156_31 : az_cd 156 31 = some (49, .getfield 7, 3, 9, 0, 0, [], [751]) := rfl
theorem k156_32 : az_cd 156 32 = some (52, .bipush 102, 2, 0, 0, 102, [], []) := rfl
theorem k156_33 : az_cd 156 33 = some (54, .dup2, 1, 0, 0, 0, [], []) := rfl
theorem k156_34 : az_cd 156 34 = some (55, .iaload, 1, 0, 0, 0, [], []) := rfl
theorem k156_35 : az_cd 156 35 = some (56, .iconst 1, 1, 0, 0, 1, [], []) := rfl
theorem k156_36 : az_cd 156 36 = some (57, .iadd, 1, 0, 0, 0, [], []) := rfl
theorem k156_37 : az_cd 156 37 = some (58, .iastore, 1, 0, 0, 0, [], []) := rfl
theorem k156_38 : az_cd 156 38 = some (59, .goto 72, 3, 80, 0, 0, [], []) := rfl
theorem k156_39 : az_cd 156 39 = some (62, .aload_n 0, 1, 0, 0, 0, [], []) := rfl
theorem k156_40 : az_cd 156 40 = some (63, .getfield 7, 3, 9, 0, 0, [], [751]) := rfl
theorem k156_41 : az_cd 156 41 = some (66, .bipush 102, 2, 0, 0, 102, [], []) := rfl
theorem k156_42 : az_cd 156 42 = some (68, .iaload, 1, 0, 0, 0, [], []) := rfl
theorem k156_43 : az_cd 156 43 = some (69, .aload_n 0, 1, 0, 0, 0, [], []) := rfl
theorem k156_44 : az_cd 156 44 = some (70, .invokevirtual 88, 3, 150, 0, 0, [], [847, 849, 51, 850, 17]) := rfl
theorem k156_45 : az_cd 156 45 = some (73, .if_icmp .ne 22, 3, 58, 0, 0, [], []) := rfl
theorem k156_46 : az_cd 156 46 = some (76, .aload_n 0, 1, 0, 0, 0, [], []) := rfl
theorem k156_47 : az_cd 156 47 = some (77, .iconst 0, 1, 0, 0, 0, [], []) := rfl
theorem k156_48 : az_cd 156 48 = some (78, .invokevirtual 101, 3, 154, 1, 0, [], [906, 908, 51, 909, 30]) := rfl
theorem k156_49 : az_cd 156 49 = some (81, .aload_n 0, 1, 0, 0, 0, [], []) := rfl
theorem k156_50 : az_cd 156 50 = some (82, .getfield 7, 3, 9, 0, 0, [], [751]) := rfl
theorem k156_51 : az_cd 156 51 = some (85, .bipush 102, 2, 0, 0, 102, [], []) := rfl
theorem k156_52 : az_cd 156 52 = some (87, .dup2, 1, 0, 0, 0, [], []) := rfl
theorem k156_53 : az_cd 156 53 = some (88, .iaload, 1, 0, 0, 0, [], []) := rfl
theorem k156_54 : az_cd 156 54 = some (89, .iconst 1, 1, 0, 0, 1, [], []) := rfl
theorem k156_55 : az_cd 156 55 = some (90, .iadd, 1, 0, 0, 0, [], []) := rfl
theorem k156_56 : az_cd 156 56 = some (91, .iastore, 1, 0, 0, 0, [], []) := rfl
theorem k156_57 : az_cd 156 57 = some (92, .goto 39, 3, 80, 0, 0, [], []) := rfl
theorem k156_58 : az_cd 156 58 = some (95, .aload_n 0, 1, 0, 0, 0, [], []) := rfl
theorem k156_59 : az_cd 156 59 = some (96, .getfield 7, 3, 9, 0, 0, [], [751]) := rfl
theorem k156_60 : az_cd 156 60 = some (99, .bipush 92, 2, 0, 0, 92, [], []) := rfl
theorem k156_61 : az_cd 156 61 = some (101, .iconst 1, 1, 0, 0, 1, [], []) := rfl
theorem k156_62 : az_cd 156 62 = some (102, .aload_n 0, 1, 0, 0, 0, [], []) := rfl
theorem k156_63 : az_cd 156 63 = some (103, .getfield 7, 3, 9, 0, 0, [], [751]) := rfl
theorem k156_64 : az_cd 156 64 = some (106, .bipush 92, 2, 0, 0, 92, [], []) := rfl
theorem k156_65 : az_cd 156 65 = some (108, .iaload, 1, 0, 0, 0, [], []) := rfl
theorem k156_66 : az_cd 156 66 = some (109, .isub, 1, 0, 0, 0, [], []) := rfl
theorem k156_67 : az_cd 156 67 = some (110, .iastore, 1, 0, 0, 0, [], []) := rfl
theorem k156_68 : az_cd 156 68 = some (111, .aload_n 0, 1, 0, 0, 0, [], []) := rfl
theorem k156_69 : az_cd 156 69 = some (112, .getfield 7, 3, 9, 0, 0, [], [751]) := rfl
theorem k156_70 : az_cd 156 70 = some (115, .sipush 152, 3, 0, 0, 152, [], []) := rfl
theorem k156_71 : az_cd 156 71 = some (118, .dup2, 1, 0, 0, 0, [], []) := rfl
theorem k156_72 : az_cd 156 72 = some (119, .iaload, 1, 0, 0, 0, [], []) := rfl
theorem k156_73 : az_cd 156 73 = some (120, .iconst 1, 1, 0, 0, 1, [], []) := rfl
theorem k156_74 : az_cd 156 74 = some (121, .iadd, 1, 0, 0, 0, [], []) := rfl
theorem k156_75 : az_cd 156 75 = some (122, .iastore, 1, 0, 0, 0, [], []) := rfl
theorem k156_76 : az_cd 156 76 = some (123, .aload_n 0, 1, 0, 0, 0, [], []) := rfl
theorem k156_77 : az_cd 156 77 = some (124, .invokevirtual 85, 3, 144, 0, 0, [], [835, 837, 51, 838, 15]) := rfl
theorem k156_78 : az_cd 156 78 = some (127, .aload_n 0, 1, 0, 0, 0, [], []) := rfl
theorem k156_79 : az_cd 156 79 = some (128, .invokevirtual 105, 3, 153, 0, 0, [], [910, 912, 51, 913, 31]) := rfl
theorem k156_80 : az_cd 156 80 = some (131, .return_, 1, 0, 0, 0, [], []) := rfl
theorem k157_0 : az_cd 157 0 = some (0, .aload_n 0, 1, 0, 0, 0, [], []) := rfl
theorem k157_1 : az_cd 157 1 = some (1, .getfield 7, 3, 9, 0, 0, [], [751]) := rfl
theorem k157_2 : az_cd 157 2 = some (4, .bipush 101, 2, 0, 0, 101, [], []) := rfl
theorem k157_3 : az_cd 157 3 = some (6, .iaload, 1, 0, 0, 0, [], []) := rfl
theorem k157_4 : az_cd 157 4 = some (7, .iconst 1, 1, 0, 0, 1, [], []) := rfl
theorem k157_5 : az_cd 157 5 = some (8, .if_icmp .ne 6, 3, 8, 0, 0, [], []) := rfl
theorem k157_6 : az_cd 157 6 = some (11, .bipush (-4), 2, 0, 0, (-4), [], []) := rfl
theorem k157_7 : az_cd 157 7 = some (13, .ireturn, 1, 0, 0, 0, [], []) := rfl
theorem k157_8 : az_cd 157 8 = some (14, .aload_n 0, 1, 0, 0, 0, [], []) := rfl
theorem k157_9 : az_cd 157 9 = some (15, .invokevirtual 68, 3, 143, 0, 0, [], [803, 805, 51, 806, 10]) := rfl
theorem k157_10 : az_cd 157 10 = some (18, .ifCond .ne 6, 3, 13, 0, 0, [], []) := rfl
theorem k157_11 : az_cd 157 11 = some (21, .bipush (-5), 2, 0, 0, (-5), [], []) := rfl
theorem k157_12 : az_cd 157 12 = some (23, .ireturn, 1, 0, 0, 0, [], []) := rfl
theorem k157_13 : az_cd 157 13 = some (24, .aload_n 0, 1, 0, 0, 0, [], []) := rfl
theorem k157_14 : az_cd 157 14 = some (25, .invokevirtual 65, 3, 131, 0, 0, [], [796, 798, 51, 799, 9]) := rfl
theorem k157_15 : az_cd 157 15 = some (28, .aload_n 0, 1, 0, 0, 0, [], []) := rfl
theorem k157_16 : az_cd 157 16 = some (29, .getfield 7, 3, 9, 0, 0, [], [751]) := rfl
theorem k157_17 : az_cd 157 17 = some (32, .bipush 101, 2, 0, 0, 101, [], []) := rfl
theorem k157_18 : az_cd 157 18 = some (34, .iconst 1, 1, 0, 0, 1, [], []) := rfl
theorem k157_19 : az_cd 157 19 = some (35, .iastore, 1, 0, 0, 0, [], []) := rfl
theorem k157_20 : az_cd 157 20 = some (36, .aload_n 0, 1, 0, 0, 0, [], []) := rfl
theorem k157_21 : az_cd 157 21 = some (37, .invokevirtual 108, 3, 151, 0, 0, [], [843, 845, 51, 846, 16]) := rfl
theorem k157_22 : az_cd 157 22 = some (40, .ireturn, 1, 0, 0, 0, [], []) := rfl
theorem k158_0 : az_cd 158 0 = some (0, .aload_n 0, 1, 0, 0, 0, [], []) := rfl
theorem k158_1 : az_cd 158 1 = some (1, .getfield 7, 3, 9, 0, 0, [], [751]) := rfl
theorem k158_2 : az_cd 158 2 = some (4, .bipush 101, 2, 0, 0, 101, [], []) := rfl
theorem k158_3 : az_cd 158 3 = some (6, .iaload, 1, 0, 0, 0, [], []) := rfl
theorem k158_4 : az_cd 158 4 = some (7, .ifCond .ne 6, 3, 7, 0, 0, [], []) := rfl
theorem k158_5 : az_cd 158 5 = some (10, .bipush (-5), 2, 0, 0, (-5), [], []) := rfl
theorem k158_6 : az_cd 158 6 = some (12, .ireturn, 1, 0, 0, 0, [], []) := rfl
theorem k158_7 : az_cd 158 7 = some (13, .aload_n 0, 1, 0, 0, 0, [], []) := rfl
theorem k158_8 : az_cd 158 8 = some (14, .invokevirtual 111, 3, 155, 0, 0, [], [855, 857, 51, 858, 18]) := rfl
theorem k158_9 : az_cd 158 9 = some (17, .ifCond .ne 6, 3, 12, 0, 0, [], []) := rfl
theorem k158_10 : az_cd 158 10 = some (20, .bipush (-3), 2, 0, 0, (-3), [], []) := rfl
theorem k158_11 : az_cd 158 11 = some (22, .ireturn, 1, 0, 0, 0, [], []) := rfl
theorem k158_12 : az_cd 158 12 = some (23, .aload_n 0, 1, 0, 0, 0, [], []) := rfl
theorem k158_13 : az_cd 158 13 = some (24, .invokevirtual 65, 3, 131, 0, 0, [], [796, 798, 51, 799, 9]) := rfl
theorem k158_14 : az_cd 158 14 = some (27, .aload_n 0, 1, 0, 0, 0, [], []) := rfl
theorem k158_15 : az_cd 158 15 = some (28, .invokevirtual 115, 3, 156, 0, 0, [], [895, 897, 51, 898, 28]) := rfl
theorem k158_16 : az_cd 158 16 = some (31, .aload_n 0, 1, 0, 0, 0, [], []) := rfl
theorem k158_17 : az_cd 158 17 = some (32, .invokevirtual 108, 3, 151, 0, 0, [], [843, 845, 51, 846, 16]) := rfl
theorem k158_18 : az_cd 158 18 = some (35, .ireturn, 1, 0, 0, 0, [], []) := rfl
theorem k159_0 : az_cd 159 0 = some (0, .aload_n 0, 1, 0, 0, 0, [], []) := rfl
theorem k159_1 : az_cd 159 1 = some (1, .getfield 7, 3, 9, 0, 0, [], [751]) := rfl
theorem k159_2 : az_cd 159 2 = some (4, .bipush 101, 2, 0, 0, 101, [], []) := rfl
theorem k159_3 : az_cd 159 3 = some (6, .iaload, 1, 0, 0, 0, [], []) := rfl
theorem k159_4 : az_cd 159 4 = some (7, .ifCond .ne 6, 3, 7, 0, 0, [], []) := rfl
theorem k159_5 : az_cd 159 5 = some (10, .bipush (-5), 2, 0, 0, (-5), [], []) := rfl
theorem k159_6 : az_cd 159 6 = some (12, .ireturn, 1, 0, 0, 0, [], []) := rfl
theorem k159_7 : az_cd 159 7 = some (13, .aload_n 0, 1, 0, 0, 0, [], []) := rfl
theorem k159_8 : az_cd 159 8 = some (14, .invokevirtual 111, 3, 155, 0, 0, [], [855, 857, 51, 858, 18]) := rfl
theorem k159_9 : az_cd 159 9 = some (17, .ifCond .ne 6, 3, 12, 0, 0, [], []) := rfl
theorem k159_10 : az_cd 159 10 = some (20, .bipush (-3), 2, 0, 0, (-3), [], []) := rfl
theorem k159_11 : az_cd 159 11 = some (22, .ireturn, 1, 0, 0, 0, [], []) := rfl
theorem k159_12 : az_cd 159 12 = some (23, .aload_n 0, 1, 0, 0, 0, [], []) := rfl
theorem k159_13 : az_cd 159 13 = some (24, .invokevirtual 65, 3, 131, 0, 0, [], [796, 798, 51, 799, 9]) := rfl
theorem k159_14 : az_cd 159 14 = some (27, .aload_n 0, 1, 0, 0, 0, [], []) := rfl
theorem k159_15 : az_cd 159 15 = some (28, .getfield 7, 3, 9, 0, 0, [], [751]) := rfl
theorem k159_16 : az_cd 159 16 = some (31, .bipush 101, 2, 0, 0, 101, [], []) := rfl
theorem k159_17 : az_cd 159 17 = some (33, .iaload, 1, 0, 0, 0, [], []) := rfl
theorem k159_18 : az_cd 159 18 = some (34, .iconst 1, 1, 0, 0, 1, [], []) := rfl
theorem k159_19 : az_cd 159 19 = some (35, .if_icmp .ne 17, 3, 26, 0, 0, [], []) := rfl
theorem k159_20 : az_cd 159 20 = some (38, .aload_n 0, 1, 0, 0, 0, [], []) := rfl
theorem k159_21 : az_cd 159 21 = some (39, .invokevirtual 111, 3, 155, 0, 0, [], [855, 857, 51, 858, 18]) := rfl
theorem k159_22 : az_cd 159 22 = some (42, .ifCond .eq 10, 3, 26, 0, 0, [], []) := rfl
theorem k159_23 : az_cd 159 23 = some (45, .aload_n 0, 1, 0, 0, 0, [], []) := rfl
theorem k159_24 : az_cd 159 24 = some (46, .invokevirtual 115, 3, 156, 0, 0, [], [895, 897, 51, 898, 28]) := rfl
theorem k159_25 : az_cd 159 25 = some (49, .goto (-22), 3, 14, 0, 0, [], []) := rfl
theorem k159_26 : az_cd 159 26 = some (52, .aload_n 0, 1, 0, 0, 0, [], []) := rfl
theorem k159_27 : az_cd 159 27 = some (53, .invokevirtual 108, 3, 151, 0, 0, [], [843, 845, 51, 846, 16]) := rfl
theorem k159_28 : az_cd 159 28 = some (56, .ireturn, 1, 0, 0, 0, [], []) := rfl
theorem k160_0 : az_cd 160 0 = some (0, .aload_n 0, 1, 0, 0, 0, [], []) := rfl
theorem k160_1 : az_cd 160 1 = some (1, .getfield 7, 3, 9, 0, 0, [], [751]) := rfl
theorem k160_2 : az_cd 160 2 = some (4, .bipush 101, 2, 0, 0, 101, [], []) := rfl
theorem k160_3 : az_cd 160 3 = some (6, .iaload, 1, 0, 0, 0, [], []) := rfl
theorem k160_4 : az_cd 160 4 = some (7, .ifCond .ne 6, 3, 7, 0, 0, [], []) := rfl
theorem k160_5 : az_cd 160 5 = some (10, .bipush (-5), 2, 0, 0, (-5), [], []) := rfl
theorem k160_6 : az_cd 160 6 = some (12, .ireturn, 1, 0, 0, 0, [], []) := rfl
theorem k160_7 : az_cd 160 7 = some (13, .aload_n 0, 1, 0, 0, 0, [], []) := rfl
theorem k160_8 : az_cd 160 8 = some (14, .invokevirtual 65, 3, 131, 0, 0, [], [796, 798, 51, 799, 9]) := rfl
theorem k160_9 : az_cd 160 9 = some (17, .aload_n 0, 1, 0, 0, 0, [], []) := rfl
theorem k160_10 : az_cd 160 10 = some (18, .getfield 7, 3, 9, 0, 0, [], [751]) := rfl
theorem k160_11 : az_cd 160 11 = some (21, .bipush 102, 2, 0, 0, 102, [], []) := rfl
theorem k160_12 : az_cd 160 12 = some (23, .iaload, 1, 0, 0, 0, [], []) := rfl
theorem k160_13 : az_cd 160 13 = some (24, .istore_n 1, 1, 0, 0, 0, [], []) := rfl
theorem k160_14 : az_cd 160 14 = some (25, .aload_n 0, 1, 0, 0, 0, [], []) := rfl
theorem k160_15 : az_cd 160 15 = some (26, .invokevirtual 105, 3, 153, 0, 0, [], [910, 912, 51, 913, 31]) := rfl
theorem k160_16 : az_cd 160 16 = some (29, .iload_n 1, 1, 0, 0, 0, [], []) := rfl
theorem k160_17 : az_cd 160 17 = some (30, .ireturn, 1, 0, 0, 0, [], []) := rfl
theorem k161_0 : az_cd 161 0 = some (0, .aload_n 0, 1, 0, 0, 0, [], []) := rfl
theorem k161_1 : az_cd 161 1 = some (1, .aload_n 0, 1, 0, 0, 0, [], []) := rfl
theorem k161_2 : az_cd 161 2 = some (2, .getfield 7, 3, 9, 0, 0, [], [751]) := rfl
theorem k161_3 : az_cd 161 3 = some (5, .bipush 102, 2, 0, 0, 102, [], []) := rfl
theorem k161_4 : az_cd 161 4 = some (7, .iaload, 1, 0, 0, 0, [], []) := rfl
theorem k161_5 : az_cd 161 5 = some (8, .invokevirtual 91, 3, 152, 1, 0, [], [859, 861, 51, 862, 19]) := rfl
theorem k161_6 : az_cd 161 6 = some (11, .istore_n 1, 1, 0, 0, 0, [], []) := rfl
theorem k161_7 : az_cd 161 7 = some (12, .iload_n 1, 1, 0, 0, 0, [], []) := rfl
theorem k161_8 : az_cd 161 8 = some (13, .bipush (-5), 2, 0, 0, (-5), [], []) := rfl
theorem k161_9 : az_cd 161 9 = some (15, .if_icmp .ne 8, 3, 12, 0, 0, [], []) := rfl
theorem k161_10 : az_cd 161 10 = some (18, .bipush (-5), 2, 0, 0, (-5), [], []) := rfl
theorem k161_11 : az_cd 161 11 = some (20, .goto 7, 3, 14, 0, 0, [], []) := rfl
theorem k161_12 : az_cd 161 12 = some (23, .aload_n 0, 1, 0, 0, 0, [], []) := rfl
theorem k161_13 : az_cd 161 13 = some (24, .invokevirtual 94, 3, 141, 0, 0, [], [863, 865, 51, 866, 20]) := rfl
theorem k161_14 : az_cd 161 14 = some (27, .istore_n 2, 1, 0, 0, 0, [], []) := rfl
theorem k161_15 : az_cd 161 15 = some (28, .iload_n 2, 1, 0, 0, 0, [], []) := rfl
theorem k161_16 : az_cd 161 16 = some (29, .bipush (-5), 2, 0, 0, (-5), [], []) := rfl
theorem k161_17 : az_cd 161 17 = some (31, .if_icmp .eq 21, 3, 29, 0, 0, [], []) := rfl
theorem k161_18 : az_cd 161 18 = some (34, .aload_n 0, 1, 0, 0, 0, [], []) := rfl
theorem k161_19 : az_cd 161 19 = some (35, .iload_n 2, 1, 0, 0, 0, [], []) := rfl
theorem k161_20 : az_cd 161 20 = some (36, .aload_n 0, 1, 0, 0, 0, [], []) := rfl
theorem k161_21 : az_cd 161 21 = some (37, .getfield 7, 3, 9, 0, 0, [], [751]) := rfl
theorem k161_22 : az_cd 161 22 = some (40, .bipush 93, 2, 0, 0, 93, [], []) := rfl
theorem k161_23 : az_cd 161 23 = some (42, .iload_n 1, 1, 0, 0, 0, [], []) := rfl
theorem k161_24 : az_cd 161 24 = some (43, .iadd, 1, 0, 0, 0, [], []) := rfl
theorem k161_25 : az_cd 161 25 = some (44, .iaload, 1, 0, 0, 0, [], []) := rfl
theorem k161_26 : az_cd 161 26 = some (45, .iconst 1, 1, 0, 0, 1, [], []) := rfl
theorem k161_27 : az_cd 161 27 = some (46, .invokevirtual 97, 3, 142, 3, 0, [], [899, 901, 51, 902, 29]) := rfl
theorem k161_28 : az_cd 161 28 = some (49, .goto 28, 3, 42, 0, 0, [], []) := rfl
theorem k161_29 : az_cd 161 29 = some (52, .iload_n 1, 1, 0, 0, 0, [], []) := rfl
theorem k161_30 : az_cd 161 30 = some (53, .bipush (-5), 2, 0, 0, (-5), [], []) := rfl
theorem k161_31 : az_cd 161 31 = some (55, .if_icmp .ne 22, 3, 42, 0, 0, [], []) := rfl
theorem k161_32 : az_cd 161 32 = some (58, .aload_n 0, 1, 0, 0, 0, [], []) := rfl
theorem k161_33 : az_cd 161 33 = some (59, .getfield 7, 3, 9, 0, 0, [], [751]) := rfl
theorem k161_34 : az_cd 161 34 = some (62, .bipush 102, 2, 0, 0, 102, [], []) := rfl
theorem k161_35 : az_cd 161 35 = some (64, .iaload, 1, 0, 0, 0, [], []) := rfl
theorem k161_36 : az_cd 161 36 = some (65, .aload_n 0, 1, 0, 0, 0, [], []) := rfl
theorem k161_37 : az_cd 161 37 = some (66, .invokevirtual 88, 3, 150, 0, 0, [], [847, 849, 51, 850, 17]) := rfl
theorem k161_38 : az_cd 161 38 = some (69, .if_icmp .ne 8, 3, 42, 0, 0, [], []) := rfl
theorem k161_39 : az_cd 161 39 = some (72, .aload_n 0, 1, 0, 0, 0, [], []) := rfl
theorem k161_40 : az_cd 161 40 = some (73, .iconst 1, 1, 0, 0, 1, [], []) := rfl
theorem k161_41 : az_cd 161 41 = some (74, .invokevirtual 101, 3, 154, 1, 0, [], [906, 908, 51, 909, 30]) := rfl
theorem k161_42 : az_cd 161 42 = some (77, .return_, 1, 0, 0, 0, [], []) := rfl
theorem k162_0 : az_cd 162 0 = some (0, .aload_n 0, 1, 0, 0, 0, [], []) := rfl
theorem k162_1 : az_cd 162 1 = some (1, .invokevirtual 65, 3, 131, 0, 0, [], [796, 798, 51, 799, 9]) := rfl
theorem k162_2 : az_cd 162 2 = some (4, .iload_n 1, 1, 0, 0, 0, [], []) := rfl
theorem k162_3 : az_cd 162 3 = some (5, .ifCond .eq 18, 3, 12, 0, 0, [], []) := rfl
theorem k162_4 : az_cd 162 4 = some (8, .aload_n 0, 1, 0, 0, 0, [], []) := rfl
theorem k162_5 : az_cd 162 5 = some (9, .getfield 7, 3, 9, 0, 0, [], [751]) := rfl
theorem k162_6 : az_cd 162 6 = some (12, .bipush 101, 2, 0, 0, 101, [], []) := rfl
theorem k162_7 : az_cd 162 7 = some (14, .iaload, 1, 0, 0, 0, [], []) := rfl
theorem k162_8 : az_cd 162 8 = some (15, .iconst 1, 1, 0, 0, 1, [], []) := rfl
theorem k162_9 : az_cd 162 9 = some (16, .if_icmp .ne 7, 3, 12, 0, 0, [], []) := rfl
theorem k162_10 : az_cd 162 10 = some (19, .aload_n 0, 1, 0, 0, 0, [], []) := rfl
theorem k162_11 : az_cd 162 11 = some (20, .invokevirtual 118, 3, 161, 0, 0, [], [926, 928, 51, 929, 32]) := rfl
theorem k162_12 : az_cd 162 12 = some (23, .aload_n 0, 1, 0, 0, 0, [], []) := rfl
theorem k162_13 : az_cd 162 13 = some (24, .invokevirtual 85, 3, 144, 0, 0, [], [835, 837, 51, 838, 15]) := rfl
theorem k162_14 : az_cd 162 14 = some (27, .aload_n 0, 1, 0, 0, 0, [], []) := rfl
theorem k162_15 : az_cd 162 15 = some (28, .invokevirtual 105, 3, 153, 0, 0, [], [910, 912, 51, 913, 31]) := rfl
theorem k162_16 : az_cd 162 16 = some (31, .bipush 111, 2, 0, 0, 111, [], []) := rfl
theorem k162_17 : az_cd 162 17 = some (33, .istore_n 2, 1, 0, 0, 0, [], []) := rfl
theorem k162_18 : az_cd 162 18 = some (34, .iload_n 2, 1, 0, 0, 0, [], []) := rfl
theorem k162_19 : az_cd 162 19 = some (35, .sipush 151, 3, 0, 0, 151, [], []) := rfl
theorem k162_20 : az_cd 162 20 = some (38, .if_icmp .ge 16, 3, 28, 0, 0, [], []) := rfl
theorem k162_21 : az_cd 162 21 = some (41, .aload_n 0, 1, 0, 0, 0, [], []) := rfl
theorem k162_22 : az_cd 162 22 = some (42, .getfield 7, 3, 9, 0, 0, [], [751]) := rfl
theorem k162_23 : az_cd 162 23 = some (45, .iload_n 2, 1, 0, 0, 0, [], []) := rfl
theorem k162_24 : az_cd 162 24 = some (46, .iconst 0, 1, 0, 0, 0, [], []) := rfl
theorem k162_25 : az_cd 162 25 = some (47, .iastore, 1, 0, 0, 0, [], []) := rfl
theorem k162_26 : az_cd 162 26 = some (48, .iinc 2 1, 3, 0, 0, 1, [], []) := rfl
theorem k162_27 : az_cd 162 27 = some (51, .goto (-17), 3, 18, 0, 0, [], []) := rfl
theorem k162_28 : az_cd 162 28 = some (54, .aload_n 0, 1, 0, 0, 0, [], []) := rfl
theorem k162_29 : az_cd 162 29 = some (55, .getfield 7, 3, 9, 0, 0, [], [751]) := rfl
theorem k162_30 : az_cd 162 30 = some (58, .sipush 151, 3, 0, 0, 151, [], []) := rfl
theorem k162_31 : az_cd 162 31 = some (61, .dup2, 1, 0, 0, 0, [], []) := rfl
theorem k162_32 : az_cd 162 32 = some (62, .iaload, 1, 0, 0, 0, [], []) := rfl
theorem k162_33 : az_cd 162 33 = some (63, .iconst 1, 1, 0, 0, 1, [], []) := rfl
theorem k162_34 : az_cd 162 34 = some (64, .iadd, 1, 0, 0, 0, [], []) := rfl
theorem k162_35 : az_cd 162 35 = some (65, .iastore, 1, 0, 0, 0, [], []) := rfl
theorem k162_36 : az_cd 162 36 = some (66, .aload_n 0, 1, 0, 0, 0, [], []) := rfl
theorem k162_37 : az_cd 162 37 = some (67, .iconst 0, 1, 0, 0, 0, [], []) := rfl
theorem k162_38 : az_cd 162 38 = some (68, .invokevirtual 38, 3, 133, 1, 0, [], [875, 877, 51, 878, 23]) := rfl
theorem k162_39 : az_cd 162 39 = some (71, .ireturn, 1, 0, 0, 0, [], []) := rfl
theorem k163_0 : az_cd 163 0 = some (0, .iconst 0, 1, 0, 0, 0, [], []) := rfl
theorem k163_1 : az_cd 163 1 = some (1, .istore_n 1, 1, 0, 0, 0, [], []) := rfl
theorem k163_2 : az_cd 163 2 = some (2, .iconst 0, 1, 0, 0, 0, [], []) := rfl
theorem k163_3 : az_cd 163 3 = some (3, .istore_n 2, 1, 0, 0, 0, [], []) := rfl
theorem k163_4 : az_cd 163 4 = some (4, .iload_n 2, 1, 0, 0, 0, [], []) := rfl
theorem k163_5 : az_cd 163 5 = some (5, .iconst 4, 1, 0, 0, 4, [], []) := rfl
theorem k163_6 : az_cd 163 6 = some (6, .if_icmp .ge 25, 3, 19, 0, 0, [], []) := rfl
theorem k163_7 : az_cd 163 7 = some (9, .iload_n 1, 1, 0, 0, 0, [], []) := rfl
theorem k163_8 : az_cd 163 8 = some (10, .aload_n 0, 1, 0, 0, 0, [], []) := rfl
theorem k163_9 : az_cd 163 9 = some (11, .iload_n 2, 1, 0, 0, 0, [], []) := rfl
theorem k163_10 : az_cd 163 10 = some (12, .invokevirtual 42, 3, 134, 1, 0, [], [887, 889, 51, 890, 26]) := rfl
theorem k163_11 : az_cd 163 11 = some (15, .ifCond .eq 7, 3, 14, 0, 0, [], []) := rfl
theorem k163_12 : az_cd 163 12 = some (18, .iconst 1, 1, 0, 0, 1, [], []) := rfl
theorem k163_13 : az_cd 163 13 = some (19, .goto 4, 3, 15, 0, 0, [], []) := rfl
theorem k163_14 : az_cd 163 14 = some (22, .iconst 0, 1, 0, 0, 0, [], []) := rfl
theorem k163_15 : az_cd 163 15 = some (23, .iadd, 1, 0, 0, 0, [], []) := rfl
theorem k163_16 : az_cd 163 16 = some (24, .istore_n 1, 1, 0, 0, 0, [], []) := rfl
theorem k163_17 : az_cd 163 17 = some (25, .iinc 2 1, 3, 0, 0, 1, [], []) := rfl
theorem k163_18 : az_cd 163 18 = some (28, .goto (-24), 3, 4, 0, 0, [], []) := rfl
theorem k163_19 : az_cd 163 19 = some (31, .iload_n 1, 1, 0, 0, 0, [], []) := rfl
theorem k163_20 : az_cd 163 20 = some (32, .ireturn, 1, 0, 0, 0, [], []) := rfl
theorem k164_0 : az_cd 164 0 = some (0, .aload_n 0, 1, 0, 0, 0, [], []) := rfl
theorem k164_1 : az_cd 164 1 = some (1, .invokevirtual 121, 3, 163, 0, 0, [], [934, 936, 51, 937, 33]) := rfl
theorem k164_2 : az_cd 164 2 = some (4, .iconst 4, 1, 0, 0, 4, [], []) := rfl
theorem k164_3 : az_cd 164 3 = some (5, .if_icmp .ne 6, 3, 6, 0, 0, [], []) := rfl
theorem k164_4 : az_cd 164 4 = some (8, .bipush (-3), 2, 0, 0, (-3), [], []) := rfl
theorem k164_5 : az_cd 164 5 = some (10, .ireturn, 1, 0, 0, 0, [], []) := rfl
theorem k164_6 : az_cd 164 6 = some (11, .aload_n 0, 1, 0, 0, 0, [], []) := rfl
theorem k164_7 : az_cd 164 7 = some (12, .invokevirtual 65, 3, 131, 0, 0, [], [796, 798, 51, 799, 9]) := rfl
theorem k164_8 : az_cd 164 8 = some (15, .iconst 0, 1, 0, 0, 0, [], []) := rfl
theorem k164_9 : az_cd 164 9 = some (16, .istore_n 1, 1, 0, 0, 0, [], []) := rfl
theorem k164_10 : az_cd 164 10 = some (17, .aload_n 0, 1, 0, 0, 0, [], []) := rfl
theorem k164_11 : az_cd 164 11 = some (18, .iload_n 1, 1, 0, 0, 0, [], []) := rfl
theorem k164_12 : az_cd 164 12 = some (19, .invokevirtual 42, 3, 134, 1, 0, [], [887, 889, 51, 890, 26]) := rfl
theorem k164_13 : az_cd 164 13 = some (22, .ifCond .eq 9, 3, 16, 0, 0, [], []) := rfl
theorem k164_14 : az_cd 164 14 = some (25, .iinc 1 1, 3, 0, 0, 1, [], []) := rfl
theorem k164_15 : az_cd 164 15 = some (28, .goto (-11), 3, 10, 0, 0, [], []) := rfl
theorem k164_16 : az_cd 164 16 = some (31, .bipush 111, 2, 0, 0, 111, [], []) := rfl
theorem k164_17 : az_cd 164 17 = some (33, .bipush 10, 2, 0, 0, 10, [], []) := rfl
theorem k164_18 : az_cd 164 18 = some (35, .iload_n 1, 1, 0, 0, 0, [], []) := rfl
theorem k164_19 : az_cd 164 19 = some (36, .imul, 1, 0, 0, 0, [], []) := rfl
theorem k164_20 : az_cd 164 20 = some (37, .iadd, 1, 0, 0, 0, [], []) := rfl
theorem k164_21 : az_cd 164 21 = some (38, .istore_n 2, 1, 0, 0, 0, [], []) := rfl
theorem k164_22 : az_cd 164 22 = some (39, .aload_n 0, 1, 0, 0, 0, [], []) := rfl
theorem k164_23 : az_cd 164 23 = some (40, .getfield 7, 3, 9, 0, 0, [], [751]) := rfl
theorem k164_24 : az_cd 164 24 = some (43, .iload_n 2, 1, 0, 0, 0, [], []) := rfl
theorem k164_25 : az_cd 164 25 = some (44, .iconst 1, 1, 0, 0, 1, [], []) := rfl
theorem k164_26 : az_cd 164 26 = some (45, .iastore, 1, 0, 0, 0, [], []) := rfl
theorem k164_27 : az_cd 164 27 = some (46, .aload_n 0, 1, 0, 0, 0, [], []) := rfl
theorem k164_28 : az_cd 164 28 = some (47, .getfield 7, 3, 9, 0, 0, [], [751]) := rfl
theorem k164_29 : az_cd 164 29 = some (50, .iload_n 2, 1, 0, 0, 0, [], []) := rfl
theorem k164_30 : az_cd 164 30 = some (51, .iconst 1, 1, 0, 0, 1, [], []) := rfl
theorem k164_31 : az_cd 164 31 = some (52, .iadd, 1, 0, 0, 0, [], []) := rfl
theorem k164_32 : az_cd 164 32 = some (53, .aload_n 0, 1, 0, 0, 0, [], []) := rfl
theorem k164_33 : az_cd 164 33 = some (54, .iconst 0, 1, 0, 0, 0, [], []) := rfl
theorem k164_34 : az_cd 164 34 = some (55, .invokevirtual 38, 3, 133, 1, 0, [], [875, 877, 51, 878, 23]) := rfl
theorem k164_35 : az_cd 164 35 = some (58, .iastore, 1, 0, 0, 0, [], []) := rfl
theorem k164_36 : az_cd 164 36 = some (59, .iconst 0, 1, 0, 0, 0, [], []) := rfl
theorem k164_37 : az_cd 164 37 = some (60, .istore_n 3, 1, 0, 0, 0, [], []) := rfl
theorem k164_38 : az_cd 164 38 = some (61, .iload_n 3, 1, 0, 0, 0, [], []) := rfl
theorem k164_39 : az_cd 164 39 = some (62, .bipush 8, 2, 0, 0, 8, [], []) := rfl
theorem k164_40 : az_cd 164 40 = some (64, .if_icmp .ge 26, 3, 56, 0, 0, [], []) := rfl
theorem k164_41 : az_cd 164 41 = some (67, .aload_n 0, 1, 0, 0, 0, [], []) := rfl
theorem k164_42 : az_cd 164 42 = some (68, .getfield 7, 3, 9, 0, 0, [], [751]) := rfl
theorem k164_43 : az_cd 164 43 = some (71, .iload_n 2, 1, 0, 0, 0, [], []) := rfl
theorem k164_44 : az_cd 164 44 = some (72, .iconst 2, 1, 0, 0, 2, [], []) := rfl
theorem k164_45 : az_cd 164 45 = some (73, .iadd, 1, 0, 0, 0, [], []) := rfl
theorem k164_46 : az_cd 164 46 = some (74, .iload_n 3, 1, 0, 0, 0, [], []) := rfl
theorem k164_47 : az_cd 164 47 = some (75, .iadd, 1, 0, 0, 0, [], []) := rfl
theorem k164_48 : az_cd 164 48 = some (76, .aload_n 0, 1, 0, 0, 0, [], []) := rfl
theorem k164_49 : az_cd 164 49 = some (77, .iconst 2, 1, 0, 0, 2, [], []) := rfl
theorem k164_50 : az_cd 164 50 = some (78, .iload_n 3, 1, 0, 0, 0, [], []) := rfl
theorem k164_51 : az_cd 164 51 = some (79, .iadd, 1, 0, 0, 0, [], []) := rfl
theorem k164_52 : az_cd 164 52 = some (80, .invokevirtual 38, 3, 133, 1, 0, [], [875, 877, 51, 878, 23]) := rfl
theorem k164_53 : az_cd 164 53 = some (83, .iastore, 1, 0, 0, 0, [], []) := rfl
theorem k164_54 : az_cd 164 54 = some (84, .iinc 3 1, 3, 0, 0, 1, [], []) := rfl
theorem k164_55 : az_cd 164 55 = some (87, .goto (-26), 3, 38, 0, 0, [], []) := rfl
theorem k164_56 : az_cd 164 56 = some (90, .iload_n 1, 1, 0, 0, 0, [], []) := rfl
theorem k164_57 : az_cd 164 57 = some (91, .ireturn, 1, 0, 0, 0, [], []) := rfl
theorem k165_0 : az_cd 165 0 = some (0, .aload_n 0, 1, 0, 0, 0, [], []) := rfl
theorem k165_1 : az_cd 165 1 = some (1, .iload_n 1, 1, 0, 0, 0, [], []) := rfl
theorem k165_2 : az_cd 165 2 = some (2, .invokevirtual 42, 3, 134, 1, 0, [], [887, 889, 51, 890, 26]) := rfl
theorem k165_3 : az_cd 165 3 = some (5, .ifCond .ne 5, 3, 6, 0, 0, [], []) := rfl
theorem k165_4 : az_cd 165 4 = some (8, .iconst (-1), 1, 0, 0, (-1), [], []) := rfl
theorem k165_5 : az_cd 165 5 = some (9, .ireturn, 1, 0, 0, 0, [], []) := rfl
theorem k165_6 : az_cd 165 6 = some (10, .aload_n 0, 1, 0, 0, 0, [], []) := rfl
theorem k165_7 : az_cd 165 7 = some (11, .invokevirtual 65, 3, 131, 0, 0, [], [796, 798, 51, 799, 9]) := rfl
theorem k165_8 : az_cd 165 8 = some (14, .iconst 0, 1, 0, 0, 0, [], []) := rfl
theorem k165_9 : az_cd 165 9 = some (15, .istore_n 2, 1, 0, 0, 0, [], []) := rfl
theorem k165_10 : az_cd 165 10 = some (16, .iload_n 2, 1, 0, 0, 0, [], []) := rfl
theorem k165_11 : az_cd 165 11 = some (17, .bipush 10, 2, 0, 0, 10, [], []) := rfl
theorem k165_12 : az_cd 165 12 = some (19, .if_icmp .ge 24, 3, 26, 0, 0, [], []) := rfl
theorem k165_13 : az_cd 165 13 = some (22, .aload_n 0, 1, 0, 0, 0, [], []) := rfl
theorem k165_14 : az_cd 165 14 = some (23, .getfield 7, 3, 9, 0, 0, [], [751]) := rfl
theorem k165_15 : az_cd 165 15 = some (26, .bipush 111, 2, 0, 0, 111, [], []) := rfl
theorem k165_16 : az_cd 165 16 = some (28, .bipush 10, 2, 0, 0, 10, [], []) := rfl
theorem k165_17 : az_cd 165 17 = some (30, .iload_n 1, 1, 0, 0, 0, [], []) := rfl
theorem k165_18 : az_cd 165 18 = some (31, .imul, 1, 0, 0, 0, [], []) := rfl
theorem k165_19 : az_cd 165 19 = some (32, .iadd, 1, 0, 0, 0, [], []) := rfl
theorem k165_20 : az_cd 165 20 = some (33, .iload_n 2, 1, 0, 0, 0, [], []) := rfl
theorem k165_21 : az_cd 165 21 = some (34, .iadd, 1, 0, 0, 0, [], []) := rfl
theorem k165_22 : az_cd 165 22 = some (35, .iconst 0, 1, 0, 0, 0, [], []) := rfl
theorem k165_23 : az_cd 165 23 = some (36, .iastore, 1, 0, 0, 0, [], []) := rfl
theorem k165_24 : az_cd 165 24 = some (37, .iinc 2 1, 3, 0, 0, 1, [], []) := rfl
theorem k165_25 : az_cd 165 25 = some (40, .goto (-24), 3, 10, 0, 0, [], []) := rfl
theorem k165_26 : az_cd 165 26 = some (43, .aload_n 0, 1, 0, 0, 0, [], []) := rfl
theorem k165_27 : az_cd 165 27 = some (44, .invokevirtual 121, 3, 163, 0, 0, [], [934, 936, 51, 937, 33]) := rfl
theorem k165_28 : az_cd 165 28 = some (47, .ireturn, 1, 0, 0, 0, [], []) := rfl
theorem k166_0 : az_cd 166 0 = some (0, .aload_n 0, 1, 0, 0, 0, [], []) := rfl
theorem k166_1 : az_cd 166 1 = some (1, .getfield 124, 3, 9, 6, 0, [], [757]) := rfl
theorem k166_2 : az_cd 166 2 = some (4, .bipush 60, 2, 0, 0, 60, [], []) := rfl
theorem k166_3 : az_cd 166 3 = some (6, .if_icmp .ne 6, 3, 6, 0, 0, [], []) := rfl
theorem k166_4 : az_cd 166 4 = some (9, .bipush (-3), 2, 0, 0, (-3), [], []) := rfl
theorem k166_5 : az_cd 166 5 = some (11, .ireturn, 1, 0, 0, 0, [], []) := rfl
theorem k166_6 : az_cd 166 6 = some (12, .aload_n 0, 1, 0, 0, 0, [], []) := rfl
theorem k166_7 : az_cd 166 7 = some (13, .getfield 19, 3, 9, 5, 0, [], [756]) := rfl
theorem k166_8 : az_cd 166 8 = some (16, .aload_n 0, 1, 0, 0, 0, [], []) := rfl
theorem k166_9 : az_cd 166 9 = some (17, .getfield 124, 3, 9, 6, 0, [], [757]) := rfl
theorem k166_10 : az_cd 166 10 = some (20, .iload_n 1, 1, 0, 0, 0, [], []) := rfl
theorem k166_11 : az_cd 166 11 = some (21, .castore, 1, 0, 0, 0, [], []) := rfl
theorem k166_12 : az_cd 166 12 = some (22, .aload_n 0, 1, 0, 0, 0, [], []) := rfl
theorem k166_13 : az_cd 166 13 = some (23, .dup, 1, 0, 0, 0, [], []) := rfl
theorem k166_14 : az_cd 166 14 = some (24, .getfield 124, 3, 9, 6, 0, [], [757]) := rfl
theorem k166_15 : az_cd 166 15 = some (27, .iconst 1, 1, 0, 0, 1, [], []) := rfl
theorem k166_16 : az_cd 166 16 = some (28, .iadd, 1, 0, 0, 0, [], []) := rfl
theorem k166_17 : az_cd 166 17 = some (29, .putfield 124, 3, 9, 6, 0, [], [757]) := rfl
theorem k166_18 : az_cd 166 18 = some (32, .aload_n 0, 1, 0, 0, 0, [], []) := rfl
theorem k166_19 : az_cd 166 19 = some (33, .getfield 124, 3, 9, 6, 0, [], [757]) := rfl
theorem k166_20 : az_cd 166 20 = some (36, .ireturn, 1, 0, 0, 0, [], []) := rfl
theorem k167_0 : az_cd 167 0 = some (0, .aload_n 0, 1, 0, 0, 0, [], []) := rfl
theorem k167_1 : az_cd 167 1 = some (1, .getfield 124, 3, 9, 6, 0, [], [757]) := rfl
theorem k167_2 : az_cd 167 2 = some (4, .istore_n 1, 1, 0, 0, 0, [], []) := rfl
theorem k167_3 : az_cd 167 3 = some (5, .aload_n 0, 1, 0, 0, 0, [], []) := rfl
theorem k167_4 : az_cd 167 4 = some (6, .iconst 0, 1, 0, 0, 0, [], []) := rfl
theorem k167_5 : az_cd 167 5 = some (7, .putfield 124, 3, 9, 6, 0, [], [757]) := rfl
theorem k167_6 : az_cd 167 6 = some (10, .iload_n 1, 1, 0, 0, 0, [], []) := rfl
theorem k167_7 : az_cd 167 7 = some (11, .ireturn, 1, 0, 0, 0, [], []) := rfl
theorem k168_0 : az_cd 168 0 = some (0, .aload_n 0, 1, 0, 0, 0, [], []) := rfl
theorem k168_1 : az_cd 168 1 = some (1, .getfield 127, 3, 9, 7, 0, [], [758]) := rfl
theorem k168_2 : az_cd 168 2 = some (4, .aload_n 0, 1, 0, 0, 0, [], []) := rfl
theorem k168_3 : az_cd 168 3 = some (5, .getfield 124, 3, 9, 6, 0, [], [757]) := rfl
theorem k168_4 : az_cd 168 4 = some (8, .if_icmp .ge 24, 3, 16, 0, 0, [], []) := rfl
theorem k168_5 : az_cd 168 5 = some (11, .aload_n 0, 1, 0, 0, 0, [], []) := rfl
theorem k168_6 : az_cd 168 6 = some (12, .getfield 19, 3, 9, 5, 0, [], [756]) := rfl
theorem k168_7 : az_cd 168 7 = some (15, .aload_n 0, 1, 0, 0, 0, [], []) := rfl
theorem k168_8 : az_cd 168 8 = some (16, .getfield 127, 3, 9, 7, 0, [], [758]) := rfl
theorem k168_9 : az_cd 168 9 = some (19, .caload, 1, 0, 0, 0, [], []) := rfl
theorem k168_10 : az_cd 168 10 = some (20, .iload_n 1, 1, 0, 0, 0, [], []) := rfl
theorem k168_11 : az_cd 168 11 = some (21, .iload_n 2, 1, 0, 0, 0, [], []) := rfl
theorem k168_12 : az_cd 168 12 = some (22, .invokestatic 26, 3, 128, 3, 0, [], [789, 790, 51, 791]) := rfl
theorem k168_13 : az_cd 168 13 = some (25, .ifCond .eq 7, 3, 16, 0, 0, [], []) := rfl
theorem k168_14 : az_cd 168 14 = some (28, .iconst 1, 1, 0, 0, 1, [], []) := rfl
theorem k168_15 : az_cd 168 15 = some (29, .goto 4, 3, 17, 0, 0, [], []) := rfl
theorem k168_16 : az_cd 168 16 = some (32, .iconst 0, 1, 0, 0, 0, [], []) := rfl
theorem k168_17 : az_cd 168 17 = some (33, .ireturn, 1, 0, 0, 0, [], []) := rfl
theorem k169_0 : az_cd 169 0 = some (0, .aload_n 0, 1, 0, 0, 0, [], []) := rfl
theorem k169_1 : az_cd 169 1 = some (1, .iload_n 1, 1, 0, 0, 0, [], []) := rfl
theorem k169_2 : az_cd 169 2 = some (2, .iload_n 1, 1, 0, 0, 0, [], []) := rfl
theorem k169_3 : az_cd 169 3 = some (3, .invokevirtual 130, 3, 168, 2, 0, [], [823, 825, 51, 826, 13]) := rfl
theorem k169_4 : az_cd 169 4 = some (6, .istore_n 2, 1, 0, 0, 0, [], []) := rfl
theorem k169_5 : az_cd 169 5 = some (7, .aload_n 0, 1, 0, 0, 0, [], []) := rfl
theorem k169_6 : az_cd 169 6 = some (8, .dup, 1, 0, 0, 0, [], []) := rfl
theorem k169_7 : az_cd 169 7 = some (9, .getfield 127, 3, 9, 7, 0, [], [758]) := rfl
theorem k169_8 : az_cd 169 8 = some (12, .iload_n 2, 1, 0, 0, 0, [], []) := rfl
theorem k169_9 : az_cd 169 9 = some (13, .ifCond .eq 7, 3, 12, 0, 0, [], []) := rfl
theorem k169_10 : az_cd 169 10 = some (16, .iconst 1, 1, 0, 0, 1, [], []) := rfl
theorem k169_11 : az_cd 169 11 = some (17, .goto 4, 3, 13, 0, 0, [], []) := rfl
theorem k169_12 : az_cd 169 12 = some (20, .iconst 0, 1, 0, 0, 0, [], []) := rfl
theorem k169_13 : az_cd 169 13 = some (21, .iadd, 1, 0, 0, 0, [], []) := rfl
theorem k169_14 : az_cd 169 14 = some (22, .putfield 127, 3, 9, 7, 0, [], [758]) := rfl
theorem k169_15 : az_cd 169 15 = some (25, .iload_n 2, 1, 0, 0, 0, [], []) := rfl
theorem k169_16 : az_cd 169 16 = some (26, .ireturn, 1, 0, 0, 0, [], []) := rfl
theorem k170_0 : az_cd 170 0 = some (0, .aload_n 0, 1, 0, 0, 0, [], []) := rfl
theorem k170_1 : az_cd 170 1 = some (1, .bipush 48, 2, 0, 0, 48, [], []) := rfl
theorem k170_2 : az_cd 170 2 = some (3, .bipush 55, 2, 0, 0, 55, [], []) := rfl
theorem k170_3 : az_cd 170 3 = some (5, .invokevirtual 130, 3, 168, 2, 0, [], [823, 825, 51, 826, 13]) := rfl
theorem k170_4 : az_cd 170 4 = some (8, .ifCond .ne 5, 3, 7, 0, 0, [], []) := rfl
theorem k170_5 : az_cd 170 5 = some (11, .iconst 0, 1, 0, 0, 0, [], []) := rfl
theorem k170_6 : az_cd 170 6 = some (12, .ireturn, 1, 0, 0, 0, [], []) := rfl
theorem k170_7 : az_cd 170 7 = some (13, .aload_n 0, 1, 0, 0, 0, [], []) := rfl
theorem k170_8 : az_cd 170 8 = some (14, .getfield 23, 3, 9, 8, 0, [], [759]) := rfl
theorem k170_9 : az_cd 170 9 = some (17, .iconst 2, 1, 0, 0, 2, [], []) := rfl
theorem k170_10 : az_cd 170 10 = some (18, .aload_n 0, 1, 0, 0, 0, [], []) := rfl
theorem k170_11 : az_cd 170 11 = some (19, .getfield 82, 3, 9, 9, 0, [], [760]) := rfl
theorem k170_12 : az_cd 170 12 = some (22, .imul, 1, 0, 0, 0, [], []) := rfl
theorem k170_13 : az_cd 170 13 = some (23, .aload_n 0, 1, 0, 0, 0, [], []) := rfl
theorem k170_14 : az_cd 170 14 = some (24, .getfield 19, 3, 9, 5, 0, [], [756]) := rfl
theorem k170_15 : az_cd 170 15 = some (27, .aload_n 0, 1, 0, 0, 0, [], []) := rfl
theorem k170_16 : az_cd 170 16 = some (28, .getfield 127, 3, 9, 7, 0, [], [758]) := rfl
theorem k170_17 : az_cd 170 17 = some (31, .caload, 1, 0, 0, 0, [], []) := rfl
theorem k170_18 : az_cd 170 18 = some (32, .bipush 48, 2, 0, 0, 48, [], []) := rfl
theorem k170_19 : az_cd 170 19 = some (34, .isub, 1, 0, 0, 0, [], []) := rfl
theorem k170_20 : az_cd 170 20 = some (35, .iastore, 1, 0, 0, 0, [], []) := rfl
theorem k170_21 : az_cd 170 21 = some (36, .aload_n 0, 1, 0, 0, 0, [], []) := rfl
theorem k170_22 : az_cd 170 22 = some (37, .dup, 1, 0, 0, 0, [], []) := rfl
theorem k170_23 : az_cd 170 23 = some (38, .getfield 127, 3, 9, 7, 0, [], [758]) := rfl
theorem k170_24 : az_cd 170 24 = some (41, .iconst 1, 1, 0, 0, 1, [], []) := rfl
theorem k170_25 : az_cd 170 25 = some (42, .iadd, 1, 0, 0, 0, [], []) := rfl
theorem k170_26 : az_cd 170 26 = some (43, .putfield 127, 3, 9, 7, 0, [], [758]) := rfl
theorem k170_27 : az_cd 170 27 = some (46, .aload_n 0, 1, 0, 0, 0, [], []) := rfl
theorem k170_28 : az_cd 170 28 = some (47, .getfield 23, 3, 9, 8, 0, [], [759]) := rfl
theorem k170_29 : az_cd 170 29 = some (50, .iconst 2, 1, 0, 0, 2, [], []) := rfl
theorem k170_30 : az_cd 170 30 = some (51, .aload_n 0, 1, 0, 0, 0, [], []) := rfl
theorem k170_31 : az_cd 170 31 = some (52, .getfield 82, 3, 9, 9, 0, [], [760]) := rfl
theorem k170_32 : az_cd 170 32 = some (55, .imul, 1, 0, 0, 0, [], []) := rfl
theorem k170_33 : az_cd 170 33 = some (56, .iconst 1, 1, 0, 0, 1, [], []) := rfl
theorem k170_34 : az_cd 170 34 = some (57, .iadd, 1, 0, 0, 0, [], []) := rfl
theorem k170_35 : az_cd 170 35 = some (58, .bipush (-6), 2, 0, 0, (-6), [], []) := rfl
theorem k170_36 : az_cd 170 36 = some (60, .iastore, 1, 0, 0, 0, [], []) := rfl
theorem k170_37 : az_cd 170 37 = some (61, .aload_n 0, 1, 0, 0, 0, [], []) := rfl
theorem k170_38 : az_cd 170 38 = some (62, .bipush 45, 2, 0, 0, 45, [], []) := rfl
theorem k170_39 : az_cd 170 39 = some (64, .invokevirtual 133, 3, 169, 1, 0, [], [827, 829, 51, 830, 14]) := rfl
theorem k170_40 : az_cd 170 40 = some (67, .ifCond .eq 5, 3, 43, 0, 0, [], []) := rfl
theorem k170_41 : az_cd 170 41 = some (70, .iconst 1, 1, 0, 0, 1, [], []) := rfl
theorem k170_42 : az_cd 170 42 = some (71, .ireturn, 1, 0, 0, 0, [], []) := rfl
theorem k170_43 : az_cd 170 43 = some (72, .aload_n 0, 1, 0, 0, 0, [], []) := rfl
theorem k170_44 : az_cd 170 44 = some (73, .bipush 61, 2, 0, 0, 61, [], []) := rfl
theorem k170_45 : az_cd 170 45 = some (75, .invokevirtual 133, 3, 169, 1, 0, [], [827, 829, 51, 830, 14]) := rfl
theorem k170_46 : az_cd 170 46 = some (78, .ifCond .eq 14, 3, 52, 0, 0, [], []) := rfl
theorem k170_47 : az_cd 170 47 = some (81, .aload_n 0, 1, 0, 0, 0, [], []) := rfl
theorem k170_48 : az_cd 170 48 = some (82, .bipush 48, 2, 0, 0, 48, [], []) := rfl
theorem k170_49 : az_cd 170 49 = some (84, .bipush 57, 2, 0, 0, 57, [], []) := rfl
theorem k170_50 : az_cd 170 50 = some (86, .invokevirtual 130, 3, 168, 2, 0, [], [823, 825, 51, 826, 13]) := rfl
theorem k170_51 : az_cd 170 51 = some (89, .ifCond .ne 5, 3, 54, 0, 0, [], []) := rfl
theorem k170_52 : az_cd 170 52 = some (92, .iconst 0, 1, 0, 0, 0, [], []) := rfl
theorem k170_53 : az_cd 170 53 = some (93, .ireturn, 1, 0, 0, 0, [], []) := rfl
theorem k170_54 : az_cd 170 54 = some (94, .aload_n 0, 1, 0, 0, 0, [], []) := rfl
theorem k170_55 : az_cd 170 55 = some (95, .getfield 19, 3, 9, 5, 0, [], [756]) := rfl
theorem k170_56 : az_cd 170 56 = some (98, .aload_n 0, 1, 0, 0, 0, [], []) := rfl
theorem k170_57 : az_cd 170 57 = some (99, .getfield 127, 3, 9, 7, 0, [], [758]) := rfl
theorem k170_58 : az_cd 170 58 = some (102, .caload, 1, 0, 0, 0, [], []) := rfl
theorem k170_59 : az_cd 170 59 = some (103, .bipush 48, 2, 0, 0, 48, [], []) := rfl
theorem k170_60 : az_cd 170 60 = some (105, .isub, 1, 0, 0, 0, [], []) := rfl
theorem k170_61 : az_cd 170 61 = some (106, .istore_n 1, 1, 0, 0, 0, [], []) := rfl
theorem k170_62 : az_cd 170 62 = some (107, .aload_n 0, 1, 0, 0, 0, [], []) := rfl
theorem k170_63 : az_cd 170 63 = some (108, .dup, 1, 0, 0, 0, [], []) := rfl
theorem k170_64 : az_cd 170 64 = some (109, .getfield 127, 3, 9, 7, 0, [], [758]) := rfl
theorem k170_65 : az_cd 170 65 = some (112, .iconst 1, 1, 0, 0, 1, [], []) := rfl
theorem k170_66 : az_cd 170 66 = some (113, .iadd, 1, 0, 0, 0, [], []) := rfl
theorem k170_67 : az_cd 170 67 = some (114, .putfield 127, 3, 9, 7, 0, [], [758]) := rfl
theorem k170_68 : az_cd 170 68 = some (117, .iload_n 1, 1, 0, 0, 0, [], []) := rfl
theorem k170_69 : az_cd 170 69 = some (118, .ifCond .le 51, 3, 97, 0, 0, [], []) := rfl
theorem k170_70 : az_cd 170 70 = some (121, .iload_n 1, 1, 0, 0, 0, [], []) := rfl
theorem k170_71 : az_cd 170 71 = some (122, .bipush 100, 2, 0, 0, 100, [], []) := rfl
theorem k170_72 : az_cd 170 72 = some (124, .if_icmp .ge 45, 3, 97, 0, 0, [], []) := rfl
theorem k170_73 : az_cd 170 73 = some (127, .aload_n 0, 1, 0, 0, 0, [], []) := rfl
theorem k170_74 : az_cd 170 74 = some (128, .bipush 48, 2, 0, 0, 48, [], []) := rfl
theorem k170_75 : az_cd 170 75 = some (130, .bipush 57, 2, 0, 0, 57, [], []) := rfl
theorem k170_76 : az_cd 170 76 = some (132, .invokevirtual 130, 3, 168, 2, 0, [], [823, 825, 51, 826, 13]) := rfl
theorem k170_77 : az_cd 170 77 = some (135, .ifCond .eq 34, 3, 97, 0, 0, [], []) := rfl
theorem k170_78 : az_cd 170 78 = some (138, .bipush 10, 2, 0, 0, 10, [], []) := rfl
theorem k170_79 : az_cd 170 79 = some (140, .iload_n 1, 1, 0, 0, 0, [], []) := rfl
theorem k170_80 : az_cd 170 80 = some (141, .imul, 1, 0, 0, 0, [], []) := rfl
theorem k170_81 : az_cd 170 81 = some (142, .aload_n 0, 1, 0, 0, 0, [], []) := rfl
theorem k170_82 : az_cd 170 82 = some (143, .getfield 19, 3, 9, 5, 0, [], [756]) := rfl
theorem k170_83 : az_cd 170 83 = some (146, .aload_n 0, 1, 0, 0, 0, [], []) := rfl
theorem k170_84 : az_cd 170 84 = some (147, .getfield 127, 3, 9, 7, 0, [], [758]) := rfl
theorem k170_85 : az_cd 170 85 = some (150, .caload, 1, 0, 0, 0, [], []) := rfl
theorem k170_86 : az_cd 170 86 = some (151, .iadd, 1, 0, 0, 0, [], []) := rfl
theorem k170_87 : az_cd 170 87 = some (152, .bipush 48, 2, 0, 0, 48, [], []) := rfl
theorem k170_88 : az_cd 170 88 = some (154, .isub, 1, 0, 0, 0, [], []) := rfl
theorem k170_89 : az_cd 170 89 = some (155, .istore_n 1, 1, 0, 0, 0, [], []) := rfl
theorem k170_90 : az_cd 170 90 = some (156, .aload_n 0, 1, 0, 0, 0, [], []) := rfl
theorem k170_91 : az_cd 170 91 = some (157, .dup, 1, 0, 0, 0, [], []) := rfl
theorem k170_92 : az_cd 170 92 = some (158, .getfield 127, 3, 9, 7, 0, [], [758]) := rfl
theorem k170_93 : az_cd 170 93 = some (161, .iconst 1, 1, 0, 0, 1, [], []) := rfl
theorem k170_94 : az_cd 170 94 = some (162, .iadd, 1, 0, 0, 0, [], []) := rfl
theorem k170_95 : az_cd 170 95 = some (163, .putfield 127, 3, 9, 7, 0, [], [758]) := rfl
theorem k170_96 : az_cd 170 96 = some (166, .goto (-49), 3, 68, 0, 0, [], []) := rfl
theorem k170_97 : az_cd 170 97 = some (169, .aload_n 0, 1, 0, 0, 0, [], []) := rfl
theorem k170_98 : az_cd 170 98 = some (170, .getfield 23, 3, 9, 8, 0, [], [759]) := rfl
theorem k170_99 : az_cd 170 99 = some (173, .iconst 2, 1, 0, 0, 2, [], []) := rfl
theorem k170_100 : az_cd 170 100 = some (174, .aload_n 0, 1, 0, 0, 0, [], []) := rfl
theorem k170_101 : az_cd 170 101 = some (175, .getfield 82, 3, 9, 9, 0, [], [760]) := rfl
theorem k170_102 : az_cd 170 102 = some (178, .imul, 1, 0, 0, 0, [], []) := rfl
theorem k170_103 : az_cd 170 103 = some (179, .iconst 1, 1, 0, 0, 1, [], []) := rfl
theorem k170_104 : az_cd 170 104 = some (180, .iadd, 1, 0, 0, 0, [], []) := rfl
theorem k170_105 : az_cd 170 105 = some (181, .iload_n 1, 1, 0, 0, 0, [], []) := rfl
theorem k170_106 : az_cd 170 106 = some (182, .iastore, 1, 0, 0, 0, [], []) := rfl
theorem k170_107 : az_cd 170 107 = some (183, .iconst 1, 1, 0, 0, 1, [], []) := rfl
theorem k170_108 : az_cd 170 108 = some (184, .ireturn, 1, 0, 0, 0, [], []) := rfl
theorem k171_0 : az_cd 171 0 = some (0, .aload_n 0, 1, 0, 0, 0, [], []) := rfl
theorem k171_1 : az_cd 171 1 = some (1, .iconst 0, 1, 0, 0, 0, [], []) := rfl
theorem k171_2 : az_cd 171 2 = some (2, .putfield 127, 3, 9, 7, 0, [], [758]) := rfl
theorem k171_3 : az_cd 171 3 = some (5, .aload_n 0, 1, 0, 0, 0, [], []) := rfl
theorem k171_4 : az_cd 171 4 = some (6, .iconst 0, 1, 0, 0, 0, [], []) := rfl
theorem k171_5 : az_cd 171 5 = some (7, .putfield 82, 3, 9, 9, 0, [], [760]) := rfl
theorem k171_6 : az_cd 171 6 = some (10, .iconst 1, 1, 0, 0, 1, [], []) := rfl
theorem k171_7 : az_cd 171 7 = some (11, .istore_n 1, 1, 0, 0, 0, [], []) := rfl
theorem k171_8 : az_cd 171 8 = some (12, .iload_n 1, 1, 0, 0, 0, [], []) := rfl
theorem k171_9 : az_cd 171 9 = some (13, .ifCond .eq 35, 3, 27, 0, 0, [], []) := rfl
theorem k171_10 : az_cd 171 10 = some (16, .aload_n 0, 1, 0, 0, 0, [], []) := rfl
theorem k171_11 : az_cd 171 11 = some (17, .invokevirtual 136, 3, 170, 0, 0, [], [819, 821, 51, 822, 12]) := rfl
theorem k171_12 : az_cd 171 12 = some (20, .ifCond .ne 8, 3, 16, 0, 0, [], []) := rfl
theorem k171_13 : az_cd 171 13 = some (23, .aload_n 0, 1, 0, 0, 0, [], []) := rfl
theorem k171_14 : az_cd 171 14 = some (24, .getfield 127, 3, 9, 7, 0, [], [758]) := rfl
theorem k171_15 : az_cd 171 15 = some (27, .ireturn, 1, 0, 0, 0, [], []) := rfl
theorem k171_16 : az_cd 171 16 = some (28, .aload_n 0, 1, 0, 0, 0, [], []) := rfl
theorem k171_17 : az_cd 171 17 = some (29, .dup, 1, 0, 0, 0, [], []) := rfl
theorem k171_18 : az_cd 171 18 = some (30, .getfield 82, 3, 9, 9, 0, [], [760]) := rfl
theorem k171_19 : az_cd 171 19 = some (33, .iconst 1, 1, 0, 0, 1, [], []) := rfl
theorem k171_20 : az_cd 171 20 = some (34, .iadd, 1, 0, 0, 0, [], []) := rfl
theorem k171_21 : az_cd 171 21 = some (35, .putfield 82, 3, 9, 9, 0, [], [760]) := rfl
theorem k171_22 : az_cd 171 22 = some (38, .aload_n 0, 1, 0, 0, 0, [], []) := rfl
theorem k171_23 : az_cd 171 23 = some (39, .bipush 44, 2, 0, 0, 44, [], []) := rfl
theorem k171_24 : az_cd 171 24 = some (41, .invokevirtual 133, 3, 169, 1, 0, [], [827, 829, 51, 830, 14]) := rfl
theorem k171_25 : az_cd 171 25 = some (44, .istore_n 1, 1, 0, 0, 0, [], []) := rfl
theorem k171_26 : az_cd 171 26 = some (45, .goto (-33), 3, 8, 0, 0, [], []) := rfl
theorem k171_27 : az_cd 171 27 = some (48, .aload_n 0, 1, 0, 0, 0, [], []) := rfl
theorem k171_28 : az_cd 171 28 = some (49, .getfield 127, 3, 9, 7, 0, [], [758]) := rfl
theorem k171_29 : az_cd 171 29 = some (52, .aload_n 0, 1, 0, 0, 0, [], []) := rfl
theorem k171_30 : az_cd 171 30 = some (53, .getfield 124, 3, 9, 6, 0, [], [757]) := rfl
theorem k171_31 : az_cd 171 31 = some (56, .if_icmp .ne 8, 3, 34, 0, 0, [], []) := rfl
theorem k171_32 : az_cd 171 32 = some (59, .bipush (-5), 2, 0, 0, (-5), [], []) := rfl
theorem k171_33 : az_cd 171 33 = some (61, .goto 7, 3, 36, 0, 0, [], []) := rfl
theorem k171_34 : az_cd 171 34 = some (64, .aload_n 0, 1, 0, 0, 0, [], []) := rfl
theorem k171_35 : az_cd 171 35 = some (65, .getfield 127, 3, 9, 7, 0, [], [758]) := rfl
theorem k171_36 : az_cd 171 36 = some (68, .ireturn, 1, 0, 0, 0, [], []) := rfl
theorem k172_0 : az_cd 172 0 = some (0, .aload_n 0, 1, 0, 0, 0, [], []) := rfl
theorem k172_1 : az_cd 172 1 = some (1, .getfield 30, 3, 9, 2, 0, [], [753]) := rfl
theorem k172_2 : az_cd 172 2 = some (4, .ifCond .ne 6, 3, 5, 0, 0, [], []) := rfl
theorem k172_3 : az_cd 172 3 = some (7, .bipush (-5), 2, 0, 0, (-5), [], []) := rfl
theorem k172_4 : az_cd 172 4 = some (9, .ireturn, 1, 0, 0, 0, [], []) := rfl
theorem k172_5 : az_cd 172 5 = some (10, .aload_n 0, 1, 0, 0, 0, [], []) := rfl
theorem k172_6 : az_cd 172 6 = some (11, .dup, 1, 0, 0, 0, [], []) := rfl
theorem k172_7 : az_cd 172 7 = some (12, .getfield 30, 3, 9, 2, 0, [], [753]) := rfl
theorem k172_8 : az_cd 172 8 = some (15, .iconst 1, 1, 0, 0, 1, [], []) := rfl
theorem k172_9 : az_cd 172 9 = some (16, .isub, 1, 0, 0, 0, [], []) := rfl
theorem k172_10 : az_cd 172 10 = some (17, .putfield 30, 3, 9, 2, 0, [], [753]) := rfl
theorem k172_11 : az_cd 172 11 = some (20, .aload_n 0, 1, 0, 0, 0, [], []) := rfl
theorem k172_12 : az_cd 172 12 = some (21, .getfield 13, 3, 9, 1, 0, [], [752]) := rfl
theorem k172_13 : az_cd 172 13 = some (24, .sipush 153, 3, 0, 0, 153, [], []) := rfl
theorem k172_14 : az_cd 172 14 = some (27, .aload_n 0, 1, 0, 0, 0, [], []) := rfl
theorem k172_15 : az_cd 172 15 = some (28, .getfield 30, 3, 9, 2, 0, [], [753]) := rfl
theorem k172_16 : az_cd 172 16 = some (31, .imul, 1, 0, 0, 0, [], []) := rfl
theorem k172_17 : az_cd 172 17 = some (32, .aload_n 0, 1, 0, 0, 0, [], []) := rfl
theorem k172_18 : az_cd 172 18 = some (33, .getfield 7, 3, 9, 0, 0, [], [751]) := rfl
theorem k172_19 : az_cd 172 19 = some (36, .iconst 0, 1, 0, 0, 0, [], []) := rfl
theorem k172_20 : az_cd 172 20 = some (37, .invokestatic 34, 3, 130, 4, 0, [], [800, 801, 51, 802]) := rfl
theorem k172_21 : az_cd 172 21 = some (40, .aload_n 0, 1, 0, 0, 0, [], []) := rfl
theorem k172_22 : az_cd 172 22 = some (41, .getfield 30, 3, 9, 2, 0, [], [753]) := rfl
theorem k172_23 : az_cd 172 23 = some (44, .ireturn, 1, 0, 0, 0, [], []) := rfl
theorem k173_0 : az_cd 173 0 = some (0, .aload_n 0, 1, 0, 0, 0, [], []) := rfl
theorem k173_1 : az_cd 173 1 = some (1, .getfield 7, 3, 9, 0, 0, [], [751]) := rfl
theorem k173_2 : az_cd 173 2 = some (4, .iconst 0, 1, 0, 0, 0, [], []) := rfl
theorem k173_3 : az_cd 173 3 = some (5, .aload_n 0, 1, 0, 0, 0, [], []) := rfl
theorem k173_4 : az_cd 173 4 = some (6, .getfield 16, 3, 9, 3, 0, [], [754]) := rfl
theorem k173_5 : az_cd 173 5 = some (9, .iconst 0, 1, 0, 0, 0, [], []) := rfl
theorem k173_6 : az_cd 173 6 = some (10, .invokestatic 34, 3, 130, 4, 0, [], [800, 801, 51, 802]) := rfl
theorem k173_7 : az_cd 173 7 = some (13, .aload_n 0, 1, 0, 0, 0, [], []) := rfl
theorem k173_8 : az_cd 173 8 = some (14, .iconst 1, 1, 0, 0, 1, [], []) := rfl
theorem k173_9 : az_cd 173 9 = some (15, .putfield 139, 3, 9, 4, 0, [], [755]) := rfl
theorem k173_10 : az_cd 173 10 = some (18, .aload_n 0, 1, 0, 0, 0, [], []) := rfl
theorem k173_11 : az_cd 173 11 = some (19, .iconst 0, 1, 0, 0, 0, [], []) := rfl
theorem k173_12 : az_cd 173 12 = some (20, .invokevirtual 38, 3, 133, 1, 0, [], [875, 877, 51, 878, 23]) := rfl
theorem k173_13 : az_cd 173 13 = some (23, .ireturn, 1, 0, 0, 0, [], []) := rfl
theorem k174_0 : az_cd 174 0 = some (0, .aload_n 0, 1, 0, 0, 0, [], []) := rfl
theorem k174_1 : az_cd 174 1 = some (1, .getfield 139, 3, 9, 4, 0, [], [755]) := rfl
theorem k174_2 : az_cd 174 2 = some (4, .ifCond .ne 6, 3, 5, 0, 0, [], []) := rfl
theorem k174_3 : az_cd 174 3 = some (7, .bipush (-5), 2, 0, 0, (-5), [], []) := rfl
theorem k174_4 : az_cd 174 4 = some (9, .ireturn, 1, 0, 0, 0, [], []) := rfl
theorem k174_5 : az_cd 174 5 = some (10, .aload_n 0, 1, 0, 0, 0, [], []) := rfl
theorem k174_6 : az_cd 174 6 = some (11, .invokevirtual 65, 3, 131, 0, 0, [], [796, 798, 51, 799, 9]) := rfl
theorem k174_7 : az_cd 174 7 = some (14, .aload_n 0, 1, 0, 0, 0, [], []) := rfl
theorem k174_8 : az_cd 174 8 = some (15, .getfield 16, 3, 9, 3, 0, [], [754]) := rfl
theorem k174_9 : az_cd 174 9 = some (18, .iconst 0, 1, 0, 0, 0, [], []) := rfl
theorem k174_10 : az_cd 174 10 = some (19, .aload_n 0, 1, 0, 0, 0, [], []) := rfl
theorem k174_11 : az_cd 174 11 = some (20, .getfield 7, 3, 9, 0, 0, [], [751]) := rfl
theorem k174_12 : az_cd 174 12 = some (23, .iconst 0, 1, 0, 0, 0, [], []) := rfl
theorem k174_13 : az_cd 174 13 = some (24, .invokestatic 34, 3, 130, 4, 0, [], [800, 801, 51, 802]) := rfl
theorem k174_14 : az_cd 174 14 = some (27, .aload_n 0, 1, 0, 0, 0, [], []) := rfl
theorem k174_15 : az_cd 174 15 = some (28, .iconst 0, 1, 0, 0, 0, [], []) := rfl
theorem k174_16 : az_cd 174 16 = some (29, .invokevirtual 38, 3, 133, 1, 0, [], [875, 877, 51, 878, 23]) := rfl
theorem k174_17 : az_cd 174 17 = some (32, .ireturn, 1, 0, 0, 0, [], []) := rfl
theorem k175_0 : az_cd 175 0 = some (0, .iload_n 1, 1, 0, 0, 0, [], []) := rfl
theorem k175_1 : az_cd 175 1 = some (1, .bipush (-5), 2, 0, 0, (-5), [], []) := rfl
theorem k175_2 : az_cd 175 2 = some (3, .if_icmp .ne 8, 3, 5, 0, 0, [], []) := rfl
theorem k175_3 : az_cd 175 3 = some (6, .bipush (-5), 2, 0, 0, (-5), [], []) := rfl
theorem k175_4 : az_cd 175 4 = some (8, .goto 11, 3, 11, 0, 0, [], []) := rfl
theorem k175_5 : az_cd 175 5 = some (11, .aload_n 0, 1, 0, 0, 0, [], []) := rfl
theorem k175_6 : az_cd 175 6 = some (12, .getfield 7, 3, 9, 0, 0, [], [751]) := rfl
theorem k175_7 : az_cd 175 7 = some (15, .iconst 0, 1, 0, 0, 0, [], []) := rfl
theorem k175_8 : az_cd 175 8 = some (16, .iload_n 1, 1, 0, 0, 0, [], []) := rfl
theorem k175_9 : az_cd 175 9 = some (17, .iadd, 1, 0, 0, 0, [], []) := rfl
theorem k175_10 : az_cd 175 10 = some (18, .iaload, 1, 0, 0, 0, [], []) := rfl
theorem k175_11 : az_cd 175 11 = some (19, .ireturn, 1, 0, 0, 0, [], []) := rfl
theorem k176_0 : az_cd 176 0 = some (0, .iload_n 1, 1, 0, 0, 0, [], []) := rfl
theorem k176_1 : az_cd 176 1 = some (1, .invokestatic 72, 3, 129, 1, 0, [], [786, 787, 51, 788]) := rfl
theorem k176_2 : az_cd 176 2 = some (4, .ifCond .eq 17, 3, 11, 0, 0, [], []) := rfl
theorem k176_3 : az_cd 176 3 = some (7, .aload_n 0, 1, 0, 0, 0, [], []) := rfl
theorem k176_4 : az_cd 176 4 = some (8, .aload_n 0, 1, 0, 0, 0, [], []) := rfl
theorem k176_5 : az_cd 176 5 = some (9, .iconst 2, 1, 0, 0, 2, [], []) := rfl
theorem k176_6 : az_cd 176 6 = some (10, .iload_n 1, 1, 0, 0, 0, [], []) := rfl
theorem k176_7 : az_cd 176 7 = some (11, .iadd, 1, 0, 0, 0, [], []) := rfl
theorem k176_8 : az_cd 176 8 = some (12, .invokevirtual 38, 3, 133, 1, 0, [], [875, 877, 51, 878, 23]) := rfl
theorem k176_9 : az_cd 176 9 = some (15, .invokevirtual 143, 3, 175, 1, 0, [], [966, 968, 51, 969, 34]) := rfl
theorem k176_10 : az_cd 176 10 = some (18, .goto 4, 3, 12, 0, 0, [], []) := rfl
theorem k176_11 : az_cd 176 11 = some (21, .iconst (-1), 1, 0, 0, (-1), [], []) := rfl
theorem k176_12 : az_cd 176 12 = some (22, .ireturn, 1, 0, 0, 0, [], []) := rfl
theorem k177_0 : az_cd 177 0 = some (0, .iload_n 1, 1, 0, 0, 0, [], []) := rfl
theorem k177_1 : az_cd 177 1 = some (1, .invokestatic 72, 3, 129, 1, 0, [], [786, 787, 51, 788]) := rfl
theorem k177_2 : az_cd 177 2 = some (4, .ifCond .ne 5, 3, 5, 0, 0, [], []) := rfl
theorem k177_3 : az_cd 177 3 = some (7, .iconst (-1), 1, 0, 0, (-1), [], []) := rfl
theorem k177_4 : az_cd 177 4 = some (8, .ireturn, 1, 0, 0, 0, [], []) := rfl
theorem k177_5 : az_cd 177 5 = some (9, .aload_n 0, 1, 0, 0, 0, [], []) := rfl
theorem k177_6 : az_cd 177 6 = some (10, .getfield 7, 3, 9, 0, 0, [], [751]) := rfl
theorem k177_7 : az_cd 177 7 = some (13, .bipush 93, 2, 0, 0, 93, [], []) := rfl
theorem k177_8 : az_cd 177 8 = some (15, .iload_n 1, 1, 0, 0, 0, [], []) := rfl
theorem k177_9 : az_cd 177 9 = some (16, .iadd, 1, 0, 0, 0, [], []) := rfl
theorem k177_10 : az_cd 177 10 = some (17, .iaload, 1, 0, 0, 0, [], []) := rfl
theorem k177_11 : az_cd 177 11 = some (18, .istore_n 2, 1, 0, 0, 0, [], []) := rfl
theorem k177_12 : az_cd 177 12 = some (19, .iload_n 2, 1, 0, 0, 0, [], []) := rfl
theorem k177_13 : az_cd 177 13 = some (20, .ifCond .lt 7, 3, 16, 0, 0, [], []) := rfl
theorem k177_14 : az_cd 177 14 = some (23, .iload_n 2, 1, 0, 0, 0, [], []) := rfl
theorem k177_15 : az_cd 177 15 = some (24, .goto 25, 3, 28, 0, 0, [], []) := rfl
theorem k177_16 : az_cd 177 16 = some (27, .iload_n 2, 1, 0, 0, 0, [], []) := rfl
theorem k177_17 : az_cd 177 17 = some (28, .bipush (-6), 2, 0, 0, (-6), [], []) := rfl
theorem k177_18 : az_cd 177 18 = some (30, .if_icmp .ne 8, 3, 21, 0, 0, [], []) := rfl
theorem k177_19 : az_cd 177 19 = some (33, .bipush (-5), 2, 0, 0, (-5), [], []) := rfl
theorem k177_20 : az_cd 177 20 = some (35, .goto 14, 3, 28, 0, 0, [], []) := rfl
theorem k177_21 : az_cd 177 21 = some (38, .aload_n 0, 1, 0, 0, 0, [], []) := rfl
theorem k177_22 : az_cd 177 22 = some (39, .aload_n 0, 1, 0, 0, 0, [], []) := rfl
theorem k177_23 : az_cd 177 23 = some (40, .iconst 2, 1, 0, 0, 2, [], []) := rfl
theorem k177_24 : az_cd 177 24 = some (41, .iload_n 1, 1, 0, 0, 0, [], []) := rfl
theorem k177_25 : az_cd 177 25 = some (42, .iadd, 1, 0, 0, 0, [], []) := rfl
theorem k177_26 : az_cd 177 26 = some (43, .invokevirtual 38, 3, 133, 1, 0, [], [875, 877, 51, 878, 23]) := rfl
theorem k177_27 : az_cd 177 27 = some (46, .invokevirtual 143, 3, 175, 1, 0, [], [966, 968, 51, 969, 34]) := rfl
theorem k177_28 : az_cd 177 28 = some (49, .ireturn, 1, 0, 0, 0, [], []) := rfl
theorem k178_0 : az_cd 178 0 = some (0, .aload_n 0, 1, 0, 0, 0, [], []) := rfl
theorem k178_1 : az_cd 178 1 = some (1, .iload_n 1, 1, 0, 0, 0, [], []) := rfl
theorem k178_2 : az_cd 178 2 = some (2, .invokevirtual 42, 3, 134, 1, 0, [], [887, 889, 51, 890, 26]) := rfl
theorem k178_3 : az_cd 178 3 = some (5, .ifCond .eq 33, 3, 22, 0, 0, [], []) := rfl
theorem k178_4 : az_cd 178 4 = some (8, .iload_n 2, 1, 0, 0, 0, [], []) := rfl
theorem k178_5 : az_cd 178 5 = some (9, .invokestatic 72, 3, 129, 1, 0, [], [786, 787, 51, 788]) := rfl
theorem k178_6 : az_cd 178 6 = some (12, .ifCond .eq 26, 3, 22, 0, 0, [], []) := rfl
theorem k178_7 : az_cd 178 7 = some (15, .aload_n 0, 1, 0, 0, 0, [], []) := rfl
theorem k178_8 : az_cd 178 8 = some (16, .aload_n 0, 1, 0, 0, 0, [], []) := rfl
theorem k178_9 : az_cd 178 9 = some (17, .getfield 7, 3, 9, 0, 0, [], [751]) := rfl
theorem k178_10 : az_cd 178 10 = some (20, .bipush 111, 2, 0, 0, 111, [], []) := rfl
theorem k178_11 : az_cd 178 11 = some (22, .bipush 10, 2, 0, 0, 10, [], []) := rfl
theorem k178_12 : az_cd 178 12 = some (24, .iload_n 1, 1, 0, 0, 0, [], []) := rfl
theorem k178_13 : az_cd 178 13 = some (25, .imul, 1, 0, 0, 0, [], []) := rfl
theorem k178_14 : az_cd 178 14 = some (26, .iadd, 1, 0, 0, 0, [], []) := rfl
theorem k178_15 : az_cd 178 15 = some (27, .iconst 2, 1, 0, 0, 2, [], []) := rfl
theorem k178_16 : az_cd 178 16 = some (28, .iadd, 1, 0, 0, 0, [], []) := rfl
theorem k178_17 : az_cd 178 17 = some (29, .iload_n 2, 1, 0, 0, 0, [], []) := rfl
theorem k178_18 : az_cd 178 18 = some (30, .iadd, 1, 0, 0, 0, [], []) := rfl
theorem k178_19 : az_cd 178 19 = some (31, .iaload, 1, 0, 0, 0, [], []) := rfl
theorem k178_20 : az_cd 178 20 = some (32, .invokevirtual 143, 3, 175, 1, 0, [], [966, 968, 51, 969, 34]) := rfl
theorem k178_21 : az_cd 178 21 = some (35, .goto 4, 3, 23, 0, 0, [], []) := rfl
theorem k178_22 : az_cd 178 22 = some (38, .iconst (-1), 1, 0, 0, (-1), [], []) := rfl
theorem k178_23 : az_cd 178 23 = some (39, .ireturn, 1, 0, 0, 0, [], []) := rfl
theorem k179_0 : az_cd 179 0 = some (0, .iload_n 1, 1, 0, 0, 0, [], []) := rfl
theorem k179_1 : az_cd 179 1 = some (1, .iconst 0, 1, 0, 0, 0, [], []) := rfl
theorem k179_2 : az_cd 179 2 = some (2, .bipush 23, 2, 0, 0, 23, [], []) := rfl
theorem k179_3 : az_cd 179 3 = some (4, .invokestatic 26, 3, 128, 3, 0, [], [789, 790, 51, 791]) := rfl
theorem k179_4 : az_cd 179 4 = some (7, .ifCond .ne 5, 3, 7, 0, 0, [], []) := rfl
theorem k179_5 : az_cd 179 5 = some (10, .iconst (-1), 1, 0, 0, (-1), [], []) := rfl
theorem k179_6 : az_cd 179 6 = some (11, .ireturn, 1, 0, 0, 0, [], []) := rfl
theorem k179_7 : az_cd 179 7 = some (12, .iload_n 2, 1, 0, 0, 0, [], []) := rfl
theorem k179_8 : az_cd 179 8 = some (13, .tableswitch 122 0 7 #[47, 56, 66, 80, 90, 104, 110, 116], 47, 58, 0, 0, [9, 16, 23, 31, 38, 46, 50, 54], []) := rfl
theorem k179_9 : az_cd 179 9 = some (60, .aload_n 0, 1, 0, 0, 0, [], []) := rfl
theorem k179_10 : az_cd 179 10 = some (61, .getfield 7, 3, 9, 0, 0, [], [751]) := rfl
theorem k179_11 : az_cd 179 11 = some (64, .iconst 0, 1, 0, 0, 0, [], []) := rfl
theorem k179_12 : az_cd 179 12 = some (65, .iload_n 1, 1, 0, 0, 0, [], []) := rfl
theorem k179_13 : az_cd 179 13 = some (66, .iadd, 1, 0, 0, 0, [], []) := rfl
theorem k179_14 : az_cd 179 14 = some (67, .iaload, 1, 0, 0, 0, [], []) := rfl
theorem k179_15 : az_cd 179 15 = some (68, .ireturn, 1, 0, 0, 0, [], []) := rfl
theorem k179_16 : az_cd 179 16 = some (69, .aload_n 0, 1, 0, 0, 0, [], []) := rfl
theorem k179_17 : az_cd 179 17 = some (70, .getfield 7, 3, 9, 0, 0, [], [751]) := rfl
theorem k179_18 : az_cd 179 18 = some (73, .bipush 24, 2, 0, 0, 24, [], []) := rfl
theorem k179_19 : az_cd 179 19 = some (75, .iload_n 1, 1, 0, 0, 0, [], []) := rfl
theorem k179_20 : az_cd 179 20 = some (76, .iadd, 1, 0, 0, 0, [], []) := rfl
theorem k179_21 : az_cd 179 21 = some (77, .iaload, 1, 0, 0, 0, [], []) := rfl
theorem k179_22 : az_cd 179 22 = some (78, .ireturn, 1, 0, 0, 0, [], []) := rfl
theorem k179_23 : az_cd 179 23 = some (79, .aload_n 0, 1, 0, 0, 0, [], []) := rfl
theorem k179_24 : az_cd 179 24 = some (80, .iload_n 1, 1, 0, 0, 0, [], []) := rfl
theorem k179_25 : az_cd 179 25 = some (81, .invokevirtual 146, 3, 140, 1, 0, [], [982, 984, 51, 985, 35]) := rfl
theorem k179_26 : az_cd 179 26 = some (84, .ifCond .eq 7, 3, 29, 0, 0, [], []) := rfl
theorem k179_27 : az_cd 179 27 = some (87, .iconst 1, 1, 0, 0, 1, [], []) := rfl
theorem k179_28 : az_cd 179 28 = some (88, .goto 4, 3, 30, 0, 0, [], []) := rfl
theorem k179_29 : az_cd 179 29 = some (91, .iconst 0, 1, 0, 0, 0, [], []) := rfl
theorem k179_30 : az_cd 179 30 = some (92, .ireturn, 1, 0, 0, 0, [], []) := rfl
theorem k179_31 : az_cd 179 31 = some (93, .aload_n 0, 1, 0, 0, 0, [], []) := rfl
theorem k179_32 : az_cd 179 32 = some (94, .getfield 7, 3, 9, 0, 0, [], [751]) := rfl
theorem k179_33 : az_cd 179 33 = some (97, .bipush 48, 2, 0, 0, 48, [], []) := rfl
theorem k179_34 : az_cd 179 34 = some (99, .iload_n 1, 1, 0, 0, 0, [], []) := rfl
theorem k179_35 : az_cd 179 35 = some (100, .iadd, 1, 0, 0, 0, [], []) := rfl
theorem k179_36 : az_cd 179 36 = some (101, .iaload, 1, 0, 0, 0, [], []) := rfl
theorem k179_37 : az_cd 179 37 = some (102, .ireturn, 1, 0, 0, 0, [], []) := rfl
theorem k179_38 : az_cd 179 38 = some (103, .aload_n 0, 1, 0, 0, 0, [], []) := rfl
theorem k179_39 : az_cd 179 39 = some (104, .iload_n 1, 1, 0, 0, 0, [], []) := rfl
theorem k179_40 : az_cd 179 40 = some (105, .invokevirtual 62, 3, 139, 1, 0, [], [867, 869, 51, 870, 21]) := rfl
theorem k179_41 : az_cd 179 41 = some (108, .ifCond .eq 7, 3, 44, 0, 0, [], []) := rfl
theorem k179_42 : az_cd 179 42 = some (111, .iconst 1, 1, 0, 0, 1, [], []) := rfl
theorem k179_43 : az_cd 179 43 = some (112, .goto 4, 3, 45, 0, 0, [], []) := rfl
theorem k179_44 : az_cd 179 44 = some (115, .iconst 0, 1, 0, 0, 0, [], []) := rfl
theorem k179_45 : az_cd 179 45 = some (116, .ireturn, 1, 0, 0, 0, [], []) := rfl
theorem k179_46 : az_cd 179 46 = some (117, .aload_n 0, 1, 0, 0, 0, [], []) := rfl
theorem k179_47 : az_cd 179 47 = some (118, .iload_n 1, 1, 0, 0, 0, [], []) := rfl
theorem k179_48 : az_cd 179 48 = some (119, .invokevirtual 50, 3, 135, 1, 0, [], [871, 873, 51, 874, 22]) := rfl
theorem k179_49 : az_cd 179 49 = some (122, .ireturn, 1, 0, 0, 0, [], []) := rfl
theorem k179_50 : az_cd 179 50 = some (123, .aload_n 0, 1, 0, 0, 0, [], []) := rfl
theorem k179_51 : az_cd 179 51 = some (124, .iload_n 1, 1, 0, 0, 0, [], []) := rfl
theorem k179_52 : az_cd 179 52 = some (125, .invokevirtual 53, 3, 137, 1, 0, [], [879, 881, 51, 882, 24]) := rfl
theorem k179_53 : az_cd 179 53 = some (128, .ireturn, 1, 0, 0, 0, [], []) := rfl
theorem k179_54 : az_cd 179 54 = some (129, .aload_n 0, 1, 0, 0, 0, [], []) := rfl
theorem k179_55 : az_cd 179 55 = some (130, .iload_n 1, 1, 0, 0, 0, [], []) := rfl
theorem k179_56 : az_cd 179 56 = some (131, .invokevirtual 56, 3, 138, 1, 0, [], [891, 893, 51, 894, 27]) := rfl
theorem k179_57 : az_cd 179 57 = some (134, .ireturn, 1, 0, 0, 0, [], []) := rfl
theorem k179_58 : az_cd 179 58 = some (135, .bipush (-2), 2, 0, 0, (-2), [], []) := rfl
theorem k179_59 : az_cd 179 59 = some (137, .ireturn, 1, 0, 0, 0, [], []) := rfl
theorem k180_0 : az_cd 180 0 = some (0, .iconst 0, 1, 0, 0, 0, [], []) := rfl
theorem k180_1 : az_cd 180 1 = some (1, .istore_n 2, 1, 0, 0, 0, [], []) := rfl
theorem k180_2 : az_cd 180 2 = some (2, .iconst 0, 1, 0, 0, 0, [], []) := rfl
theorem k180_3 : az_cd 180 3 = some (3, .istore_n 3, 1, 0, 0, 0, [], []) := rfl
theorem k180_4 : az_cd 180 4 = some (4, .iload_n 3, 1, 0, 0, 0, [], []) := rfl
theorem k180_5 : az_cd 180 5 = some (5, .bipush 8, 2, 0, 0, 8, [], []) := rfl
theorem k180_6 : az_cd 180 6 = some (7, .if_icmp .ge 40, 3, 31, 0, 0, [], []) := rfl
theorem k180_7 : az_cd 180 7 = some (10, .iload_n 2, 1, 0, 0, 0, [], []) := rfl
theorem k180_8 : az_cd 180 8 = some (11, .aload_n 0, 1, 0, 0, 0, [], []) := rfl
theorem k180_9 : az_cd 180 9 = some (12, .getfield 7, 3, 9, 0, 0, [], [751]) := rfl
theorem k180_10 : az_cd 180 10 = some (15, .bipush 72, 2, 0, 0, 72, [], []) := rfl
theorem k180_11 : az_cd 180 11 = some (17, .bipush 10, 2, 0, 0, 10, [], []) := rfl
theorem k180_12 : az_cd 180 12 = some (19, .iload_n 1, 1, 0, 0, 0, [], []) := rfl
theorem k180_13 : az_cd 180 13 = some (20, .imul, 1, 0, 0, 0, [], []) := rfl
theorem k180_14 : az_cd 180 14 = some (21, .iadd, 1, 0, 0, 0, [], []) := rfl
theorem k180_15 : az_cd 180 15 = some (22, .iconst 2, 1, 0, 0, 2, [], []) := rfl
theorem k180_16 : az_cd 180 16 = some (23, .iadd, 1, 0, 0, 0, [], []) := rfl
theorem k180_17 : az_cd 180 17 = some (24, .iload_n 3, 1, 0, 0, 0, [], []) := rfl
theorem k180_18 : az_cd 180 18 = some (25, .iadd, 1, 0, 0, 0, [], []) := rfl
theorem k180_19 : az_cd 180 19 = some (26, .iaload, 1, 0, 0, 0, [], []) := rfl
theorem k180_20 : az_cd 180 20 = some (27, .bipush (-5), 2, 0, 0, (-5), [], []) := rfl
theorem k180_21 : az_cd 180 21 = some (29, .if_icmp .eq 9, 3, 26, 0, 0, [], []) := rfl
theorem k180_22 : az_cd 180 22 = some (32, .iconst 1, 1, 0, 0, 1, [], []) := rfl
theorem k180_23 : az_cd 180 23 = some (33, .iload_n 3, 1, 0, 0, 0, [], []) := rfl
theorem k180_24 : az_cd 180 24 = some (34, .ishl, 1, 0, 0, 0, [], []) := rfl
theorem k180_25 : az_cd 180 25 = some (35, .goto 4, 3, 27, 0, 0, [], []) := rfl
theorem k180_26 : az_cd 180 26 = some (38, .iconst 0, 1, 0, 0, 0, [], []) := rfl
theorem k180_27 : az_cd 180 27 = some (39, .ior, 1, 0, 0, 0, [], []) := rfl
theorem k180_28 : az_cd 180 28 = some (40, .istore_n 2, 1, 0, 0, 0, [], []) := rfl
theorem k180_29 : az_cd 180 29 = some (41, .iinc 3 1, 3, 0, 0, 1, [], []) := rfl
theorem k180_30 : az_cd 180 30 = some (44, .goto (-40), 3, 4, 0, 0, [], []) := rfl
theorem k180_31 : az_cd 180 31 = some (47, .iload_n 2, 1, 0, 0, 0, [], []) := rfl
theorem k180_32 : az_cd 180 32 = some (48, .ireturn, 1, 0, 0, 0, [], []) := rfl
theorem k181_0 : az_cd 181 0 = some (0, .iload_n 1, 1, 0, 0, 0, [], []) := rfl
theorem k181_1 : az_cd 181 1 = some (1, .iconst 0, 1, 0, 0, 0, [], []) := rfl
theorem k181_2 : az_cd 181 2 = some (2, .iconst 1, 1, 0, 0, 1, [], []) := rfl
theorem k181_3 : az_cd 181 3 = some (3, .invokestatic 26, 3, 128, 3, 0, [], [789, 790, 51, 791]) := rfl
theorem k181_4 : az_cd 181 4 = some (6, .ifCond .ne 5, 3, 7, 0, 0, [], []) := rfl
theorem k181_5 : az_cd 181 5 = some (9, .iconst (-1), 1, 0, 0, (-1), [], []) := rfl
theorem k181_6 : az_cd 181 6 = some (10, .ireturn, 1, 0, 0, 0, [], []) := rfl
theorem k181_7 : az_cd 181 7 = some (11, .iload_n 2, 1, 0, 0, 0, [], []) := rfl
theorem k181_8 : az_cd 181 8 = some (12, .bipush 10, 2, 0, 0, 10, [], []) := rfl
theorem k181_9 : az_cd 181 9 = some (14, .bipush 17, 2, 0, 0, 17, [], []) := rfl
theorem k181_10 : az_cd 181 10 = some (16, .invokestatic 26, 3, 128, 3, 0, [], [789, 790, 51, 791]) := rfl
theorem k181_11 : az_cd 181 11 = some (19, .ifCond .eq 23, 3, 27, 0, 0, [], []) := rfl
theorem k181_12 : az_cd 181 12 = some (22, .aload_n 0, 1, 0, 0, 0, [], []) := rfl
theorem k181_13 : az_cd 181 13 = some (23, .getfield 7, 3, 9, 0, 0, [], [751]) := rfl
theorem k181_14 : az_cd 181 14 = some (26, .bipush 72, 2, 0, 0, 72, [], []) := rfl
theorem k181_15 : az_cd 181 15 = some (28, .bipush 10, 2, 0, 0, 10, [], []) := rfl
theorem k181_16 : az_cd 181 16 = some (30, .iload_n 1, 1, 0, 0, 0, [], []) := rfl
theorem k181_17 : az_cd 181 17 = some (31, .imul, 1, 0, 0, 0, [], []) := rfl
theorem k181_18 : az_cd 181 18 = some (32, .iadd, 1, 0, 0, 0, [], []) := rfl
theorem k181_19 : az_cd 181 19 = some (33, .iconst 2, 1, 0, 0, 2, [], []) := rfl
theorem k181_20 : az_cd 181 20 = some (34, .iadd, 1, 0, 0, 0, [], []) := rfl
theorem k181_21 : az_cd 181 21 = some (35, .iload_n 2, 1, 0, 0, 0, [], []) := rfl
theorem k181_22 : az_cd 181 22 = some (36, .iadd, 1, 0, 0, 0, [], []) := rfl
theorem k181_23 : az_cd 181 23 = some (37, .bipush 10, 2, 0, 0, 10, [], []) := rfl
theorem k181_24 : az_cd 181 24 = some (39, .isub, 1, 0, 0, 0, [], []) := rfl
theorem k181_25 : az_cd 181 25 = some (40, .iaload, 1, 0, 0, 0, [], []) := rfl
theorem k181_26 : az_cd 181 26 = some (41, .ireturn, 1, 0, 0, 0, [], []) := rfl
theorem k181_27 : az_cd 181 27 = some (42, .iload_n 2, 1, 0, 0, 0, [], []) := rfl
theorem k181_28 : az_cd 181 28 = some (43, .tableswitch 67 0 3 #[29, 29, 44, 61], 29, 54, 0, 0, [29, 29, 40, 50], []) := rfl
theorem k181_29 : az_cd 181 29 = some (72, .aload_n 0, 1, 0, 0, 0, [], []) := rfl
theorem k181_30 : az_cd 181 30 = some (73, .getfield 7, 3, 9, 0, 0, [], [751]) := rfl
theorem k181_31 : az_cd 181 31 = some (76, .bipush 72, 2, 0, 0, 72, [], []) := rfl
theorem k181_32 : az_cd 181 32 = some (78, .bipush 10, 2, 0, 0, 10, [], []) := rfl
theorem k181_33 : az_cd 181 33 = some (80, .iload_n 1, 1, 0, 0, 0, [], []) := rfl
theorem k181_34 : az_cd 181 34 = some (81, .imul, 1, 0, 0, 0, [], []) := rfl
theorem k181_35 : az_cd 181 35 = some (82, .iadd, 1, 0, 0, 0, [], []) := rfl
theorem k181_36 : az_cd 181 36 = some (83, .iload_n 2, 1, 0, 0, 0, [], []) := rfl
theorem k181_37 : az_cd 181 37 = some (84, .iadd, 1, 0, 0, 0, [], []) := rfl
theorem k181_38 : az_cd 181 38 = some (85, .iaload, 1, 0, 0, 0, [], []) := rfl
theorem k181_39 : az_cd 181 39 = some (86, .ireturn, 1, 0, 0, 0, [], []) := rfl
theorem k181_40 : az_cd 181 40 = some (87, .aload_n 0, 1, 0, 0, 0, [], []) := rfl
theorem k181_41 : az_cd 181 41 = some (88, .getfield 7, 3, 9, 0, 0, [], [751]) := rfl
theorem k181_42 : az_cd 181 42 = some (91, .bipush 92, 2, 0, 0, 92, [], []) := rfl
theorem k181_43 : az_cd 181 43 = some (93, .iaload, 1, 0, 0, 0, [], []) := rfl
theorem k181_44 : az_cd 181 44 = some (94, .iload_n 1, 1, 0, 0, 0, [], []) := rfl
theorem k181_45 : az_cd 181 45 = some (95, .if_icmp .ne 7, 3, 48, 0, 0, [], []) := rfl
theorem k181_46 : az_cd 181 46 = some (98, .iconst 1, 1, 0, 0, 1, [], []) := rfl
theorem k181_47 : az_cd 181 47 = some (99, .goto 4, 3, 49, 0, 0, [], []) := rfl
theorem k181_48 : az_cd 181 48 = some (102, .iconst 0, 1, 0, 0, 0, [], []) := rfl
theorem k181_49 : az_cd 181 49 = some (103, .ireturn, 1, 0, 0, 0, [], []) := rfl
theorem k181_50 : az_cd 181 50 = some (104, .aload_n 0, 1, 0, 0, 0, [], []) := rfl
theorem k181_51 : az_cd 181 51 = some (105, .iload_n 1, 1, 0, 0, 0, [], []) := rfl
theorem k181_52 : az_cd 181 52 = some (106, .invokevirtual 149, 3, 180, 1, 0, [], [990, 992, 51, 993, 36]) := rfl
theorem k181_53 : az_cd 181 53 = some (109, .ireturn, 1, 0, 0, 0, [], []) := rfl
theorem k181_54 : az_cd 181 54 = some (110, .bipush (-2), 2, 0, 0, (-2), [], []) := rfl
theorem k181_55 : az_cd 181 55 = some (112, .ireturn, 1, 0, 0, 0, [], []) := rfl
theorem k182_0 : az_cd 182 0 = some (0, .iload_n 1, 1, 0, 0, 0, [], []) := rfl
theorem k182_1 : az_cd 182 1 = some (1, .ifCond .lt 12, 3, 7, 0, 0, [], []) := rfl
theorem k182_2 : az_cd 182 2 = some (4, .iload_n 2, 1, 0, 0, 0, [], []) := rfl
theorem k182_3 : az_cd 182 3 = some (5, .iconst 0, 1, 0, 0, 0, [], []) := rfl
theorem k182_4 : az_cd 182 4 = some (6, .iconst 1, 1, 0, 0, 1, [], []) := rfl
theorem k182_5 : az_cd 182 5 = some (7, .invokestatic 26, 3, 128, 3, 0, [], [789, 790, 51, 791]) := rfl
theorem k182_6 : az_cd 182 6 = some (10, .ifCond .ne 6, 3, 9, 0, 0, [], []) := rfl
theorem k182_7 : az_cd 182 7 = some (13, .bipush (-2), 2, 0, 0, (-2), [], []) := rfl
theorem k182_8 : az_cd 182 8 = some (15, .ireturn, 1, 0, 0, 0, [], []) := rfl
theorem k182_9 : az_cd 182 9 = some (16, .iload_n 1, 1, 0, 0, 0, [], []) := rfl
theorem k182_10 : az_cd 182 10 = some (17, .aload_n 0, 1, 0, 0, 0, [], []) := rfl
theorem k182_11 : az_cd 182 11 = some (18, .invokevirtual 108, 3, 151, 0, 0, [], [843, 845, 51, 846, 16]) := rfl
theorem k182_12 : az_cd 182 12 = some (21, .if_icmp .lt 6, 3, 15, 0, 0, [], []) := rfl
theorem k182_13 : az_cd 182 13 = some (24, .bipush (-5), 2, 0, 0, (-5), [], []) := rfl
theorem k182_14 : az_cd 182 14 = some (26, .ireturn, 1, 0, 0, 0, [], []) := rfl
theorem k182_15 : az_cd 182 15 = some (27, .aload_n 0, 1, 0, 0, 0, [], []) := rfl
theorem k182_16 : az_cd 182 16 = some (28, .aload_n 0, 1, 0, 0, 0, [], []) := rfl
theorem k182_17 : az_cd 182 17 = some (29, .getfield 7, 3, 9, 0, 0, [], [751]) := rfl
theorem k182_18 : az_cd 182 18 = some (32, .bipush 102, 2, 0, 0, 102, [], []) := rfl
theorem k182_19 : az_cd 182 19 = some (34, .iaload, 1, 0, 0, 0, [], []) := rfl
theorem k182_20 : az_cd 182 20 = some (35, .iload_n 1, 1, 0, 0, 0, [], []) := rfl
theorem k182_21 : az_cd 182 21 = some (36, .iadd, 1, 0, 0, 0, [], []) := rfl
theorem k182_22 : az_cd 182 22 = some (37, .invokevirtual 91, 3, 152, 1, 0, [], [859, 861, 51, 862, 19]) := rfl
theorem k182_23 : az_cd 182 23 = some (40, .istore_n 3, 1, 0, 0, 0, [], []) := rfl
theorem k182_24 : az_cd 182 24 = some (41, .iload_n 2, 1, 0, 0, 0, [], []) := rfl
theorem k182_25 : az_cd 182 25 = some (42, .iconst 1, 1, 0, 0, 1, [], []) := rfl
theorem k182_26 : az_cd 182 26 = some (43, .if_icmp .ne 7, 3, 29, 0, 0, [], []) := rfl
theorem k182_27 : az_cd 182 27 = some (46, .iload_n 3, 1, 0, 0, 0, [], []) := rfl
theorem k182_28 : az_cd 182 28 = some (47, .goto 34, 3, 46, 0, 0, [], []) := rfl
theorem k182_29 : az_cd 182 29 = some (50, .iload_n 3, 1, 0, 0, 0, [], []) := rfl
theorem k182_30 : az_cd 182 30 = some (51, .bipush (-5), 2, 0, 0, (-5), [], []) := rfl
theorem k182_31 : az_cd 182 31 = some (53, .if_icmp .eq 7, 3, 34, 0, 0, [], []) := rfl
theorem k182_32 : az_cd 182 32 = some (56, .iconst 0, 1, 0, 0, 0, [], []) := rfl
theorem k182_33 : az_cd 182 33 = some (57, .goto 24, 3, 46, 0, 0, [], []) := rfl
theorem k182_34 : az_cd 182 34 = some (60, .aload_n 0, 1, 0, 0, 0, [], []) := rfl
theorem k182_35 : az_cd 182 35 = some (61, .getfield 7, 3, 9, 0, 0, [], [751]) := rfl
theorem k182_36 : az_cd 182 36 = some (64, .bipush 102, 2, 0, 0, 102, [], []) := rfl
theorem k182_37 : az_cd 182 37 = some (66, .iaload, 1, 0, 0, 0, [], []) := rfl
theorem k182_38 : az_cd 182 38 = some (67, .iload_n 1, 1, 0, 0, 0, [], []) := rfl
theorem k182_39 : az_cd 182 39 = some (68, .iadd, 1, 0, 0, 0, [], []) := rfl
theorem k182_40 : az_cd 182 40 = some (69, .aload_n 0, 1, 0, 0, 0, [], []) := rfl
theorem k182_41 : az_cd 182 41 = some (70, .invokevirtual 88, 3, 150, 0, 0, [], [847, 849, 51, 850, 17]) := rfl
theorem k182_42 : az_cd 182 42 = some (73, .if_icmp .ne 7, 3, 45, 0, 0, [], []) := rfl
theorem k182_43 : az_cd 182 43 = some (76, .iconst 1, 1, 0, 0, 1, [], []) := rfl
theorem k182_44 : az_cd 182 44 = some (77, .goto 4, 3, 46, 0, 0, [], []) := rfl
theorem k182_45 : az_cd 182 45 = some (80, .iconst 2, 1, 0, 0, 2, [], []) := rfl
theorem k182_46 : az_cd 182 46 = some (81, .ireturn, 1, 0, 0, 0, [], []) := rfl
theorem k183_0 : az_cd 183 0 = some (0, .aload_n 0, 1, 0, 0, 0, [], []) := rfl
theorem k183_1 : az_cd 183 1 = some (1, .iload_n 1, 1, 0, 0, 0, [], []) := rfl
theorem k183_2 : az_cd 183 2 = some (2, .invokevirtual 42, 3, 134, 1, 0, [], [887, 889, 51, 890, 26]) := rfl
theorem k183_3 : az_cd 183 3 = some (5, .ifCond .eq 20, 3, 15, 0, 0, [], []) := rfl
theorem k183_4 : az_cd 183 4 = some (8, .aload_n 0, 1, 0, 0, 0, [], []) := rfl
theorem k183_5 : az_cd 183 5 = some (9, .getfield 7, 3, 9, 0, 0, [], [751]) := rfl
theorem k183_6 : az_cd 183 6 = some (12, .bipush 111, 2, 0, 0, 111, [], []) := rfl
theorem k183_7 : az_cd 183 7 = some (14, .bipush 10, 2, 0, 0, 10, [], []) := rfl
theorem k183_8 : az_cd 183 8 = some (16, .iload_n 1, 1, 0, 0, 0, [], []) := rfl
theorem k183_9 : az_cd 183 9 = some (17, .imul, 1, 0, 0, 0, [], []) := rfl
theorem k183_10 : az_cd 183 10 = some (18, .iadd, 1, 0, 0, 0, [], []) := rfl
theorem k183_11 : az_cd 183 11 = some (19, .iconst 1, 1, 0, 0, 1, [], []) := rfl
theorem k183_12 : az_cd 183 12 = some (20, .iadd, 1, 0, 0, 0, [], []) := rfl
theorem k183_13 : az_cd 183 13 = some (21, .iaload, 1, 0, 0, 0, [], []) := rfl
theorem k183_14 : az_cd 183 14 = some (22, .goto 4, 3, 16, 0, 0, [], []) := rfl
theorem k183_15 : az_cd 183 15 = some (25, .iconst (-1), 1, 0, 0, (-1), [], []) := rfl
theorem k183_16 : az_cd 183 16 = some (26, .ireturn, 1, 0, 0, 0, [], []) := rfl
theorem k184_0 : az_cd 184 0 = some (0, .iconst 0, 1, 0, 0, 0, [], []) := rfl
theorem k184_1 : az_cd 184 1 = some (1, .istore_n 1, 1, 0, 0, 0, [], []) := rfl
theorem k184_2 : az_cd 184 2 = some (2, .iconst 0, 1, 0, 0, 0, [], []) := rfl
theorem k184_3 : az_cd 184 3 = some (3, .istore_n 2, 1, 0, 0, 0, [], []) := rfl
theorem k184_4 : az_cd 184 4 = some (4, .iload_n 2, 1, 0, 0, 0, [], []) := rfl
theorem k184_5 : az_cd 184 5 = some (5, .bipush 24, 2, 0, 0, 24, [], []) := rfl
theorem k184_6 : az_cd 184 6 = some (7, .if_icmp .ge 21, 3, 18, 0, 0, [], []) := rfl
theorem k184_7 : az_cd 184 7 = some (10, .iload_n 1, 1, 0, 0, 0, [], []) := rfl
theorem k184_8 : az_cd 184 8 = some (11, .aload_n 0, 1, 0, 0, 0, [], []) := rfl
theorem k184_9 : az_cd 184 9 = some (12, .getfield 7, 3, 9, 0, 0, [], [751]) := rfl
theorem k184_10 : az_cd 184 10 = some (15, .bipush 48, 2, 0, 0, 48, [], []) := rfl
theorem k184_11 : az_cd 184 11 = some (17, .iload_n 2, 1, 0, 0, 0, [], []) := rfl
theorem k184_12 : az_cd 184 12 = some (18, .iadd, 1, 0, 0, 0, [], []) := rfl
theorem k184_13 : az_cd 184 13 = some (19, .iaload, 1, 0, 0, 0, [], []) := rfl
theorem k184_14 : az_cd 184 14 = some (20, .iadd, 1, 0, 0, 0, [], []) := rfl
theorem k184_15 : az_cd 184 15 = some (21, .istore_n 1, 1, 0, 0, 0, [], []) := rfl
theorem k184_16 : az_cd 184 16 = some (22, .iinc 2 1, 3, 0, 0, 1, [], []) := rfl
theorem k184_17 : az_cd 184 17 = some (25, .goto (-21), 3, 4, 0, 0, [], []) := rfl
theorem k184_18 : az_cd 184 18 = some (28, .iload_n 1, 1, 0, 0, 0, [], []) := rfl
theorem k184_19 : az_cd 184 19 = some (29, .ireturn, 1, 0, 0, 0, [], []) := rfl
theorem k185_0 : az_cd 185 0 = some (0, .iconst 0, 1, 0, 0, 0, [], []) := rfl
theorem k185_1 : az_cd 185 1 = some (1, .istore_n 1, 1, 0, 0, 0, [], []) := rfl
theorem k185_2 : az_cd 185 2 = some (2, .iconst 0, 1, 0, 0, 0, [], []) := rfl
theorem k185_3 : az_cd 185 3 = some (3, .istore_n 2, 1, 0, 0, 0, [], []) := rfl
theorem k185_4 : az_cd 185 4 = some (4, .iload_n 2, 1, 0, 0, 0, [], []) := rfl
theorem k185_5 : az_cd 185 5 = some (5, .bipush 24, 2, 0, 0, 24, [], []) := rfl
theorem k185_6 : az_cd 185 6 = some (7, .if_icmp .ge 36, 3, 26, 0, 0, [], []) := rfl
theorem k185_7 : az_cd 185 7 = some (10, .aload_n 0, 1, 0, 0, 0, [], []) := rfl
theorem k185_8 : az_cd 185 8 = some (11, .getfield 7, 3, 9, 0, 0, [], [751]) := rfl
theorem k185_9 : az_cd 185 9 = some (14, .bipush 48, 2, 0, 0, 48, [], []) := rfl
theorem k185_10 : az_cd 185 10 = some (16, .iload_n 2, 1, 0, 0, 0, [], []) := rfl
theorem k185_11 : az_cd 185 11 = some (17, .iadd, 1, 0, 0, 0, [], []) := rfl
theorem k185_12 : az_cd 185 12 = some (18, .iaload, 1, 0, 0, 0, [], []) := rfl
theorem k185_13 : az_cd 185 13 = some (19, .iload_n 1, 1, 0, 0, 0, [], []) := rfl
theorem k185_14 : az_cd 185 14 = some (20, .if_icmp .le 15, 3, 22, 0, 0, [], []) := rfl
theorem k185_15 : az_cd 185 15 = some (23, .aload_n 0, 1, 0, 0, 0, [], []) := rfl
theorem k185_16 : az_cd 185 16 = some (24, .getfield 7, 3, 9, 0, 0, [], [751]) := rfl
theorem k185_17 : az_cd 185 17 = some (27, .bipush 48, 2, 0, 0, 48, [], []) := rfl
theorem k185_18 : az_cd 185 18 = some (29, .iload_n 2, 1, 0, 0, 0, [], []) := rfl
theorem k185_19 : az_cd 185 19 = some (30, .iadd, 1, 0, 0, 0, [], []) := rfl
theorem k185_20 : az_cd 185 20 = some (31, .iaload, 1, 0, 0, 0, [], []) := rfl
theorem k185_21 : az_cd 185 21 = some (32, .goto 4, 3, 23, 0, 0, [], []) := rfl
theorem k185_22 : az_cd 185 22 = some (35, .iload_n 1, 1, 0, 0, 0, [], []) := rfl
theorem k185_23 : az_cd 185 23 = some (36, .istore_n 1, 1, 0, 0, 0, [], []) := rfl
theorem k185_24 : az_cd 185 24 = some (37, .iinc 2 1, 3, 0, 0, 1, [], []) := rfl
theorem k185_25 : az_cd 185 25 = some (40, .goto (-36), 3, 4, 0, 0, [], []) := rfl
theorem k185_26 : az_cd 185 26 = some (43, .iload_n 1, 1, 0, 0, 0, [], []) := rfl
theorem k185_27 : az_cd 185 27 = some (44, .ireturn, 1, 0, 0, 0, [], []) := rfl
theorem k186_0 : az_cd 186 0 = some (0, .aload_n 0, 1, 0, 0, 0, [], []) := rfl
theorem k186_1 : az_cd 186 1 = some (1, .invokevirtual 152, 3, 185, 0, 0, [], [1006, 1008, 51, 1009, 37]) := rfl
theorem k186_2 : az_cd 186 2 = some (4, .i2d, 1, 0, 0, 0, [], []) := rfl
theorem k186_3 : az_cd 186 3 = some (5, .aload_n 0, 1, 0, 0, 0, [], []) := rfl
theorem k186_4 : az_cd 186 4 = some (6, .invokevirtual 155, 3, 184, 0, 0, [], [1010, 1012, 51, 1013, 38]) := rfl
theorem k186_5 : az_cd 186 5 = some (9, .i2d, 1, 0, 0, 0, [], []) := rfl
theorem k186_6 : az_cd 186 6 = some (10, .ldc2_w 158, 3, 4627448617123184640, 2, 0, [], [1014]) := rfl
theorem k186_7 : az_cd 186 7 = some (13, .ddiv, 1, 0, 0, 0, [], []) := rfl
theorem k186_8 : az_cd 186 8 = some (14, .dsub, 1, 0, 0, 0, [], []) := rfl
theorem k186_9 : az_cd 186 9 = some (15, .dreturn, 1, 0, 0, 0, [], []) := rfl
theorem k187_0 : az_cd 187 0 = some (0, .aload_n 0, 1, 0, 0, 0, [], []) := rfl
theorem k187_1 : az_cd 187 1 = some (1, .invokevirtual 152, 3, 185, 0, 0, [], [1006, 1008, 51, 1009, 37]) := rfl
theorem k187_2 : az_cd 187 2 = some (4, .i2d, 1, 0, 0, 0, [], []) := rfl
theorem k187_3 : az_cd 187 3 = some (5, .aload_n 0, 1, 0, 0, 0, [], []) := rfl
theorem k187_4 : az_cd 187 4 = some (6, .invokevirtual 155, 3, 184, 0, 0, [], [1010, 1012, 51, 1013, 38]) := rfl
theorem k187_5 : az_cd 187 5 = some (9, .i2d, 1, 0, 0, 0, [], []) := rfl
theorem k187_6 : az_cd 187 6 = some (10, .ldc2_w 158, 3, 4627448617123184640, 2, 0, [], [1014]) := rfl
theorem k187_7 : az_cd 187 7 = some (13, .ddiv, 1, 0, 0, 0, [], []) := rfl
theorem k187_8 : az_cd 187 8 = some (14, .dsub, 1, 0, 0, 0, [], []) := rfl
theorem k187_9 : az_cd 187 9 = some (15, .d2f, 1, 0, 0, 0, [], []) := rfl
theorem k187_10 : az_cd 187 10 = some (16, .invokestatic 160, 3, 193, 1, 0, [], [1019, 1020, 53, 1021]) := rfl
theorem k187_11 : az_cd 187 11 = some (19, .ireturn, 1, 0, 0, 0, [], []) := rfl
theorem k188_0 : az_cd 188 0 = some (0, .iconst 0, 1, 0, 0, 0, [], []) := rfl
theorem k188_1 : az_cd 188 1 = some (1, .istore_n 1, 1, 0, 0, 0, [], []) := rfl
theorem k188_2 : az_cd 188 2 = some (2, .iconst 0, 1, 0, 0, 0, [], []) := rfl
theorem k188_3 : az_cd 188 3 = some (3, .istore_n 2, 1, 0, 0, 0, [], []) := rfl
theorem k188_4 : az_cd 188 4 = some (4, .iload_n 2, 1, 0, 0, 0, [], []) := rfl
theorem k188_5 : az_cd 188 5 = some (5, .bipush 8, 2, 0, 0, 8, [], []) := rfl
theorem k188_6 : az_cd 188 6 = some (7, .if_icmp .ge 17, 3, 17, 0, 0, [], []) := rfl
theorem k188_7 : az_cd 188 7 = some (10, .iload_n 1, 1, 0, 0, 0, [], []) := rfl
theorem k188_8 : az_cd 188 8 = some (11, .iload_n 0, 1, 0, 0, 0, [], []) := rfl
theorem k188_9 : az_cd 188 9 = some (12, .iload_n 2, 1, 0, 0, 0, [], []) := rfl
theorem k188_10 : az_cd 188 10 = some (13, .ishr, 1, 0, 0, 0, [], []) := rfl
theorem k188_11 : az_cd 188 11 = some (14, .iconst 1, 1, 0, 0, 1, [], []) := rfl
theorem k188_12 : az_cd 188 12 = some (15, .iand, 1, 0, 0, 0, [], []) := rfl
theorem k188_13 : az_cd 188 13 = some (16, .iadd, 1, 0, 0, 0, [], []) := rfl
theorem k188_14 : az_cd 188 14 = some (17, .istore_n 1, 1, 0, 0, 0, [], []) := rfl
theorem k188_15 : az_cd 188 15 = some (18, .iinc 2 1, 3, 0, 0, 1, [], []) := rfl
theorem k188_16 : az_cd 188 16 = some (21, .goto (-17), 3, 4, 0, 0, [], []) := rfl
theorem k188_17 : az_cd 188 17 = some (24, .iload_n 1, 1, 0, 0, 0, [], []) := rfl
theorem k188_18 : az_cd 188 18 = some (25, .ireturn, 1, 0, 0, 0, [], []) := rfl
theorem k189_0 : az_cd 189 0 = some (0, .iconst 0, 1, 0, 0, 0, [], []) := rfl
theorem k189_1 : az_cd 189 1 = some (1, .istore_n 2, 1, 0, 0, 0, [], []) := rfl
theorem k189_2 : az_cd 189 2 = some (2, .iconst 0, 1, 0, 0, 0, [], []) := rfl
theorem k189_3 : az_cd 189 3 = some (3, .istore_n 3, 1, 0, 0, 0, [], []) := rfl
theorem k189_4 : az_cd 189 4 = some (4, .iload_n 3, 1, 0, 0, 0, [], []) := rfl
theorem k189_5 : az_cd 189 5 = some (5, .bipush 24, 2, 0, 0, 24, [], []) := rfl
theorem k189_6 : az_cd 189 6 = some (7, .if_icmp .ge 86, 3, 50, 0, 0, [], []) := rfl
theorem k189_7 : az_cd 189 7 = some (10, .aload_n 0, 1, 0, 0, 0, [], []) := rfl
theorem k189_8 : az_cd 189 8 = some (11, .iload_n 3, 1, 0, 0, 0, [], []) := rfl
theorem k189_9 : az_cd 189 9 = some (12, .invokevirtual 53, 3, 137, 1, 0, [], [879, 881, 51, 882, 24]) := rfl
theorem k189_10 : az_cd 189 10 = some (15, .ifCond .le 27, 3, 23, 0, 0, [], []) := rfl
theorem k189_11 : az_cd 189 11 = some (18, .aload_n 0, 1, 0, 0, 0, [], []) := rfl
theorem k189_12 : az_cd 189 12 = some (19, .iload_n 3, 1, 0, 0, 0, [], []) := rfl
theorem k189_13 : az_cd 189 13 = some (20, .invokevirtual 50, 3, 135, 1, 0, [], [871, 873, 51, 874, 22]) := rfl
theorem k189_14 : az_cd 189 14 = some (23, .bipush (-5), 2, 0, 0, (-5), [], []) := rfl
theorem k189_15 : az_cd 189 15 = some (25, .if_icmp .ne 17, 3, 23, 0, 0, [], []) := rfl
theorem k189_16 : az_cd 189 16 = some (28, .aload_n 0, 1, 0, 0, 0, [], []) := rfl
theorem k189_17 : az_cd 189 17 = some (29, .iload_n 3, 1, 0, 0, 0, [], []) := rfl
theorem k189_18 : az_cd 189 18 = some (30, .invokevirtual 56, 3, 138, 1, 0, [], [891, 893, 51, 894, 27]) := rfl
theorem k189_19 : az_cd 189 19 = some (33, .bipush (-5), 2, 0, 0, (-5), [], []) := rfl
theorem k189_20 : az_cd 189 20 = some (35, .if_icmp .ne 7, 3, 23, 0, 0, [], []) := rfl
theorem k189_21 : az_cd 189 21 = some (38, .iconst 1, 1, 0, 0, 1, [], []) := rfl
theorem k189_22 : az_cd 189 22 = some (39, .goto 4, 3, 24, 0, 0, [], []) := rfl
theorem k189_23 : az_cd 189 23 = some (42, .iconst 0, 1, 0, 0, 0, [], []) := rfl
theorem k189_24 : az_cd 189 24 = some (43, .istore 4, 2, 0, 0, 0, [], []) := rfl
theorem k189_25 : az_cd 189 25 = some (45, .iload_n 1, 1, 0, 0, 0, [], []) := rfl
theorem k189_26 : az_cd 189 26 = some (46, .ifCond .ne 11, 3, 31, 0, 0, [], []) := rfl
theorem k189_27 : az_cd 189 27 = some (49, .aload_n 0, 1, 0, 0, 0, [], []) := rfl
theorem k189_28 : az_cd 189 28 = some (50, .iload_n 3, 1, 0, 0, 0, [], []) := rfl
theorem k189_29 : az_cd 189 29 = some (51, .invokevirtual 62, 3, 139, 1, 0, [], [867, 869, 51, 870, 21]) := rfl
theorem k189_30 : az_cd 189 30 = some (54, .goto 18, 3, 39, 0, 0, [], []) := rfl
theorem k189_31 : az_cd 189 31 = some (57, .iload_n 1, 1, 0, 0, 0, [], []) := rfl
theorem k189_32 : az_cd 189 32 = some (58, .iconst 1, 1, 0, 0, 1, [], []) := rfl
theorem k189_33 : az_cd 189 33 = some (59, .if_icmp .ne 11, 3, 38, 0, 0, [], []) := rfl
theorem k189_34 : az_cd 189 34 = some (62, .aload_n 0, 1, 0, 0, 0, [], []) := rfl
theorem k189_35 : az_cd 189 35 = some (63, .iload_n 3, 1, 0, 0, 0, [], []) := rfl
theorem k189_36 : az_cd 189 36 = some (64, .invokevirtual 146, 3, 140, 1, 0, [], [982, 984, 51, 985, 35]) := rfl
theorem k189_37 : az_cd 189 37 = some (67, .goto 5, 3, 39, 0, 0, [], []) := rfl
theorem k189_38 : az_cd 189 38 = some (70, .iload 4, 2, 0, 0, 0, [], []) := rfl
theorem k189_39 : az_cd 189 39 = some (72, .istore 5, 2, 0, 0, 0, [], []) := rfl
theorem k189_40 : az_cd 189 40 = some (74, .iload_n 2, 1, 0, 0, 0, [], []) := rfl
theorem k189_41 : az_cd 189 41 = some (75, .iload 5, 2, 0, 0, 0, [], []) := rfl
theorem k189_42 : az_cd 189 42 = some (77, .ifCond .eq 7, 3, 45, 0, 0, [], []) := rfl
theorem k189_43 : az_cd 189 43 = some (80, .iconst 1, 1, 0, 0, 1, [], []) := rfl
theorem k189_44 : az_cd 189 44 = some (81, .goto 4, 3, 46, 0, 0, [], []) := rfl
theorem k189_45 : az_cd 189 45 = some (84, .iconst 0, 1, 0, 0, 0, [], []) := rfl
theorem k189_46 : az_cd 189 46 = some (85, .iadd, 1, 0, 0, 0, [], []) := rfl
theorem k189_47 : az_cd 189 47 = some (86, .istore_n 2, 1, 0, 0, 0, [], []) := rfl
theorem k189_48 : az_cd 189 48 = some (87, .iinc 3 1, 3, 0, 0, 1, [], []) := rfl
theorem k189_49 : az_cd 189 49 = some (90, .goto (-86), 3, 4, 0, 0, [], []) := rfl
theorem k189_50 : az_cd 189 50 = some (93, .iload_n 2, 1, 0, 0, 0, [], []) := rfl
theorem k189_51 : az_cd 189 51 = some (94, .ireturn, 1, 0, 0, 0, [], []) := rfl
theorem k190_0 : az_cd 190 0 = some (0, .iconst 0, 1, 0, 0, 0, [], []) := rfl
theorem k190_1 : az_cd 190 1 = some (1, .istore_n 1, 1, 0, 0, 0, [], []) := rfl
theorem k190_2 : az_cd 190 2 = some (2, .iconst 0, 1, 0, 0, 0, [], []) := rfl
theorem k190_3 : az_cd 190 3 = some (3, .istore_n 2, 1, 0, 0, 0, [], []) := rfl
theorem k190_4 : az_cd 190 4 = some (4, .iload_n 2, 1, 0, 0, 0, [], []) := rfl
theorem k190_5 : az_cd 190 5 = some (5, .aload_n 0, 1, 0, 0, 0, [], []) := rfl
theorem k190_6 : az_cd 190 6 = some (6, .invokevirtual 108, 3, 151, 0, 0, [], [843, 845, 51, 846, 16]) := rfl
theorem k190_7 : az_cd 190 7 = some (9, .if_icmp .ge 35, 3, 26, 0, 0, [], []) := rfl
theorem k190_8 : az_cd 190 8 = some (12, .iload_n 1, 1, 0, 0, 0, [], []) := rfl
theorem k190_9 : az_cd 190 9 = some (13, .aload_n 0, 1, 0, 0, 0, [], []) := rfl
theorem k190_10 : az_cd 190 10 = some (14, .aload_n 0, 1, 0, 0, 0, [], []) := rfl
theorem k190_11 : az_cd 190 11 = some (15, .getfield 7, 3, 9, 0, 0, [], [751]) := rfl
theorem k190_12 : az_cd 190 12 = some (18, .bipush 102, 2, 0, 0, 102, [], []) := rfl
theorem k190_13 : az_cd 190 13 = some (20, .iaload, 1, 0, 0, 0, [], []) := rfl
theorem k190_14 : az_cd 190 14 = some (21, .iload_n 2, 1, 0, 0, 0, [], []) := rfl
theorem k190_15 : az_cd 190 15 = some (22, .iadd, 1, 0, 0, 0, [], []) := rfl
theorem k190_16 : az_cd 190 16 = some (23, .invokevirtual 91, 3, 152, 1, 0, [], [859, 861, 51, 862, 19]) := rfl
theorem k190_17 : az_cd 190 17 = some (26, .bipush (-5), 2, 0, 0, (-5), [], []) := rfl
theorem k190_18 : az_cd 190 18 = some (28, .if_icmp .eq 7, 3, 21, 0, 0, [], []) := rfl
theorem k190_19 : az_cd 190 19 = some (31, .iconst 1, 1, 0, 0, 1, [], []) := rfl
theorem k190_20 : az_cd 190 20 = some (32, .goto 4, 3, 22, 0, 0, [], []) := rfl
theorem k190_21 : az_cd 190 21 = some (35, .iconst 0, 1, 0, 0, 0, [], []) := rfl
theorem k190_22 : az_cd 190 22 = some (36, .iadd, 1, 0, 0, 0, [], []) := rfl
theorem k190_23 : az_cd 190 23 = some (37, .istore_n 1, 1, 0, 0, 0, [], []) := rfl
theorem k190_24 : az_cd 190 24 = some (38, .iinc 2 1, 3, 0, 0, 1, [], []) := rfl
theorem k190_25 : az_cd 190 25 = some (41, .goto (-37), 3, 4, 0, 0, [], []) := rfl
theorem k190_26 : az_cd 190 26 = some (44, .iload_n 1, 1, 0, 0, 0, [], []) := rfl
theorem k190_27 : az_cd 190 27 = some (45, .ireturn, 1, 0, 0, 0, [], []) := rfl
theorem k191_0 : az_cd 191 0 = some (0, .iload_n 1, 1, 0, 0, 0, [], []) := rfl
theorem k191_1 : az_cd 191 1 = some (1, .tableswitch 196 0 16 #[83, 89, 97, 112, 117, 122, 130, 136, 142, 147, 156, 161, 166, 172, 181, 186, 191], 83, 70, 0, 0, [2, 6, 11, 19, 22, 25, 30, 34, 38, 41, 46, 49, 52, 56, 61, 64, 67], []) := rfl
theorem k191_2 : az_cd 191 2 = some (84, .aload_n 0, 1, 0, 0, 0, [], []) := rfl
theorem k191_3 : az_cd 191 3 = some (85, .iconst 0, 1, 0, 0, 0, [], []) := rfl
theorem k191_4 : az_cd 191 4 = some (86, .invokevirtual 38, 3, 133, 1, 0, [], [875, 877, 51, 878, 23]) := rfl
theorem k191_5 : az_cd 191 5 = some (89, .ireturn, 1, 0, 0, 0, [], []) := rfl
theorem k191_6 : az_cd 191 6 = some (90, .aload_n 0, 1, 0, 0, 0, [], []) := rfl
theorem k191_7 : az_cd 191 7 = some (91, .getfield 7, 3, 9, 0, 0, [], [751]) := rfl
theorem k191_8 : az_cd 191 8 = some (94, .bipush 92, 2, 0, 0, 92, [], []) := rfl
theorem k191_9 : az_cd 191 9 = some (96, .iaload, 1, 0, 0, 0, [], []) := rfl
theorem k191_10 : az_cd 191 10 = some (97, .ireturn, 1, 0, 0, 0, [], []) := rfl
theorem k191_11 : az_cd 191 11 = some (98, .aload_n 0, 1, 0, 0, 0, [], []) := rfl
theorem k191_12 : az_cd 191 12 = some (99, .aload_n 0, 1, 0, 0, 0, [], []) := rfl
theorem k191_13 : az_cd 191 13 = some (100, .getfield 7, 3, 9, 0, 0, [], [751]) := rfl
theorem k191_14 : az_cd 191 14 = some (103, .bipush 92, 2, 0, 0, 92, [], []) := rfl
theorem k191_15 : az_cd 191 15 = some (105, .iaload, 1, 0, 0, 0, [], []) := rfl
theorem k191_16 : az_cd 191 16 = some (106, .invokevirtual 149, 3, 180, 1, 0, [], [990, 992, 51, 993, 36]) := rfl
theorem k191_17 : az_cd 191 17 = some (109, .invokestatic 166, 3, 188, 1, 0, [], [1033, 1034, 51, 1035]) := rfl
theorem k191_18 : az_cd 191 18 = some (112, .ireturn, 1, 0, 0, 0, [], []) := rfl
theorem k191_19 : az_cd 191 19 = some (113, .aload_n 0, 1, 0, 0, 0, [], []) := rfl
theorem k191_20 : az_cd 191 20 = some (114, .invokevirtual 68, 3, 143, 0, 0, [], [803, 805, 51, 806, 10]) := rfl
theorem k191_21 : az_cd 191 21 = some (117, .ireturn, 1, 0, 0, 0, [], []) := rfl
theorem k191_22 : az_cd 191 22 = some (118, .aload_n 0, 1, 0, 0, 0, [], []) := rfl
theorem k191_23 : az_cd 191 23 = some (119, .invokevirtual 108, 3, 151, 0, 0, [], [843, 845, 51, 846, 16]) := rfl
theorem k191_24 : az_cd 191 24 = some (122, .ireturn, 1, 0, 0, 0, [], []) := rfl
theorem k191_25 : az_cd 191 25 = some (123, .aload_n 0, 1, 0, 0, 0, [], []) := rfl
theorem k191_26 : az_cd 191 26 = some (124, .getfield 7, 3, 9, 0, 0, [], [751]) := rfl
theorem k191_27 : az_cd 191 27 = some (127, .bipush 102, 2, 0, 0, 102, [], []) := rfl
theorem k191_28 : az_cd 191 28 = some (129, .iaload, 1, 0, 0, 0, [], []) := rfl
theorem k191_29 : az_cd 191 29 = some (130, .ireturn, 1, 0, 0, 0, [], []) := rfl
theorem k191_30 : az_cd 191 30 = some (131, .aload_n 0, 1, 0, 0, 0, [], []) := rfl
theorem k191_31 : az_cd 191 31 = some (132, .iconst 0, 1, 0, 0, 0, [], []) := rfl
theorem k191_32 : az_cd 191 32 = some (133, .invokevirtual 169, 3, 189, 1, 0, [], [1036, 1038, 51, 1039, 39]) := rfl
theorem k191_33 : az_cd 191 33 = some (136, .ireturn, 1, 0, 0, 0, [], []) := rfl
theorem k191_34 : az_cd 191 34 = some (137, .aload_n 0, 1, 0, 0, 0, [], []) := rfl
theorem k191_35 : az_cd 191 35 = some (138, .iconst 1, 1, 0, 0, 1, [], []) := rfl
theorem k191_36 : az_cd 191 36 = some (139, .invokevirtual 169, 3, 189, 1, 0, [], [1036, 1038, 51, 1039, 39]) := rfl
theorem k191_37 : az_cd 191 37 = some (142, .ireturn, 1, 0, 0, 0, [], []) := rfl
theorem k191_38 : az_cd 191 38 = some (143, .aload_n 0, 1, 0, 0, 0, [], []) := rfl
theorem k191_39 : az_cd 191 39 = some (144, .invokevirtual 121, 3, 163, 0, 0, [], [934, 936, 51, 937, 33]) := rfl
theorem k191_40 : az_cd 191 40 = some (147, .ireturn, 1, 0, 0, 0, [], []) := rfl
theorem k191_41 : az_cd 191 41 = some (148, .aload_n 0, 1, 0, 0, 0, [], []) := rfl
theorem k191_42 : az_cd 191 42 = some (149, .getfield 7, 3, 9, 0, 0, [], [751]) := rfl
theorem k191_43 : az_cd 191 43 = some (152, .sipush 151, 3, 0, 0, 151, [], []) := rfl
theorem k191_44 : az_cd 191 44 = some (155, .iaload, 1, 0, 0, 0, [], []) := rfl
theorem k191_45 : az_cd 191 45 = some (156, .ireturn, 1, 0, 0, 0, [], []) := rfl
theorem k191_46 : az_cd 191 46 = some (157, .aload_n 0, 1, 0, 0, 0, [], []) := rfl
theorem k191_47 : az_cd 191 47 = some (158, .invokevirtual 152, 3, 185, 0, 0, [], [1006, 1008, 51, 1009, 37]) := rfl
theorem k191_48 : az_cd 191 48 = some (161, .ireturn, 1, 0, 0, 0, [], []) := rfl
theorem k191_49 : az_cd 191 49 = some (162, .aload_n 0, 1, 0, 0, 0, [], []) := rfl
theorem k191_50 : az_cd 191 50 = some (163, .invokevirtual 155, 3, 184, 0, 0, [], [1010, 1012, 51, 1013, 38]) := rfl
theorem k191_51 : az_cd 191 51 = some (166, .ireturn, 1, 0, 0, 0, [], []) := rfl
theorem k191_52 : az_cd 191 52 = some (167, .aload_n 0, 1, 0, 0, 0, [], []) := rfl
theorem k191_53 : az_cd 191 53 = some (168, .iconst 2, 1, 0, 0, 2, [], []) := rfl
theorem k191_54 : az_cd 191 54 = some (169, .invokevirtual 169, 3, 189, 1, 0, [], [1036, 1038, 51, 1039, 39]) := rfl
theorem k191_55 : az_cd 191 55 = some (172, .ireturn, 1, 0, 0, 0, [], []) := rfl
theorem k191_56 : az_cd 191 56 = some (173, .aload_n 0, 1, 0, 0, 0, [], []) := rfl
theorem k191_57 : az_cd 191 57 = some (174, .getfield 7, 3, 9, 0, 0, [], [751]) := rfl
theorem k191_58 : az_cd 191 58 = some (177, .sipush 152, 3, 0, 0, 152, [], []) := rfl
theorem k191_59 : az_cd 191 59 = some (180, .iaload, 1, 0, 0, 0, [], []) := rfl
theorem k191_60 : az_cd 191 60 = some (181, .ireturn, 1, 0, 0, 0, [], []) := rfl
theorem k191_61 : az_cd 191 61 = some (182, .aload_n 0, 1, 0, 0, 0, [], []) := rfl
theorem k191_62 : az_cd 191 62 = some (183, .getfield 30, 3, 9, 2, 0, [], [753]) := rfl
theorem k191_63 : az_cd 191 63 = some (186, .ireturn, 1, 0, 0, 0, [], []) := rfl
theorem k191_64 : az_cd 191 64 = some (187, .aload_n 0, 1, 0, 0, 0, [], []) := rfl
theorem k191_65 : az_cd 191 65 = some (188, .getfield 124, 3, 9, 6, 0, [], [757]) := rfl
theorem k191_66 : az_cd 191 66 = some (191, .ireturn, 1, 0, 0, 0, [], []) := rfl
theorem k191_67 : az_cd 191 67 = some (192, .aload_n 0, 1, 0, 0, 0, [], []) := rfl
theorem k191_68 : az_cd 191 68 = some (193, .invokevirtual 172, 3, 190, 0, 0, [], [1040, 1042, 51, 1043, 40]) := rfl
theorem k191_69 : az_cd 191 69 = some (196, .ireturn, 1, 0, 0, 0, [], []) := rfl
theorem k191_70 : az_cd 191 70 = some (197, .bipush (-2), 2, 0, 0, (-2), [], []) := rfl
theorem k191_71 : az_cd 191 71 = some (199, .ireturn, 1, 0, 0, 0, [], []) := rfl
theorem k192_0 : az_cd 192 0 = some (0, .fload_n 0, 1, 0, 0, 0, [], []) := rfl
theorem k192_1 : az_cd 192 1 = some (1, .fload_n 0, 1, 0, 0, 0, [], []) := rfl
theorem k192_2 : az_cd 192 2 = some (2, .fcmp .l, 1, 0, 0, 0, [], []) := rfl
theorem k192_3 : az_cd 192 3 = some (3, .ifCond .eq 7, 3, 6, 0, 0, [], []) := rfl
theorem k192_4 : az_cd 192 4 = some (6, .iconst 1, 1, 0, 0, 1, [], []) := rfl
theorem k192_5 : az_cd 192 5 = some (7, .goto 4, 3, 7, 0, 0, [], []) := rfl
theorem k192_6 : az_cd 192 6 = some (10, .iconst 0, 1, 0, 0, 0, [], []) := rfl
theorem k192_7 : az_cd 192 7 = some (11, .ireturn, 1, 0, 0, 0, [], []) := rfl
theorem k193_0 : az_cd 193 0 = some (0, .fload_n 0, 1, 0, 0, 0, [], []) := rfl
theorem k193_1 : az_cd 193 1 = some (1, .invokestatic 59, 3, 192, 1, 0, [], [1022, 1023, 53, 1024]) := rfl
theorem k193_2 : az_cd 193 2 = some (4, .ifCond .ne 8, 3, 6, 0, 0, [], []) := rfl
theorem k193_3 : az_cd 193 3 = some (7, .fload_n 0, 1, 0, 0, 0, [], []) := rfl
theorem k193_4 : az_cd 193 4 = some (8, .invokestatic 74, 3, 197, 1, 3, [], [1025, 1027, 1026, 53]) := rfl
theorem k193_5 : az_cd 193 5 = some (11, .ireturn, 1, 0, 0, 0, [], []) := rfl
theorem k193_6 : az_cd 193 6 = some (12, .ldc 77, 2, 0, 0, 2143289344, [], [1028]) := rfl
theorem k193_7 : az_cd 193 7 = some (14, .ireturn, 1, 0, 0, 0, [], []) := rfl
theorem k194_0 : az_cd 194 0 = some (0, .iload_n 0, 1, 0, 0, 0, [], []) := rfl
theorem k194_1 : az_cd 194 1 = some (1, .iload_n 0, 1, 0, 0, 0, [], []) := rfl
theorem k194_2 : az_cd 194 2 = some (2, .iconst 1, 1, 0, 0, 1, [], []) := rfl
theorem k194_3 : az_cd 194 3 = some (3, .iushr, 1, 0, 0, 0, [], []) := rfl
theorem k194_4 : az_cd 194 4 = some (4, .ldc_w 265, 3, 0, 0, 1431655765, [], [720]) := rfl
theorem k194_5 : az_cd 194 5 = some (7, .iand, 1, 0, 0, 0, [], []) := rfl
theorem k194_6 : az_cd 194 6 = some (8, .isub, 1, 0, 0, 0, [], []) := rfl
theorem k194_7 : az_cd 194 7 = some (9, .istore_n 0, 1, 0, 0, 0, [], []) := rfl
theorem k194_8 : az_cd 194 8 = some (10, .iload_n 0, 1, 0, 0, 0, [], []) := rfl
theorem k194_9 : az_cd 194 9 = some (11, .ldc_w 266, 3, 0, 0, 858993459, [], [721]) := rfl
theorem k194_10 : az_cd 194 10 = some (14, .iand, 1, 0, 0, 0, [], []) := rfl
theorem k194_11 : az_cd 194 11 = some (15, .iload_n 0, 1, 0, 0, 0, [], []) := rfl
theorem k194_12 : az_cd 194 12 = some (16, .iconst 2, 1, 0, 0, 2, [], []) := rfl
theorem k194_13 : az_cd 194 13 = some (17, .iushr, 1, 0, 0, 0, [], []) := rfl
theorem k194_14 : az_cd 194 14 = some (18, .ldc_w 266, 3, 0, 0, 858993459, [], [721]) := rfl
theorem k194_15 : az_cd 194 15 = some (21, .iand, 1, 0, 0, 0, [], []) := rfl
theorem k194_16 : az_cd 194 16 = some (22, .iadd, 1, 0, 0, 0, [], []) := rfl
theorem k194_17 : az_cd 194 17 = some (23, .istore_n 0, 1, 0, 0, 0, [], []) := rfl
theorem k194_18 : az_cd 194 18 = some (24, .iload_n 0, 1, 0, 0, 0, [], []) := rfl
theorem k194_19 : az_cd 194 19 = some (25, .iload_n 0, 1, 0, 0, 0, [], []) := rfl
theorem k194_20 : az_cd 194 20 = some (26, .iconst 4, 1, 0, 0, 4, [], []) := rfl
theorem k194_21 : az_cd 194 21 = some (27, .iushr, 1, 0, 0, 0, [], []) := rfl
theorem k194_22 : az_cd 194 22 = some (28, .iadd, 1, 0, 0, 0, [], []) := rfl
theorem k194_23 : az_cd 194 23 = some (29, .ldc_w 267, 3, 0, 0, 252645135, [], [722]) := rfl
theorem k194_24 : az_cd 194 24 = some (32, .iand, 1, 0, 0, 0, [], []) := rfl
theorem k194_25 : az_cd 194 25 = some (33, .istore_n 0, 1, 0, 0, 0, [], []) := rfl
theorem k194_26 : az_cd 194 26 = some (34, .iload_n 0, 1, 0, 0, 0, [], []) := rfl
theorem k194_27 : az_cd 194 27 = some (35, .iload_n 0, 1, 0, 0, 0, [], []) := rfl
theorem k194_28 : az_cd 194 28 = some (36, .bipush 8, 2, 0, 0, 8, [], []) := rfl
theorem k194_29 : az_cd 194 29 = some (38, .iushr, 1, 0, 0, 0, [], []) := rfl
theorem k194_30 : az_cd 194 30 = some (39, .iadd, 1, 0, 0, 0, [], []) := rfl
theorem k194_31 : az_cd 194 31 = some (40, .istore_n 0, 1, 0, 0, 0, [], []) := rfl
theorem k194_32 : az_cd 194 32 = some (41, .iload_n 0, 1, 0, 0, 0, [], []) := rfl
theorem k194_33 : az_cd 194 33 = some (42, .iload_n 0, 1, 0, 0, 0, [], []) := rfl
theorem k194_34 : az_cd 194 34 = some (43, .bipush 16, 2, 0, 0, 16, [], []) := rfl
theorem k194_35 : az_cd 194 35 = some (45, .iushr, 1, 0, 0, 0, [], []) := rfl
theorem k194_36 : az_cd 194 36 = some (46, .iadd, 1, 0, 0, 0, [], []) := rfl
theorem k194_37 : az_cd 194 37 = some (47, .istore_n 0, 1, 0, 0, 0, [], []) := rfl
theorem k194_38 : az_cd 194 38 = some (48, .iload_n 0, 1, 0, 0, 0, [], []) := rfl
theorem k194_39 : az_cd 194 39 = some (49, .bipush 63, 2, 0, 0, 63, [], []) := rfl
theorem k194_40 : az_cd 194 40 = some (51, .iand, 1, 0, 0, 0, [], []) := rfl
theorem k194_41 : az_cd 194 41 = some (52, .ireturn, 1, 0, 0, 0, [], []) := rfl
theorem k195_0 : az_cd 195 0 = some (0, .iload_n 0, 1, 0, 0, 0, [], []) := rfl
theorem k195_1 : az_cd 195 1 = some (1, .iload_n 1, 1, 0, 0, 0, [], []) := rfl
theorem k195_2 : az_cd 195 2 = some (2, .irem, 1, 0, 0, 0, [], []) := rfl
theorem k195_3 : az_cd 195 3 = some (3, .istore_n 2, 1, 0, 0, 0, [], []) := rfl
theorem k195_4 : az_cd 195 4 = some (4, .iload_n 0, 1, 0, 0, 0, [], []) := rfl
theorem k195_5 : az_cd 195 5 = some (5, .iload_n 1, 1, 0, 0, 0, [], []) := rfl
theorem k195_6 : az_cd 195 6 = some (6, .ixor, 1, 0, 0, 0, [], []) := rfl
theorem k195_7 : az_cd 195 7 = some (7, .ifCond .ge 11, 3, 14, 0, 0, [], []) := rfl
theorem k195_8 : az_cd 195 8 = some (10, .iload_n 2, 1, 0, 0, 0, [], []) := rfl
theorem k195_9 : az_cd 195 9 = some (11, .ifCond .eq 7, 3, 14, 0, 0, [], []) := rfl
theorem k195_10 : az_cd 195 10 = some (14, .iload_n 2, 1, 0, 0, 0, [], []) := rfl
theorem k195_11 : az_cd 195 11 = some (15, .iload_n 1, 1, 0, 0, 0, [], []) := rfl
theorem k195_12 : az_cd 195 12 = some (16, .iadd, 1, 0, 0, 0, [], []) := rfl
theorem k195_13 : az_cd 195 13 = some (17, .ireturn, 1, 0, 0, 0, [], []) := rfl
theorem k195_14 : az_cd 195 14 = some (18, .iload_n 2, 1, 0, 0, 0, [], []) := rfl
theorem k195_15 : az_cd 195 15 = some (19, .ireturn, 1, 0, 0, 0, [], []) := rfl
theorem hd0 : az_hs[0]? = some (RL, yL_law, cL_law, 8, some .boolean, 8, 177) := rfl
theorem hd1 : az_hs[1]? = some (RX0, yX0_init, cX0_init, 1, none, 1, 22) := rfl
theorem cl1 : az_clt 1 0 = true := by decide +kernel
theorem hd2 : az_hs[2]? = some (RX0, yX0_sealOf, cX0_sealOf, 1, some .int, 0, 0) := rfl
theorem hd3 : az_hs[3]? = some (RX0, yX0_put, cX0_put, 5, none, 1, 20) := rfl
theorem cl3 : az_clt 3 0 = true := by decide +kernel
theorem hd4 : az_hs[4]? = some (RX0, yX0_contentOf, cX0_contentOf, 2, some .int, 1, 20) := rfl
theorem cl4 : az_clt 4 0 = true := by decide +kernel
theorem hd5 : az_hs[5]? = some (RX0, yX0_sealIn, cX0_sealIn, 2, some .int, 1, 20) := rfl
theorem cl5 : az_clt 5 0 = true := by decide +kernel
theorem hd6 : az_hs[6]? = some (RX0, yX0_wearOf, cX0_wearOf, 2, some .int, 1, 20) := rfl
theorem cl6 : az_clt 6 0 = true := by decide +kernel
theorem hd7 : az_hs[7]? = some (RX0, yX0_isTorn, cX0_isTorn, 2, some .boolean, 1, 20) := rfl
theorem cl7 : az_clt 7 0 = true := by decide +kernel
theorem hd8 : az_hs[8]? = some (RX0, yX0_tornCells, cX0_tornCells, 3, some .int, 2, 41) := rfl
theorem cl8 : az_clt 8 0 = true := by decide +kernel
theorem hd9 : az_hs[9]? = some (RX0, yX0_greatestWear, cX0_greatestWear, 3, some .int, 0, 0) := rfl
theorem cl9 : az_clt 9 0 = true := by decide +kernel
theorem hd10 : az_hs[10]? = some (RX0, yX0_allWear, cX0_allWear, 3, some .int, 0, 0) := rfl
theorem cl10 : az_clt 10 0 = true := by decide +kernel
theorem hd11 : az_hs[11]? = some (RX0, yX0_copyFrom, cX0_copyFrom, 2, none, 1, 22) := rfl
theorem cl11 : az_clt 11 0 = true := by decide +kernel
theorem hd12 : az_hs[12]? = some (RX1, yX1_init, cX1_init, 1, none, 1, 22) := rfl
theorem cl12 : az_clt 12 1 = true := by decide +kernel
theorem hd13 : az_hs[13]? = some (RX1, yX1_toldOf, cX1_toldOf, 2, some .int, 1, 20) := rfl
theorem cl13 : az_clt 13 1 = true := by decide +kernel
theorem hd14 : az_hs[14]? = some (RX1, yX1_tellsOf, cX1_tellsOf, 2, some .boolean, 2, 41) := rfl
theorem cl14 : az_clt 14 1 = true := by decide +kernel
theorem hd15 : az_hs[15]? = some (RX1, yX1_tell, cX1_tell, 3, none, 1, 20) := rfl
theorem cl15 : az_clt 15 1 = true := by decide +kernel
theorem hd16 : az_hs[16]? = some (RX1, yX1_empty, cX1_empty, 1, none, 1, 22) := rfl
theorem cl16 : az_clt 16 1 = true := by decide +kernel
theorem hd17 : az_hs[17]? = some (RX1, yX1_pagesTold, cX1_pagesTold, 3, some .int, 0, 0) := rfl
theorem cl17 : az_clt 17 1 = true := by decide +kernel
theorem hd18 : az_hs[18]? = some (RX1, yX1_contents, cX1_contents, 3, some .int, 0, 0) := rfl
theorem cl18 : az_clt 18 1 = true := by decide +kernel
theorem hd19 : az_hs[19]? = some (RX1, yX1_pageOfContent, cX1_pageOfContent, 4, some .int, 0, 0) := rfl
theorem cl19 : az_clt 19 1 = true := by decide +kernel
theorem hd20 : az_hs[20]? = some (RX1, yX1_copyFrom, cX1_copyFrom, 2, none, 1, 22) := rfl
theorem cl20 : az_clt 20 1 = true := by decide +kernel
theorem hd21 : az_hs[21]? = some (RX2, yX2_init, cX2_init, 2, none, 1, 22) := rfl
theorem cl21 : az_clt 21 2 = true := by decide +kernel
theorem hd22 : az_hs[22]? = some (RX2, yX2_number, cX2_number, 1, some .int, 0, 0) := rfl
theorem cl22 : az_clt 22 2 = true := by decide +kernel
theorem hd23 : az_hs[23]? = some (RX2, yX2_isTorn, cX2_isTorn, 1, some .boolean, 0, 0) := rfl
theorem cl23 : az_clt 23 2 = true := by decide +kernel
theorem hd24 : az_hs[24]? = some (RX2, yX2_become, cX2_become, 3, none, 0, 0) := rfl
theorem cl24 : az_clt 24 2 = true := by decide +kernel
theorem hd25 : az_hs[25]? = some (RX2, yX2_cellOf, cX2_cellOf, 2, some .int, 1, 20) := rfl
theorem cl25 : az_clt 25 2 = true := by decide +kernel
theorem hd26 : az_hs[26]? = some (RX2, yX2_give, cX2_give, 3, none, 1, 20) := rfl
theorem cl26 : az_clt 26 2 = true := by decide +kernel
theorem hd27 : az_hs[27]? = some (RX2, yX2_pageWith, cX2_pageWith, 3, some .int, 0, 0) := rfl
theorem cl27 : az_clt 27 2 = true := by decide +kernel
theorem hd28 : az_hs[28]? = some (RX2, yX2_pageSet, cX2_pageSet, 3, some .int, 0, 0) := rfl
theorem cl28 : az_clt 28 2 = true := by decide +kernel
theorem hd29 : az_hs[29]? = some (RX2, yX2_pages, cX2_pages, 1, some .int, 1, 22) := rfl
theorem cl29 : az_clt 29 2 = true := by decide +kernel
theorem hd30 : az_hs[30]? = some (RX2, yX2_copyFrom, cX2_copyFrom, 2, none, 1, 22) := rfl
theorem cl30 : az_clt 30 2 = true := by decide +kernel
theorem hd31 : az_hs[31]? = some (RX3, yX3_init, cX3_init, 2, none, 4, 84) := rfl
theorem cl31 : az_clt 31 3 = true := by decide +kernel
theorem hd32 : az_hs[32]? = some (RX3, yX3_states, cX3_states, 1, some .int, 0, 0) := rfl
theorem cl32 : az_clt 32 3 = true := by decide +kernel
theorem hd33 : az_hs[33]? = some (RX3, yX3_record, cX3_record, 2, none, 4, 86) := rfl
theorem cl33 : az_clt 33 3 = true := by decide +kernel
theorem hd34 : az_hs[34]? = some (RX3, yX3_takeLatest, cX3_takeLatest, 2, none, 4, 86) := rfl
theorem cl34 : az_clt 34 3 = true := by decide +kernel
theorem hd35 : az_hs[35]? = some (RX4, yX4_init, cX4_init, 1, none, 1, 20) := rfl
theorem cl35 : az_clt 35 4 = true := by decide +kernel
theorem hd36 : az_hs[36]? = some (RX4, yX4_length, cX4_length, 1, some .int, 0, 0) := rfl
theorem cl36 : az_clt 36 4 = true := by decide +kernel
theorem hd37 : az_hs[37]? = some (RX4, yX4_isFull, cX4_isFull, 1, some .boolean, 0, 0) := rfl
theorem cl37 : az_clt 37 4 = true := by decide +kernel
theorem hd38 : az_hs[38]? = some (RX4, yX4_append, cX4_append, 2, none, 0, 0) := rfl
theorem cl38 : az_clt 38 4 = true := by decide +kernel
theorem hd39 : az_hs[39]? = some (RX4, yX4_empty, cX4_empty, 1, none, 0, 0) := rfl
theorem cl39 : az_clt 39 4 = true := by decide +kernel
theorem hd40 : az_hs[40]? = some (RX4, yX4_entries, cX4_entries, 1, some .int, 0, 0) := rfl
theorem cl40 : az_clt 40 4 = true := by decide +kernel
theorem hd41 : az_hs[41]? = some (RX4, yX4_pageOfEntry, cX4_pageOfEntry, 2, some .int, 0, 0) := rfl
theorem cl41 : az_clt 41 4 = true := by decide +kernel
theorem hd42 : az_hs[42]? = some (RX4, yX4_toldByEntry, cX4_toldByEntry, 2, some .int, 0, 0) := rfl
theorem cl42 : az_clt 42 4 = true := by decide +kernel
theorem hd43 : az_hs[43]? = some (RX4, yX4_scan, cX4_scan, 4, some .int, 2, 44) := rfl
theorem cl43 : az_clt 43 4 = true := by decide +kernel
theorem hd44 : az_hs[44]? = some (RX4, yX4_dueBehind, cX4_dueBehind, 3, some .int, 0, 0) := rfl
theorem hd45 : az_hs[45]? = some (RX4, yX4_note, cX4_note, 3, none, 1, 22) := rfl
theorem cl45 : az_clt 45 4 = true := by decide +kernel
theorem hd46 : az_hs[46]? = some (RX4, yX4_startEntry, cX4_startEntry, 2, none, 0, 0) := rfl
theorem cl46 : az_clt 46 4 = true := by decide +kernel
theorem hd47 : az_hs[47]? = some (RX4, yX4_addDigit, cX4_addDigit, 3, none, 0, 0) := rfl
theorem cl47 : az_clt 47 4 = true := by decide +kernel
theorem hd48 : az_hs[48]? = some (RX5, yX5_init, cX5_init, 2, none, 2, 43) := rfl
theorem cl48 : az_clt 48 5 = true := by decide +kernel
theorem hd49 : az_hs[49]? = some (RX5, yX5_has, cX5_has, 2, some .boolean, 0, 0) := rfl
theorem cl49 : az_clt 49 5 = true := by decide +kernel
theorem hd50 : az_hs[50]? = some (RX5, yX5_lowestFree, cX5_lowestFree, 2, some .int, 0, 0) := rfl
theorem cl50 : az_clt 50 5 = true := by decide +kernel
theorem hd51 : az_hs[51]? = some (RX5, yX5_howMany, cX5_howMany, 3, some .int, 0, 0) := rfl
theorem cl51 : az_clt 51 5 = true := by decide +kernel
theorem hd52 : az_hs[52]? = some (RX5, yX5_howManyWith, cX5_howManyWith, 4, some .int, 1, 22) := rfl
theorem cl52 : az_clt 52 5 = true := by decide +kernel
theorem hd53 : az_hs[53]? = some (RX5, yX5_admit, cX5_admit, 3, none, 2, 43) := rfl
theorem cl53 : az_clt 53 5 = true := by decide +kernel
theorem hd54 : az_hs[54]? = some (RX5, yX5_dismiss, cX5_dismiss, 2, none, 0, 0) := rfl
theorem cl54 : az_clt 54 5 = true := by decide +kernel
theorem hd55 : az_hs[55]? = some (RX5, yX5_dismissAll, cX5_dismissAll, 2, none, 0, 0) := rfl
theorem cl55 : az_clt 55 5 = true := by decide +kernel
theorem hd56 : az_hs[56]? = some (RX5, yX5_numberOf, cX5_numberOf, 2, some .int, 1, 21) := rfl
theorem cl56 : az_clt 56 5 = true := by decide +kernel
theorem hd57 : az_hs[57]? = some (RX5, yX5_cellOf, cX5_cellOf, 3, some .int, 2, 41) := rfl
theorem cl57 : az_clt 57 5 = true := by decide +kernel
theorem hd58 : az_hs[58]? = some (RX5, yX5_copyFrom, cX5_copyFrom, 3, none, 2, 43) := rfl
theorem cl58 : az_clt 58 5 = true := by decide +kernel
theorem hd59 : az_hs[59]? = some (RX6, yX6_init, cX6_init, 1, none, 3, 64) := rfl
theorem cl59 : az_clt 59 6 = true := by decide +kernel
theorem hd60 : az_hs[60]? = some (RX6, yX6_mark, cX6_mark, 1, some .int, 0, 0) := rfl
theorem cl60 : az_clt 60 6 = true := by decide +kernel
theorem hd61 : az_hs[61]? = some (RX6, yX6_crashes, cX6_crashes, 1, some .int, 0, 0) := rfl
theorem cl61 : az_clt 61 6 = true := by decide +kernel
theorem hd62 : az_hs[62]? = some (RX6, yX6_swaps, cX6_swaps, 1, some .int, 0, 0) := rfl
theorem cl62 : az_clt 62 6 = true := by decide +kernel
theorem hd63 : az_hs[63]? = some (RX6, yX6_tableAt, cX6_tableAt, 2, some (.object "SwappedTables$Generation"), 0, 0) := rfl
theorem cl63 : az_clt 63 6 = true := by decide +kernel
theorem hd64 : az_hs[64]? = some (RX6, yX6_oldGeneration, cX6_oldGeneration, 1, some (.object "SwappedTables$Generation"), 1, 21) := rfl
theorem cl64 : az_clt 64 6 = true := by decide +kernel
theorem hd65 : az_hs[65]? = some (RX6, yX6_contentByOld, cX6_contentByOld, 2, some .int, 2, 41) := rfl
theorem cl65 : az_clt 65 6 = true := by decide +kernel
theorem hd66 : az_hs[66]? = some (RX6, yX6_contentByDesk, cX6_contentByDesk, 2, some .int, 3, 62) := rfl
theorem cl66 : az_clt 66 6 = true := by decide +kernel
theorem hd67 : az_hs[67]? = some (RX6, yX6_isFree, cX6_isFree, 2, some .boolean, 2, 45) := rfl
theorem cl67 : az_clt 67 6 = true := by decide +kernel
theorem hd68 : az_hs[68]? = some (RX6, yX6_freeCells, cX6_freeCells, 3, some .int, 3, 66) := rfl
theorem cl68 : az_clt 68 6 = true := by decide +kernel
theorem hd69 : az_hs[69]? = some (RX6, yX6_cellsOfReadersOnly, cX6_cellsOfReadersOnly, 3, some .int, 2, 45) := rfl
theorem cl69 : az_clt 69 6 = true := by decide +kernel
theorem hd70 : az_hs[70]? = some (RX6, yX6_cellToWrite, cX6_cellToWrite, 3, some .int, 3, 66) := rfl
theorem cl70 : az_clt 70 6 = true := by decide +kernel
theorem hd71 : az_hs[71]? = some (RX6, yX6_stepsOwed, cX6_stepsOwed, 1, some .int, 1, 22) := rfl
theorem cl71 : az_clt 71 6 = true := by decide +kernel
theorem hd72 : az_hs[72]? = some (RX6, yX6_cellsOwed, cX6_cellsOwed, 2, some .int, 2, 42) := rfl
theorem cl72 : az_clt 72 6 = true := by decide +kernel
theorem hd73 : az_hs[73]? = some (RX6, yX6_kindOwedAt, cX6_kindOwedAt, 2, some .int, 3, 63) := rfl
theorem cl73 : az_clt 73 6 = true := by decide +kernel
theorem hd74 : az_hs[74]? = some (RX6, yX6_pageOwedAt, cX6_pageOwedAt, 2, some .int, 4, 84) := rfl
theorem cl74 : az_clt 74 6 = true := by decide +kernel
theorem hd75 : az_hs[75]? = some (RX6, yX6_canGoOn, cX6_canGoOn, 1, some .boolean, 4, 88) := rfl
theorem cl75 : az_clt 75 6 = true := by decide +kernel
theorem hd76 : az_hs[76]? = some (RX6, yX6_goOn, cX6_goOn, 1, none, 5, 110) := rfl
theorem cl76 : az_clt 76 6 = true := by decide +kernel
theorem hd77 : az_hs[77]? = some (RX6, yX6_writeOwedCell, cX6_writeOwedCell, 3, none, 4, 88) := rfl
theorem cl77 : az_clt 77 6 = true := by decide +kernel
theorem hd78 : az_hs[78]? = some (RX6, yX6_writeNewTable, cX6_writeNewTable, 5, none, 3, 62) := rfl
theorem cl78 : az_clt 78 6 = true := by decide +kernel
theorem hd79 : az_hs[79]? = some (RX6, yX6_setMark, cX6_setMark, 1, none, 2, 42) := rfl
theorem cl79 : az_clt 79 6 = true := by decide +kernel
theorem hd80 : az_hs[80]? = some (RX6, yX6_tearNextStep, cX6_tearNextStep, 3, none, 4, 88) := rfl
theorem cl80 : az_clt 80 6 = true := by decide +kernel
theorem hd81 : az_hs[81]? = some (RX6, yX6_loseWhatCrashesLose, cX6_loseWhatCrashesLose, 1, none, 2, 42) := rfl
theorem cl81 : az_clt 81 6 = true := by decide +kernel
theorem hd82 : az_hs[82]? = some (RX6, yX6_copyFrom, cX6_copyFrom, 2, none, 3, 65) := rfl
theorem cl82 : az_clt 82 6 = true := by decide +kernel
theorem hd83 : az_hs[83]? = some (RX7, yX7_init, cX7_init, 1, none, 1, 22) := rfl
theorem cl83 : az_clt 83 7 = true := by decide +kernel
theorem hd84 : az_hs[84]? = some (RX7, yX7_goesOn, cX7_goesOn, 1, some .boolean, 0, 0) := rfl
theorem cl84 : az_clt 84 7 = true := by decide +kernel
theorem hd85 : az_hs[85]? = some (RX7, yX7_stepsDone, cX7_stepsDone, 1, some .int, 0, 0) := rfl
theorem cl85 : az_clt 85 7 = true := by decide +kernel
theorem hd86 : az_hs[86]? = some (RX7, yX7_start, cX7_start, 1, none, 0, 0) := rfl
theorem cl86 : az_clt 86 7 = true := by decide +kernel
theorem hd87 : az_hs[87]? = some (RX7, yX7_end, cX7_end, 1, none, 1, 22) := rfl
theorem cl87 : az_clt 87 7 = true := by decide +kernel
theorem hd88 : az_hs[88]? = some (RX7, yX7_countStep, cX7_countStep, 1, none, 0, 0) := rfl
theorem cl88 : az_clt 88 7 = true := by decide +kernel
theorem hd89 : az_hs[89]? = some (RX7, yX7_noteWritten, cX7_noteWritten, 3, none, 1, 20) := rfl
theorem cl89 : az_clt 89 7 = true := by decide +kernel
theorem hd90 : az_hs[90]? = some (RX7, yX7_cellWrittenFor, cX7_cellWrittenFor, 2, some .int, 1, 20) := rfl
theorem cl90 : az_clt 90 7 = true := by decide +kernel
theorem hd91 : az_hs[91]? = some (RX7, yX7_pageWrittenTo, cX7_pageWrittenTo, 3, some .int, 0, 0) := rfl
theorem cl91 : az_clt 91 7 = true := by decide +kernel
theorem hd92 : az_hs[92]? = some (RX7, yX7_copyFrom, cX7_copyFrom, 2, none, 1, 22) := rfl
theorem cl92 : az_clt 92 7 = true := by decide +kernel
theorem hd93 : az_hs[93]? = some (RX8, yX8_init, cX8_init, 1, none, 5, 105) := rfl
theorem cl93 : az_clt 93 8 = true := by decide +kernel
theorem hd94 : az_hs[94]? = some (RX8, yX8_write, cX8_write, 3, some .int, 6, 129) := rfl
theorem cl94 : az_clt 94 8 = true := by decide +kernel
theorem hd95 : az_hs[95]? = some (RX8, yX8_drop, cX8_drop, 2, some .int, 6, 129) := rfl
theorem cl95 : az_clt 95 8 = true := by decide +kernel
theorem hd96 : az_hs[96]? = some (RX8, yX8_tellDesk, cX8_tellDesk, 3, some .int, 5, 107) := rfl
theorem cl96 : az_clt 96 8 = true := by decide +kernel
theorem hd97 : az_hs[97]? = some (RX8, yX8_writeAll, cX8_writeAll, 4, some .int, 5, 107) := rfl
theorem cl97 : az_clt 97 8 = true := by decide +kernel
theorem hd98 : az_hs[98]? = some (RX8, yX8_clear, cX8_clear, 2, some .int, 5, 107) := rfl
theorem cl98 : az_clt 98 8 = true := by decide +kernel
theorem hd99 : az_hs[99]? = some (RX8, yX8_begin, cX8_begin, 1, some .int, 5, 107) := rfl
theorem cl99 : az_clt 99 8 = true := by decide +kernel
theorem hd100 : az_hs[100]? = some (RX8, yX8_step, cX8_step, 1, some .int, 6, 130) := rfl
theorem cl100 : az_clt 100 8 = true := by decide +kernel
theorem hd101 : az_hs[101]? = some (RX8, yX8_finish, cX8_finish, 3, some .int, 6, 130) := rfl
theorem cl101 : az_clt 101 8 = true := by decide +kernel
theorem hd102 : az_hs[102]? = some (RX8, yX8_giveUp, cX8_giveUp, 2, some .int, 5, 107) := rfl
theorem cl102 : az_clt 102 8 = true := by decide +kernel
theorem hd103 : az_hs[103]? = some (RX8, yX8_crash, cX8_crash, 2, some .int, 5, 110) := rfl
theorem cl103 : az_clt 103 8 = true := by decide +kernel
theorem hd104 : az_hs[104]? = some (RX8, yX8_open, cX8_open, 2, some .int, 5, 107) := rfl
theorem cl104 : az_clt 104 8 = true := by decide +kernel
theorem hd105 : az_hs[105]? = some (RX8, yX8_close, cX8_close, 2, some .int, 5, 107) := rfl
theorem cl105 : az_clt 105 8 = true := by decide +kernel
theorem hd106 : az_hs[106]? = some (RX8, yX8_type, cX8_type, 2, some .int, 1, 21) := rfl
theorem cl106 : az_clt 106 8 = true := by decide +kernel
theorem hd107 : az_hs[107]? = some (RX8, yX8_clearText, cX8_clearText, 2, some .int, 1, 20) := rfl
theorem cl107 : az_clt 107 8 = true := by decide +kernel
theorem hd108 : az_hs[108]? = some (RX8, yX8_undo, cX8_undo, 1, some .int, 5, 107) := rfl
theorem cl108 : az_clt 108 8 = true := by decide +kernel
theorem hd109 : az_hs[109]? = some (RX8, yX8_keep, cX8_keep, 1, some .int, 4, 86) := rfl
theorem cl109 : az_clt 109 8 = true := by decide +kernel
theorem hd110 : az_hs[110]? = some (RX8, yX8_restore, cX8_restore, 1, some .int, 5, 107) := rfl
theorem cl110 : az_clt 110 8 = true := by decide +kernel
theorem hd111 : az_hs[111]? = some (RX8, yX8_read, cX8_read, 2, some .int, 3, 62) := rfl
theorem cl111 : az_clt 111 8 = true := by decide +kernel
theorem hd112 : az_hs[112]? = some (RX8, yX8_readDesk, cX8_readDesk, 2, some .int, 4, 83) := rfl
theorem cl112 : az_clt 112 8 = true := by decide +kernel
theorem hd113 : az_hs[113]? = some (RX8, yX8_readBy, cX8_readBy, 3, some .int, 3, 63) := rfl
theorem cl113 : az_clt 113 8 = true := by decide +kernel
theorem hd114 : az_hs[114]? = some (RX8, yX8_cell, cX8_cell, 3, some .int, 3, 66) := rfl
theorem cl114 : az_clt 114 8 = true := by decide +kernel
theorem hd115 : az_hs[115]? = some (RX8, yX8_table, cX8_table, 4, some .int, 2, 41) := rfl
theorem cl115 : az_clt 115 8 = true := by decide +kernel
theorem hd116 : az_hs[116]? = some (RX8, yX8_owed, cX8_owed, 3, some .int, 5, 105) := rfl
theorem cl116 : az_clt 116 8 = true := by decide +kernel
theorem hd117 : az_hs[117]? = some (RX8, yX8_reader, cX8_reader, 2, some .int, 2, 42) := rfl
theorem cl117 : az_clt 117 8 = true := by decide +kernel
theorem hd118 : az_hs[118]? = some (RX8, yX8_unevenness, cX8_unevenness, 1, some .double, 1, 22) := rfl
theorem cl118 : az_clt 118 8 = true := by decide +kernel
theorem hd119 : az_hs[119]? = some (RX8, yX8_unevennessBits, cX8_unevennessBits, 1, some .int, 2, 42) := rfl
theorem cl119 : az_clt 119 8 = true := by decide +kernel
theorem hd120 : az_hs[120]? = some (RX8, yX8_count, cX8_count, 2, some .int, 4, 88) := rfl
theorem cl120 : az_clt 120 8 = true := by decide +kernel
theorem hd121 : az_hs[121]? = some (RX8, yX8_isPage, cX8_isPage, 1, some .boolean, 0, 0) := rfl
theorem hd122 : az_hs[122]? = some (RX8, yX8_isCell, cX8_isCell, 1, some .boolean, 0, 0) := rfl
theorem hd123 : az_hs[123]? = some (RX8, yX8_asNumber, cX8_asNumber, 1, some .int, 0, 0) := rfl
theorem hd124 : az_hs[124]? = some (RX8, yX8_fillInts, cX8_fillInts, 3, none, 0, 0) := rfl
theorem hd125 : az_hs[125]? = some (RX8, yX8_copyInts, cX8_copyInts, 3, none, 0, 0) := rfl
theorem hd126 : az_hs[126]? = some (RX8, yX8_bitsOf, cX8_bitsOf, 4, some .int, 0, 0) := rfl
theorem hd127 : az_hs[127]? = some (RX9, yX9_init, cX9_init, 2, none, 1, 20) := rfl
theorem cl127 : az_clt 127 9 = true := by decide +kernel
theorem hd128 : az_hs[128]? = some (RX9, yX9_in, cX9_in, 3, some .boolean, 0, 0) := rfl
theorem hd129 : az_hs[129]? = some (RX9, yX9_isPage, cX9_isPage, 1, some .boolean, 1, 22) := rfl
theorem hd130 : az_hs[130]? = some (RX9, yX9_lays, cX9_lays, 5, none, 0, 0) := rfl
theorem hd131 : az_hs[131]? = some (RX9, yX9_records, cX9_records, 2, none, 1, 24) := rfl
theorem cl131 : az_clt 131 9 = true := by decide +kernel
theorem hd132 : az_hs[132]? = some (RX9, yX9_sealOf, cX9_sealOf, 1, some .int, 0, 0) := rfl
theorem hd133 : az_hs[133]? = some (RX9, yX9_old, cX9_old, 2, some .int, 0, 0) := rfl
theorem cl133 : az_clt 133 9 = true := by decide +kernel
theorem hd134 : az_hs[134]? = some (RX9, yX9_isReader, cX9_isReader, 2, some .boolean, 1, 22) := rfl
theorem cl134 : az_clt 134 9 = true := by decide +kernel
theorem hd135 : az_hs[135]? = some (RX9, yX9_pageOld, cX9_pageOld, 4, some .int, 1, 21) := rfl
theorem cl135 : az_clt 135 9 = true := by decide +kernel
theorem hd136 : az_hs[136]? = some (RX9, yX9_hasIt, cX9_hasIt, 5, some .boolean, 2, 43) := rfl
theorem cl136 : az_clt 136 9 = true := by decide +kernel
theorem hd137 : az_hs[137]? = some (RX9, yX9_readersOf, cX9_readersOf, 4, some .int, 3, 67) := rfl
theorem cl137 : az_clt 137 9 = true := by decide +kernel
theorem hd138 : az_hs[138]? = some (RX9, yX9_pageWritten, cX9_pageWritten, 4, some .int, 0, 0) := rfl
theorem cl138 : az_clt 138 9 = true := by decide +kernel
theorem hd139 : az_hs[139]? = some (RX9, yX9_isFree, cX9_isFree, 2, some .boolean, 4, 90) := rfl
theorem cl139 : az_clt 139 9 = true := by decide +kernel
theorem hd140 : az_hs[140]? = some (RX9, yX9_isTorn, cX9_isTorn, 2, some .boolean, 1, 20) := rfl
theorem cl140 : az_clt 140 9 = true := by decide +kernel
theorem hd141 : az_hs[141]? = some (RX9, yX9_nextFree, cX9_nextFree, 3, some .int, 5, 111) := rfl
theorem cl141 : az_clt 141 9 = true := by decide +kernel
theorem hd142 : az_hs[142]? = some (RX9, yX9_writes, cX9_writes, 4, none, 1, 20) := rfl
theorem cl142 : az_clt 142 9 = true := by decide +kernel
theorem hd143 : az_hs[143]? = some (RX9, yX9_told, cX9_told, 3, some .int, 0, 0) := rfl
theorem cl143 : az_clt 143 9 = true := by decide +kernel
theorem hd144 : az_hs[144]? = some (RX9, yX9_clearsDesk, cX9_clearsDesk, 2, none, 0, 0) := rfl
theorem cl144 : az_clt 144 9 = true := by decide +kernel
theorem hd145 : az_hs[145]? = some (RX9, yX9_becomes, cX9_becomes, 3, some .int, 2, 45) := rfl
theorem cl145 : az_clt 145 9 = true := by decide +kernel
theorem hd146 : az_hs[146]? = some (RX9, yX9_write, cX9_write, 3, some .int, 3, 67) := rfl
theorem cl146 : az_clt 146 9 = true := by decide +kernel
theorem hd147 : az_hs[147]? = some (RX9, yX9_drop, cX9_drop, 2, some .int, 3, 67) := rfl
theorem cl147 : az_clt 147 9 = true := by decide +kernel
theorem hd148 : az_hs[148]? = some (RX9, yX9_writeAll, cX9_writeAll, 3, some .int, 5, 108) := rfl
theorem cl148 : az_clt 148 9 = true := by decide +kernel
theorem hd149 : az_hs[149]? = some (RX9, yX9_clear, cX9_clear, 2, some .int, 2, 45) := rfl
theorem cl149 : az_clt 149 9 = true := by decide +kernel
theorem hd150 : az_hs[150]? = some (RX9, yX9_contents, cX9_contents, 3, some .int, 0, 0) := rfl
theorem cl150 : az_clt 150 9 = true := by decide +kernel
theorem hd151 : az_hs[151]? = some (RX9, yX9_owes, cX9_owes, 1, some .int, 1, 22) := rfl
theorem cl151 : az_clt 151 9 = true := by decide +kernel
theorem hd152 : az_hs[152]? = some (RX9, yX9_pageOf, cX9_pageOf, 4, some .int, 0, 0) := rfl
theorem cl152 : az_clt 152 9 = true := by decide +kernel
theorem hd153 : az_hs[153]? = some (RX9, yX9_endsSwap, cX9_endsSwap, 2, none, 0, 0) := rfl
theorem cl153 : az_clt 153 9 = true := by decide +kernel
theorem hd154 : az_hs[154]? = some (RX9, yX9_writesTable, cX9_writesTable, 5, none, 1, 21) := rfl
theorem cl154 : az_clt 154 9 = true := by decide +kernel
theorem hd155 : az_hs[155]? = some (RX9, yX9_canStep, cX9_canStep, 1, some .boolean, 6, 133) := rfl
theorem cl155 : az_clt 155 9 = true := by decide +kernel
theorem hd156 : az_hs[156]? = some (RX9, yX9_steps, cX9_steps, 3, none, 6, 133) := rfl
theorem cl156 : az_clt 156 9 = true := by decide +kernel
theorem hd157 : az_hs[157]? = some (RX9, yX9_begin, cX9_begin, 1, some .int, 2, 45) := rfl
theorem cl157 : az_clt 157 9 = true := by decide +kernel
theorem hd158 : az_hs[158]? = some (RX9, yX9_step, cX9_step, 1, some .int, 7, 155) := rfl
theorem cl158 : az_clt 158 9 = true := by decide +kernel
theorem hd159 : az_hs[159]? = some (RX9, yX9_finish, cX9_finish, 1, some .int, 7, 155) := rfl
theorem cl159 : az_clt 159 9 = true := by decide +kernel
theorem hd160 : az_hs[160]? = some (RX9, yX9_giveUp, cX9_giveUp, 2, some .int, 2, 45) := rfl
theorem cl160 : az_clt 160 9 = true := by decide +kernel
theorem hd161 : az_hs[161]? = some (RX9, yX9_tears, cX9_tears, 3, none, 6, 133) := rfl
theorem cl161 : az_clt 161 9 = true := by decide +kernel
theorem hd162 : az_hs[162]? = some (RX9, yX9_crash, cX9_crash, 3, some .int, 7, 155) := rfl
theorem cl162 : az_clt 162 9 = true := by decide +kernel
theorem hd163 : az_hs[163]? = some (RX9, yX9_readers, cX9_readers, 3, some .int, 2, 43) := rfl
theorem cl163 : az_clt 163 9 = true := by decide +kernel
theorem hd164 : az_hs[164]? = some (RX9, yX9_open, cX9_open, 4, some .int, 3, 65) := rfl
theorem cl164 : az_clt 164 9 = true := by decide +kernel
theorem hd165 : az_hs[165]? = some (RX9, yX9_close, cX9_close, 3, some .int, 3, 65) := rfl
theorem cl165 : az_clt 165 9 = true := by decide +kernel
theorem hd166 : az_hs[166]? = some (RX9, yX9_type, cX9_type, 2, some .int, 0, 0) := rfl
theorem cl166 : az_clt 166 9 = true := by decide +kernel
theorem hd167 : az_hs[167]? = some (RX9, yX9_clearText, cX9_clearText, 2, some .int, 0, 0) := rfl
theorem cl167 : az_clt 167 9 = true := by decide +kernel
theorem hd168 : az_hs[168]? = some (RX9, yX9_sees, cX9_sees, 3, some .boolean, 1, 22) := rfl
theorem cl168 : az_clt 168 9 = true := by decide +kernel
theorem hd169 : az_hs[169]? = some (RX9, yX9_takes, cX9_takes, 3, some .boolean, 2, 44) := rfl
theorem cl169 : az_clt 169 9 = true := by decide +kernel
theorem hd170 : az_hs[170]? = some (RX9, yX9_isEntry, cX9_isEntry, 2, some .boolean, 3, 66) := rfl
theorem cl170 : az_clt 170 9 = true := by decide +kernel
theorem hd171 : az_hs[171]? = some (RX9, yX9_fault, cX9_fault, 2, some .int, 4, 87) := rfl
theorem cl171 : az_clt 171 9 = true := by decide +kernel
theorem hd172 : az_hs[172]? = some (RX9, yX9_undo, cX9_undo, 1, some .int, 1, 24) := rfl
theorem cl172 : az_clt 172 9 = true := by decide +kernel
theorem hd173 : az_hs[173]? = some (RX9, yX9_keep, cX9_keep, 1, some .int, 1, 24) := rfl
theorem cl173 : az_clt 173 9 = true := by decide +kernel
theorem hd174 : az_hs[174]? = some (RX9, yX9_restore, cX9_restore, 1, some .int, 2, 45) := rfl
theorem cl174 : az_clt 174 9 = true := by decide +kernel
theorem hd175 : az_hs[175]? = some (RX9, yX9_contentOf, cX9_contentOf, 2, some .int, 0, 0) := rfl
theorem cl175 : az_clt 175 9 = true := by decide +kernel
theorem hd176 : az_hs[176]? = some (RX9, yX9_read, cX9_read, 2, some .int, 2, 42) := rfl
theorem cl176 : az_clt 176 9 = true := by decide +kernel
theorem hd177 : az_hs[177]? = some (RX9, yX9_readDesk, cX9_readDesk, 3, some .int, 2, 42) := rfl
theorem cl177 : az_clt 177 9 = true := by decide +kernel
theorem hd178 : az_hs[178]? = some (RX9, yX9_readBy, cX9_readBy, 3, some .int, 2, 43) := rfl
theorem cl178 : az_clt 178 9 = true := by decide +kernel
theorem hd179 : az_hs[179]? = some (RX9, yX9_cell, cX9_cell, 3, some .int, 5, 111) := rfl
theorem cl179 : az_clt 179 9 = true := by decide +kernel
theorem hd180 : az_hs[180]? = some (RX9, yX9_pagesOf, cX9_pagesOf, 4, some .int, 0, 0) := rfl
theorem cl180 : az_clt 180 9 = true := by decide +kernel
theorem hd181 : az_hs[181]? = some (RX9, yX9_table, cX9_table, 3, some .int, 1, 23) := rfl
theorem cl181 : az_clt 181 9 = true := by decide +kernel
theorem hd182 : az_hs[182]? = some (RX9, yX9_owed, cX9_owed, 4, some .int, 2, 42) := rfl
theorem cl182 : az_clt 182 9 = true := by decide +kernel
theorem hd183 : az_hs[183]? = some (RX9, yX9_reader, cX9_reader, 2, some .int, 2, 43) := rfl
theorem cl183 : az_clt 183 9 = true := by decide +kernel
theorem hd184 : az_hs[184]? = some (RX9, yX9_allWear, cX9_allWear, 3, some .int, 0, 0) := rfl
theorem cl184 : az_clt 184 9 = true := by decide +kernel
theorem hd185 : az_hs[185]? = some (RX9, yX9_greatestWear, cX9_greatestWear, 3, some .int, 0, 0) := rfl
theorem cl185 : az_clt 185 9 = true := by decide +kernel
theorem hd186 : az_hs[186]? = some (RX9, yX9_unevenness, cX9_unevenness, 1, some .double, 1, 22) := rfl
theorem cl186 : az_clt 186 9 = true := by decide +kernel
theorem hd187 : az_hs[187]? = some (RX9, yX9_unevennessBits, cX9_unevennessBits, 1, some .int, 2, 43) := rfl
theorem cl187 : az_clt 187 9 = true := by decide +kernel
theorem hd188 : az_hs[188]? = some (RX9, yX9_ones, cX9_ones, 3, some .int, 0, 0) := rfl
theorem hd189 : az_hs[189]? = some (RX9, yX9_cellsThat, cX9_cellsThat, 6, some .int, 5, 111) := rfl
theorem cl189 : az_clt 189 9 = true := by decide +kernel
theorem hd190 : az_hs[190]? = some (RX9, yX9_owedCells, cX9_owedCells, 3, some .int, 2, 42) := rfl
theorem cl190 : az_clt 190 9 = true := by decide +kernel
theorem hd191 : az_hs[191]? = some (RX9, yX9_count, cX9_count, 2, some .int, 6, 136) := rfl
theorem cl191 : az_clt 191 9 = true := by decide +kernel
theorem hd192 : az_hs[192]? = some (RJxf58ca, yJxf58ca_isNaN_12338, cJxf58ca_isNaN_12338, 1, some .boolean, 0, 0) := rfl
theorem hd193 : az_hs[193]? = some (RJxf58ca, yJxf58ca_floatToIntBits_5c35a, cJxf58ca_floatToIntBits_5c35a, 1, some .int, 1, 23) := rfl
theorem hd194 : az_hs[194]? = some (RJ6, yJ6_bitCount_0f7a4, cJ6_bitCount_0f7a4, 1, some .int, 0, 0) := rfl
theorem hd195 : az_hs[195]? = some (RJ9, yJ9_floorMod_7cf53, cJ9_floorMod_7cf53, 3, some .int, 0, 0) := rfl
end
section
/-! pure words: what the methods answer -/
theorem up_ne {w : az_W} {a b : Nat} {e x : va_E} (h : w b = x) (hn : b ≠ a) : va_up w a e b = x := by simp [va_up, hn, h]
theorem up_eq {w : az_W} {a : Nat} {e : va_E} : va_up w a e a = e := by simp [va_up]
theorem up_self {w : az_W} {a : Nat} {e : va_E} (h : w a = e) : va_up w a e = w := by
  funext k
  by_cases hk : k = a
  · subst hk; simp [va_up, h]
  · simp [va_up, hk]
theorem up_up {w : az_W} {a : Nat} {e e2 : va_E} : va_up (va_up w a e) a e2 = va_up w a e2 := by
  funext k
  by_cases hk : k = a <;> simp [va_up, hk]
theorem up_sw {w : az_W} {a b : Nat} {e e2 : va_E} (h : a ≠ b) : va_up (va_up w a e) b e2 = va_up (va_up w b e2) a e := by
  funext k
  by_cases hk : k = a
  · subst hk; simp [va_up, h]
  · by_cases hb : k = b
    · subst hb; simp [va_up, hk]
    · simp [va_up, hk, hb]
theorem lp_t {j N : Nat} (hj : j ≤ N) (hN : N < 2 ^ 31) {x : Int32} (hx : x = nI N) (c : x ≤ nI j) : j = N := by
  subst hx
  have := (nI_leI hN (by omega)).mp c
  omega
theorem lp_f {j N : Nat} (hj : j < 2 ^ 31) (hN : N < 2 ^ 31) {x : Int32} (hx : x = nI N) (c : ¬ x ≤ nI j) : j < N := by
  subst hx
  rcases Nat.lt_or_ge j N with q | q
  · exact q
  · exact absurd ((nI_leI hN hj).mpr q) c
/-- in range -/
def pgn (n : Nat) (p : Int32) : Bool := if p < 0 then false else if nI n ≤ p then false else true
theorem pgn_nI {n : Nat} {p : Int32} (h : pgn n p = true) (hn : n < 2 ^ 31) : ∃ j : Nat, j < n ∧ p = nI j := by
  unfold pgn at h
  by_cases h1 : p < 0
  · rw [if_pos h1] at h; cases h
  · rw [if_neg h1] at h
    by_cases h2 : nI n ≤ p
    · rw [if_pos h2] at h; cases h
    · obtain ⟨j, hj, rfl⟩ := nI_of h1
      exact ⟨j, lp_f hj hn rfl h2, rfl⟩
theorem pgn_of {n j : Nat} (h : j < n) (hn : n < 2 ^ 31) : pgn n (nI j) = true := by
  unfold pgn
  rw [if_neg (nI_pos (by omega)), if_neg (fun c => by have := (nI_leI hn (by omega)).mp c; omega)]
theorem ix_nI {n : Nat} {p : Int32} (h1 : ¬ p < 0) {x : Int32} (hx : x = nI n) (h2 : ¬ x ≤ p) (hn : n < 2 ^ 31) : ∃ j : Nat, j < n ∧ p = nI j := by
  subst hx
  exact pgn_nI (by unfold pgn; rw [if_neg h1, if_neg h2]) hn
/-- an element, or a number for none -/
def ix (n : Nat) (d : Int32) (f : Nat → Int32) (p : Int32) : Int32 := if pgn n p = true then f p.toNatClampNeg else d
theorem ix_in {n j : Nat} {d : Int32} {f : Nat → Int32} (h : j < n) (hn : n < 2 ^ 31) : ix n d f (nI j) = f j := by
  unfold ix
  rw [if_pos (pgn_of h hn), nI_clamp (by omega)]
theorem ix_out {n : Nat} {d : Int32} {f : Nat → Int32} {p : Int32} (h : pgn n p = false) : ix n d f p = d := by
  unfold ix
  rw [h]; rfl
def ixu (n : Nat) (f : Nat → Int32) (p v : Int32) : Nat → Int32 := if pgn n p = true then upd f p.toNatClampNeg v else f
theorem ixu_in {n j : Nat} {v : Int32} {f : Nat → Int32} (h : j < n) (hn : n < 2 ^ 31) : ixu n f (nI j) v = upd f j v := by
  unfold ixu
  rw [if_pos (pgn_of h hn), nI_clamp (by omega)]
theorem ixu_out {n : Nat} {v : Int32} {f : Nat → Int32} {p : Int32} (h : pgn n p = false) : ixu n f p v = f := by
  unfold ixu
  rw [h]; rfl
theorem pgn_neg {n : Nat} {p : Int32} (h : p < 0) : pgn n p = false := by unfold pgn; rw [if_pos h]
theorem pgn_big {n : Nat} {p x : Int32} (hx : x = nI n) (h : x ≤ p) : pgn n p = false := by
  subst hx
  unfold pgn
  by_cases h1 : p < 0
  · rw [if_pos h1]
  · rw [if_neg h1, if_pos h]
theorem pgn_mid {n : Nat} {p x : Int32} (h1 : ¬ p < 0) (hx : x = nI n) (h : ¬ x ≤ p) : pgn n p = true := by
  subst hx
  unfold pgn
  rw [if_neg h1, if_neg h]
/-- how many hold, below n -/
def cnt (p : Nat → Bool) : Nat → Nat
  | 0 => 0
  | n + 1 => if p n = true then cnt p n + 1 else cnt p n
theorem cnt_t {p : Nat → Bool} {n : Nat} (h : p n = true) : cnt p (n + 1) = cnt p n + 1 := by simp [cnt, h]
theorem cnt_f {p : Nat → Bool} {n : Nat} (h : p n = false) : cnt p (n + 1) = cnt p n := by simp [cnt, h]
theorem cnt_le (p : Nat → Bool) : ∀ n, cnt p n ≤ n
  | 0 => Nat.le_refl 0
  | n + 1 => by
    have := cnt_le p n
    unfold cnt
    split <;> omega
/-- the first that holds, below n; -5 for none -/
def fi (p : Nat → Bool) (n : Nat) : Int32 := match (List.range n).find? p with
  | some i => nI i
  | none => -5
theorem fi_hit {p : Nat → Bool} {n j : Nat} (h : ∀ i, i < j → p i = false) (hj : p j = true) (hn : j < n) : fi p n = nI j := by
  have : (List.range n).find? p = some j := by
    rw [List.find?_range_eq_some]
    exact ⟨hj, by simpa using hn, fun i hi => by simp [h i hi]⟩
  unfold fi
  rw [this]
theorem fi_none {p : Nat → Bool} {n : Nat} (h : ∀ i, i < n → p i = false) : fi p n = -5 := by
  have : (List.range n).find? p = none := by
    rw [List.find?_range_eq_none]
    intro i hi
    simp [h i hi]
  unfold fi
  rw [this]
theorem fi_cases (p : Nat → Bool) (n : Nat) : (∃ j, j < n ∧ p j = true ∧ (∀ i, i < j → p i = false) ∧ fi p n = nI j) ∨ ((∀ i, i < n → p i = false) ∧ fi p n = -5) := by
  by_cases h : ∀ i, i < n → p i = false
  · exact Or.inr ⟨h, fi_none h⟩
  · have h2 : ∃ i, i < n ∧ p i = true := by
      rcases Classical.em (∃ i, i < n ∧ p i = true) with q | q
      · exact q
      · exact absurd (fun i hi => by
          cases hp : p i with
          | false => rfl
          | true => exact absurd ⟨i, hi, hp⟩ q) h
    obtain ⟨j, ⟨hj, hp⟩, hm⟩ := pk_least (fun i => i < n ∧ p i = true) h2
    have hm2 : ∀ i, i < j → p i = false := fun i hi => by
      cases hq : p i with
      | false => rfl
      | true => exact absurd ⟨by omega, hq⟩ (hm i hi)
    exact Or.inl ⟨j, hj, hp, hm2, fi_hit hm2 hp hj⟩
def smf (f : Nat → Int32) : Nat → Int32
  | 0 => 0
  | n + 1 => smf f n + f n
def mxf (f : Nat → Int32) : Nat → Int32
  | 0 => 0
  | n + 1 => if f n ≤ mxf f n then mxf f n else f n
def psf (f : Nat → Int32) : Nat → Int32
  | 0 => 0
  | n + 1 => if f n = -5 then psf f n else psf f n ||| (1 <<< (nI n &&& 31))
def flf (f : Nat → Int32) (v : Int32) (j : Nat) : Nat → Int32 := fun k => if k < j then v else f k
theorem flf_0 (f : Nat → Int32) (v : Int32) : flf f v 0 = f := by funext k; simp [flf]
theorem flf_s (f : Nat → Int32) (v : Int32) (j : Nat) : upd (flf f v j) j v = flf f v (j + 1) := by
  funext k
  by_cases h : k = j
  · subst h; simp [upd, flf]
  · by_cases h2 : k < j
    · simp [upd, flf, h, h2]; omega
    · have : ¬ k < j + 1 := by omega
      simp [upd, flf, h, h2, this]
def cpf (f g : Nat → Int32) (j : Nat) : Nat → Int32 := fun k => if k < j then f k else g k
theorem cpf_0 (f g : Nat → Int32) : cpf f g 0 = g := by funext k; simp [cpf]
theorem cpf_s (f g : Nat → Int32) (j : Nat) : upd (cpf f g j) j (f j) = cpf f g (j + 1) := by
  funext k
  by_cases h : k = j
  · subst h; simp [upd, cpf]
  · by_cases h2 : k < j
    · have : k < j + 1 := by omega
      simp [upd, cpf, h, h2, this]
    · have : ¬ k < j + 1 := by omega
      simp [upd, cpf, h, h2, this]
theorem az_fitb {x : Int32} (h : x = 0 ∨ x = 1) : az_fit .boolean (.int x) = true := by rcases h with rfl | rfl <;> rfl
theorem az_nr_b {x : Int32} (h : x = 0 ∨ x = 1) : az_nr 2 x = x := by rcases h with rfl | rfl <;> rfl
def sealOf (x : Int32) : Int32 := x * 37 + 11 - (x * 37 + 11) / 101 * 101
end
section
/-! methods' runs, laid by wip/whole/walk.py out of wip/whole/specs1.py -/
set_option maxRecDepth 20000 in
theorem s_isPage {X : az_X} {w : az_W} {sz sl : Nat} {p : Int32}  : az_M X 121 [.int p] w sz sl (some (.int (zb (pgn 8 p))), w, sz, sl) := by
  refine az_Mof hd121 ?_
  show az_Ev X 121 0 [.int p] [] w sz sl _
  refine E_il0 k121_0 ?_
  refine E_iflt k121_1 (fun c1 => ?_) (fun d1 => ?_)
  · skip
    refine E_iconst k121_7 ?_
    exact E_zret k121_8 hd121 rfl (by first | exact Or.inl rfl | exact Or.inr rfl | exact zb01 _) (by first | (rw [pgn_neg c1]; rfl) | (rw [pgn_big rfl c4]; rfl) | (rw [pgn_mid d1 rfl d4]; rfl))
  · skip
    refine E_il0 k121_2 ?_
    refine E_bipush k121_3 ?_
    refine E_icge k121_4 (fun c4 => ?_) (fun d4 => ?_)
    · skip
      refine E_iconst k121_7 ?_
      exact E_zret k121_8 hd121 rfl (by first | exact Or.inl rfl | exact Or.inr rfl | exact zb01 _) (by first | (rw [pgn_neg c1]; rfl) | (rw [pgn_big rfl c4]; rfl) | (rw [pgn_mid d1 rfl d4]; rfl))
    · skip
      refine E_iconst k121_5 ?_
      refine E_goto k121_6 ?_
      exact E_zret k121_8 hd121 rfl (by first | exact Or.inl rfl | exact Or.inr rfl | exact zb01 _) (by first | (rw [pgn_neg c1]; rfl) | (rw [pgn_big rfl c4]; rfl) | (rw [pgn_mid d1 rfl d4]; rfl))
set_option maxRecDepth 20000 in
theorem s_isCell {X : az_X} {w : az_W} {sz sl : Nat} {p : Int32}  : az_M X 122 [.int p] w sz sl (some (.int (zb (pgn 24 p))), w, sz, sl) := by
  refine az_Mof hd122 ?_
  show az_Ev X 122 0 [.int p] [] w sz sl _
  refine E_il0 k122_0 ?_
  refine E_iflt k122_1 (fun c1 => ?_) (fun d1 => ?_)
  · skip
    refine E_iconst k122_7 ?_
    exact E_zret k122_8 hd122 rfl (by first | exact Or.inl rfl | exact Or.inr rfl | exact zb01 _) (by first | (rw [pgn_neg c1]; rfl) | (rw [pgn_big rfl c4]; rfl) | (rw [pgn_mid d1 rfl d4]; rfl))
  · skip
    refine E_il0 k122_2 ?_
    refine E_bipush k122_3 ?_
    refine E_icge k122_4 (fun c4 => ?_) (fun d4 => ?_)
    · skip
      refine E_iconst k122_7 ?_
      exact E_zret k122_8 hd122 rfl (by first | exact Or.inl rfl | exact Or.inr rfl | exact zb01 _) (by first | (rw [pgn_neg c1]; rfl) | (rw [pgn_big rfl c4]; rfl) | (rw [pgn_mid d1 rfl d4]; rfl))
    · skip
      refine E_iconst k122_5 ?_
      refine E_goto k122_6 ?_
      exact E_zret k122_8 hd122 rfl (by first | exact Or.inl rfl | exact Or.inr rfl | exact zb01 _) (by first | (rw [pgn_neg c1]; rfl) | (rw [pgn_big rfl c4]; rfl) | (rw [pgn_mid d1 rfl d4]; rfl))
set_option maxRecDepth 20000 in
theorem s_asNumber {X : az_X} {w : az_W} {sz sl : Nat} {b : Bool}  : az_M X 123 [.int (zb b)] w sz sl (some (.int (zb b)), w, sz, sl) := by
  refine az_Mof hd123 ?_
  show az_Ev X 123 0 [.int (zb b)] [] w sz sl _
  refine E_il0 k123_0 ?_
  refine E_zeq k123_1 (fun c1 => ?_) (fun d1 => ?_)
  · skip
    refine E_iconst k123_4 ?_
    exact E_iret k123_5 hd123 rfl (by first | (rw [c1]; rfl) | (rw [d1]; rfl))
  · skip
    refine E_iconst k123_2 ?_
    refine E_goto k123_3 ?_
    exact E_iret k123_5 hd123 rfl (by first | (rw [c1]; rfl) | (rw [d1]; rfl))
set_option maxRecDepth 20000 in
theorem s_fillInts {X : az_X} {w : az_W} {sz sl : Nat} {r n : Nat} {f : Nat → Int32} {v : Int32} (h0 : w r = .inl (0, n, .inl f)) (hn : n < 2 ^ 31) : az_M X 124 [.ref r, .int v] w sz sl (none, va_up w r (.inl (0, n, .inl (flf f v n))), sz, sl) := by
  refine az_Mof hd124 ?_
  show az_Ev X 124 0 [.ref r, .int v, .null] [] w sz sl _
  refine E_iconst k124_0 ?_
  refine E_is2 k124_1 rfl ?_
  have loop2 : ∀ j : Nat, j ≤ n → az_Ev X 124 2 [.ref r, .int v, .int (nI j)] [] (va_up w r (.inl (0, n, .inl (flf f v j)))) sz sl (none, va_up w r (.inl (0, n, .inl (flf f v n))), sz, sl) := by
    refine az_ind n _ (fun j hj2 ih2 => ?_)
    refine E_il2 k124_2 ?_
    refine E_al0 k124_3 ?_
    refine E_alen k124_4 up_eq (by decide) ?_
    refine E_icge k124_5 (fun c5 => ?_) (fun d5 => ?_)
    · skip
      have he2 := lp_t hj2 hn rfl c5
      subst he2
      exact E_vret k124_12 hd124 rfl rfl
    · skip
      have hlt2 := lp_f (by omega) hn rfl d5
      refine E_al0 k124_6 ?_
      refine E_il2 k124_7 ?_
      refine E_il1 k124_8 ?_
      refine E_iast k124_9 up_eq hlt2 hn ?_
      refine E_inc2 k124_10 rfl ?_
      refine E_goto k124_11 ?_
      exact ev_cong (ih2 hlt2) (by rw [nI_1]) rfl (by rw [up_up, flf_s])
  exact ev_cong (loop2 0 (Nat.zero_le _)) rfl rfl (by rw [flf_0, up_self h0])
set_option maxRecDepth 20000 in
theorem s_copyInts {X : az_X} {w : az_W} {sz sl : Nat} {r q n : Nat} {f g : Nat → Int32} (h0 : w r = .inl (0, n, .inl f)) (h1 : w q = .inl (0, n, .inl g)) (hne : r ≠ q) (hn : n < 2 ^ 31) : az_M X 125 [.ref r, .ref q] w sz sl (none, va_up w q (.inl (0, n, .inl (cpf f g n))), sz, sl) := by
  refine az_Mof hd125 ?_
  show az_Ev X 125 0 [.ref r, .ref q, .null] [] w sz sl _
  refine E_iconst k125_0 ?_
  refine E_is2 k125_1 rfl ?_
  have loop2 : ∀ j : Nat, j ≤ n → az_Ev X 125 2 [.ref r, .ref q, .int (nI j)] [] (va_up w q (.inl (0, n, .inl (cpf f g j)))) sz sl (none, va_up w q (.inl (0, n, .inl (cpf f g n))), sz, sl) := by
    refine az_ind n _ (fun j hj2 ih2 => ?_)
    refine E_il2 k125_2 ?_
    refine E_al0 k125_3 ?_
    refine E_alen k125_4 (up_ne h0 hne) (by decide) ?_
    refine E_icge k125_5 (fun c5 => ?_) (fun d5 => ?_)
    · skip
      have he2 := lp_t hj2 hn rfl c5
      subst he2
      exact E_vret k125_18 hd125 rfl rfl
    · skip
      have hlt2 := lp_f (by omega) hn rfl d5
      refine E_il2 k125_6 ?_
      refine E_al1 k125_7 ?_
      refine E_alen k125_8 up_eq (by decide) ?_
      refine E_icge k125_9 (fun c9 => ?_) (fun d9 => ?_)
      · skip
        exact absurd ((nI_leI hn (by omega)).mp c9) (by omega)
      · skip
        refine E_al1 k125_10 ?_
        refine E_il2 k125_11 ?_
        refine E_al0 k125_12 ?_
        refine E_il2 k125_13 ?_
        refine E_ald k125_14 rfl (up_ne h0 hne) hlt2 hn ?_
        refine E_iast k125_15 up_eq hlt2 hn ?_
        refine E_inc2 k125_16 rfl ?_
        refine E_goto k125_17 ?_
        exact ev_cong (ih2 hlt2) (by rw [nI_1]) rfl (by rw [up_up, cpf_s])
  exact ev_cong (loop2 0 (Nat.zero_le _)) rfl rfl (by rw [cpf_0, up_self h1])
set_option maxRecDepth 20000 in
theorem s_toldOf {X : az_X} {w : az_W} {sz sl : Nat} {a b : Nat} {f : Nat → Int32} {p : Int32} (h0 : w a = .inr (1, [.ref b])) (h1 : w b = .inl (0, 8, .inl f)) : az_M X 13 [.ref a, .int p] w sz sl (some (.int (ix 8 (-1) f p)), w, sz, sl) := by
  refine az_Mof hd13 ?_
  show az_Ev X 13 0 [.ref a, .int p] [] w sz sl _
  refine E_il1 k13_0 ?_
  refine E_cs1 k13_1 (Or.inr rfl) rfl rfl (s_isPage) ?_
  refine E_zeq k13_2 (fun c2 => ?_) (fun d2 => ?_)
  · skip
    refine E_iconst k13_8 ?_
    exact E_iret k13_9 hd13 rfl (by first | rw [ix_out c2] | rw [ix_in hj (by decide)])
  · skip
    obtain ⟨j, hj, rfl⟩ := pgn_nI d2 (by decide)
    refine E_al0 k13_3 ?_
    refine E_get k13_4 (by assumption) rfl ?_
    refine E_il1 k13_5 ?_
    refine E_ald k13_6 rfl h1 hj (by decide) ?_
    refine E_goto k13_7 ?_
    exact E_iret k13_9 hd13 rfl (by first | rw [ix_out c2] | rw [ix_in hj (by decide)])
set_option maxRecDepth 20000 in
theorem s_cellOf {X : az_X} {w : az_W} {sz sl : Nat} {a b : Nat} {f : Nat → Int32} {p : Int32} {y0 : Value} {y1 : Value} (h0 : w a = .inr (2, [y0, y1, .ref b])) (h1 : w b = .inl (0, 8, .inl f)) : az_M X 25 [.ref a, .int p] w sz sl (some (.int (ix 8 (-5) f p)), w, sz, sl) := by
  refine az_Mof hd25 ?_
  show az_Ev X 25 0 [.ref a, .int p] [] w sz sl _
  refine E_il1 k25_0 ?_
  refine E_cs1 k25_1 (Or.inr rfl) rfl rfl (s_isPage) ?_
  refine E_zeq k25_2 (fun c2 => ?_) (fun d2 => ?_)
  · skip
    refine E_bipush k25_8 ?_
    exact E_iret k25_9 hd25 rfl (by first | rw [ix_out c2] | rw [ix_in hj (by decide)])
  · skip
    obtain ⟨j, hj, rfl⟩ := pgn_nI d2 (by decide)
    refine E_al0 k25_3 ?_
    refine E_get k25_4 (by assumption) rfl ?_
    refine E_il1 k25_5 ?_
    refine E_ald k25_6 rfl h1 hj (by decide) ?_
    refine E_goto k25_7 ?_
    exact E_iret k25_9 hd25 rfl (by first | rw [ix_out c2] | rw [ix_in hj (by decide)])
set_option maxRecDepth 20000 in
theorem s_cellWrittenFor {X : az_X} {w : az_W} {sz sl : Nat} {a b : Nat} {f : Nat → Int32} {p : Int32} {y0 : Value} {y1 : Value} (h0 : w a = .inr (7, [y0, y1, .ref b])) (h1 : w b = .inl (0, 8, .inl f)) : az_M X 90 [.ref a, .int p] w sz sl (some (.int (ix 8 (-5) f p)), w, sz, sl) := by
  refine az_Mof hd90 ?_
  show az_Ev X 90 0 [.ref a, .int p] [] w sz sl _
  refine E_il1 k90_0 ?_
  refine E_cs1 k90_1 (Or.inr rfl) rfl rfl (s_isPage) ?_
  refine E_zeq k90_2 (fun c2 => ?_) (fun d2 => ?_)
  · skip
    refine E_bipush k90_8 ?_
    exact E_iret k90_9 hd90 rfl (by first | rw [ix_out c2] | rw [ix_in hj (by decide)])
  · skip
    obtain ⟨j, hj, rfl⟩ := pgn_nI d2 (by decide)
    refine E_al0 k90_3 ?_
    refine E_get k90_4 (by assumption) rfl ?_
    refine E_il1 k90_5 ?_
    refine E_ald k90_6 rfl h1 hj (by decide) ?_
    refine E_goto k90_7 ?_
    exact E_iret k90_9 hd90 rfl (by first | rw [ix_out c2] | rw [ix_in hj (by decide)])
set_option maxRecDepth 20000 in
theorem s_contentOf {X : az_X} {w : az_W} {sz sl : Nat} {a b : Nat} {f : Nat → Int32} {p : Int32} {y0 : Value} {y1 : Value} (h0 : w a = .inr (0, [.ref b, y0, y1])) (h1 : w b = .inl (0, 24, .inl f)) : az_M X 4 [.ref a, .int p] w sz sl (some (.int (ix 24 (-5) f p)), w, sz, sl) := by
  refine az_Mof hd4 ?_
  show az_Ev X 4 0 [.ref a, .int p] [] w sz sl _
  refine E_il1 k4_0 ?_
  refine E_cs1 k4_1 (Or.inr rfl) rfl rfl (s_isCell) ?_
  refine E_zeq k4_2 (fun c2 => ?_) (fun d2 => ?_)
  · skip
    refine E_bipush k4_8 ?_
    exact E_iret k4_9 hd4 rfl (by first | rw [ix_out c2] | rw [ix_in hj (by decide)])
  · skip
    obtain ⟨j, hj, rfl⟩ := pgn_nI d2 (by decide)
    refine E_al0 k4_3 ?_
    refine E_get k4_4 (by assumption) rfl ?_
    refine E_il1 k4_5 ?_
    refine E_ald k4_6 rfl h1 hj (by decide) ?_
    refine E_goto k4_7 ?_
    exact E_iret k4_9 hd4 rfl (by first | rw [ix_out c2] | rw [ix_in hj (by decide)])
set_option maxRecDepth 20000 in
theorem s_sealIn {X : az_X} {w : az_W} {sz sl : Nat} {a b : Nat} {f : Nat → Int32} {p : Int32} {y0 : Value} {y1 : Value} (h0 : w a = .inr (0, [y0, .ref b, y1])) (h1 : w b = .inl (0, 24, .inl f)) : az_M X 5 [.ref a, .int p] w sz sl (some (.int (ix 24 (-5) f p)), w, sz, sl) := by
  refine az_Mof hd5 ?_
  show az_Ev X 5 0 [.ref a, .int p] [] w sz sl _
  refine E_il1 k5_0 ?_
  refine E_cs1 k5_1 (Or.inr rfl) rfl rfl (s_isCell) ?_
  refine E_zeq k5_2 (fun c2 => ?_) (fun d2 => ?_)
  · skip
    refine E_bipush k5_8 ?_
    exact E_iret k5_9 hd5 rfl (by first | rw [ix_out c2] | rw [ix_in hj (by decide)])
  · skip
    obtain ⟨j, hj, rfl⟩ := pgn_nI d2 (by decide)
    refine E_al0 k5_3 ?_
    refine E_get k5_4 (by assumption) rfl ?_
    refine E_il1 k5_5 ?_
    refine E_ald k5_6 rfl h1 hj (by decide) ?_
    refine E_goto k5_7 ?_
    exact E_iret k5_9 hd5 rfl (by first | rw [ix_out c2] | rw [ix_in hj (by decide)])
set_option maxRecDepth 20000 in
theorem s_wearOf {X : az_X} {w : az_W} {sz sl : Nat} {a b : Nat} {f : Nat → Int32} {p : Int32} {y0 : Value} {y1 : Value} (h0 : w a = .inr (0, [y0, y1, .ref b])) (h1 : w b = .inl (0, 24, .inl f)) : az_M X 6 [.ref a, .int p] w sz sl (some (.int (ix 24 (0) f p)), w, sz, sl) := by
  refine az_Mof hd6 ?_
  show az_Ev X 6 0 [.ref a, .int p] [] w sz sl _
  refine E_il1 k6_0 ?_
  refine E_cs1 k6_1 (Or.inr rfl) rfl rfl (s_isCell) ?_
  refine E_zeq k6_2 (fun c2 => ?_) (fun d2 => ?_)
  · skip
    refine E_iconst k6_8 ?_
    exact E_iret k6_9 hd6 rfl (by first | rw [ix_out c2] | rw [ix_in hj (by decide)])
  · skip
    obtain ⟨j, hj, rfl⟩ := pgn_nI d2 (by decide)
    refine E_al0 k6_3 ?_
    refine E_get k6_4 (by assumption) rfl ?_
    refine E_il1 k6_5 ?_
    refine E_ald k6_6 rfl h1 hj (by decide) ?_
    refine E_goto k6_7 ?_
    exact E_iret k6_9 hd6 rfl (by first | rw [ix_out c2] | rw [ix_in hj (by decide)])
set_option maxRecDepth 20000 in
theorem s_tell {X : az_X} {w : az_W} {sz sl : Nat} {a b : Nat} {f : Nat → Int32} {p v : Int32} (h0 : w a = .inr (1, [.ref b])) (h1 : w b = .inl (0, 8, .inl f)) : az_M X 15 [.ref a, .int p, .int v] w sz sl (none, va_up w b (.inl (0, 8, .inl (ixu 8 f p v))), sz, sl) := by
  refine az_Mof hd15 ?_
  show az_Ev X 15 0 [.ref a, .int p, .int v] [] w sz sl _
  refine E_il1 k15_0 ?_
  refine E_cs1 k15_1 (Or.inr rfl) rfl rfl (s_isPage) ?_
  refine E_zeq k15_2 (fun c2 => ?_) (fun d2 => ?_)
  · skip
    exact E_vret k15_8 hd15 rfl (by first | rw [ixu_out c2, up_self h1] | rw [ixu_in hj (by decide)])
  · skip
    obtain ⟨j, hj, rfl⟩ := pgn_nI d2 (by decide)
    refine E_al0 k15_3 ?_
    refine E_get k15_4 (by assumption) rfl ?_
    refine E_il1 k15_5 ?_
    refine E_il2 k15_6 ?_
    refine E_iast k15_7 h1 hj (by decide) ?_
    exact E_vret k15_8 hd15 rfl (by first | rw [ixu_out c2, up_self h1] | rw [ixu_in hj (by decide)])
set_option maxRecDepth 20000 in
theorem s_give {X : az_X} {w : az_W} {sz sl : Nat} {a b : Nat} {f : Nat → Int32} {p v : Int32} {y0 : Value} {y1 : Value} (h0 : w a = .inr (2, [y0, y1, .ref b])) (h1 : w b = .inl (0, 8, .inl f)) : az_M X 26 [.ref a, .int p, .int v] w sz sl (none, va_up w b (.inl (0, 8, .inl (ixu 8 f p v))), sz, sl) := by
  refine az_Mof hd26 ?_
  show az_Ev X 26 0 [.ref a, .int p, .int v] [] w sz sl _
  refine E_il1 k26_0 ?_
  refine E_cs1 k26_1 (Or.inr rfl) rfl rfl (s_isPage) ?_
  refine E_zeq k26_2 (fun c2 => ?_) (fun d2 => ?_)
  · skip
    exact E_vret k26_8 hd26 rfl (by first | rw [ixu_out c2, up_self h1] | rw [ixu_in hj (by decide)])
  · skip
    obtain ⟨j, hj, rfl⟩ := pgn_nI d2 (by decide)
    refine E_al0 k26_3 ?_
    refine E_get k26_4 (by assumption) rfl ?_
    refine E_il1 k26_5 ?_
    refine E_il2 k26_6 ?_
    refine E_iast k26_7 h1 hj (by decide) ?_
    exact E_vret k26_8 hd26 rfl (by first | rw [ixu_out c2, up_self h1] | rw [ixu_in hj (by decide)])
set_option maxRecDepth 20000 in
theorem s_noteWritten {X : az_X} {w : az_W} {sz sl : Nat} {a b : Nat} {f : Nat → Int32} {p v : Int32} {y0 : Value} {y1 : Value} (h0 : w a = .inr (7, [y0, y1, .ref b])) (h1 : w b = .inl (0, 8, .inl f)) : az_M X 89 [.ref a, .int p, .int v] w sz sl (none, va_up w b (.inl (0, 8, .inl (ixu 8 f p v))), sz, sl) := by
  refine az_Mof hd89 ?_
  show az_Ev X 89 0 [.ref a, .int p, .int v] [] w sz sl _
  refine E_il1 k89_0 ?_
  refine E_cs1 k89_1 (Or.inr rfl) rfl rfl (s_isPage) ?_
  refine E_zeq k89_2 (fun c2 => ?_) (fun d2 => ?_)
  · skip
    exact E_vret k89_8 hd89 rfl (by first | rw [ixu_out c2, up_self h1] | rw [ixu_in hj (by decide)])
  · skip
    obtain ⟨j, hj, rfl⟩ := pgn_nI d2 (by decide)
    refine E_al0 k89_3 ?_
    refine E_get k89_4 (by assumption) rfl ?_
    refine E_il1 k89_5 ?_
    refine E_il2 k89_6 ?_
    refine E_iast k89_7 h1 hj (by decide) ?_
    exact E_vret k89_8 hd89 rfl (by first | rw [ixu_out c2, up_self h1] | rw [ixu_in hj (by decide)])
set_option maxRecDepth 20000 in
theorem s_tellsOf {X : az_X} {w : az_W} {sz sl : Nat} {a b : Nat} {f : Nat → Int32} {p : Int32} (h0 : w a = .inr (1, [.ref b])) (h1 : w b = .inl (0, 8, .inl f)) : az_M X 14 [.ref a, .int p] w sz sl (some (.int (zb (decide (¬ ix 8 (-1) f p = -1)))), w, sz, sl) := by
  refine az_Mof hd14 ?_
  show az_Ev X 14 0 [.ref a, .int p] [] w sz sl _
  refine E_al0 k14_0 ?_
  refine E_il1 k14_1 ?_
  refine E_cv1 k14_2 (Or.inl rfl) (by assumption) cl13 rfl rfl (s_toldOf (by assumption) (by assumption)) ?_
  refine E_iconst k14_3 ?_
  refine E_iceq k14_4 (fun c4 => ?_) (fun d4 => ?_)
  · skip
    refine E_iconst k14_7 ?_
    exact E_zret k14_8 hd14 rfl (by first | exact Or.inl rfl | exact Or.inr rfl | exact zb01 _) (by first | (rw [decide_eq_false (fun q => q c4)]; rfl) | (rw [decide_eq_true d4]; rfl))
  · skip
    refine E_iconst k14_5 ?_
    refine E_goto k14_6 ?_
    exact E_zret k14_8 hd14 rfl (by first | exact Or.inl rfl | exact Or.inr rfl | exact zb01 _) (by first | (rw [decide_eq_false (fun q => q c4)]; rfl) | (rw [decide_eq_true d4]; rfl))
set_option maxRecDepth 20000 in
theorem s_deskEmpty {X : az_X} {w : az_W} {sz sl : Nat} {a b : Nat} {f : Nat → Int32} (h0 : w a = .inr (1, [.ref b])) (h1 : w b = .inl (0, 8, .inl f)) : az_M X 16 [.ref a] w sz sl (none, va_up w b (.inl (0, 8, .inl (flf f (-1) 8))), sz, sl) := by
  refine az_Mof hd16 ?_
  show az_Ev X 16 0 [.ref a] [] w sz sl _
  refine E_al0 k16_0 ?_
  refine E_get k16_1 (by assumption) rfl ?_
  refine E_iconst k16_2 ?_
  refine E_cs2 k16_3 (Or.inr rfl) rfl rfl (s_fillInts h1 (by decide)) ?_
  exact E_vret k16_4 hd16 rfl rfl
set_option maxRecDepth 20000 in
theorem s_pagesTold {X : az_X} {w : az_W} {sz sl : Nat} {a b : Nat} {f : Nat → Int32} (h0 : w a = .inr (1, [.ref b])) (h1 : w b = .inl (0, 8, .inl f)) : az_M X 17 [.ref a] w sz sl (some (.int (nI (cnt (fun i => decide (¬ f i = -1)) 8))), w, sz, sl) := by
  refine az_Mof hd17 ?_
  show az_Ev X 17 0 [.ref a, .null, .null] [] w sz sl _
  refine E_iconst k17_0 ?_
  refine E_is1 k17_1 rfl ?_
  refine E_iconst k17_2 ?_
  refine E_is2 k17_3 rfl ?_
  have loop4 : ∀ j : Nat, j ≤ 8 → az_Ev X 17 4 [.ref a, .int (nI (cnt (fun i => decide (¬ f i = -1)) j)), .int (nI j)] [] w sz sl (some (.int (nI (cnt (fun i => decide (¬ f i = -1)) 8))), w, sz, sl) := by
    refine az_ind 8 _ (fun j hj4 ih4 => ?_)
    refine E_il2 k17_4 ?_
    refine E_bipush k17_5 ?_
    refine E_icge k17_6 (fun c6 => ?_) (fun d6 => ?_)
    · skip
      have he4 := lp_t hj4 (by decide) rfl c6
      subst he4
      refine E_il1 k17_16 ?_
      exact E_iret k17_17 hd17 rfl rfl
    · skip
      have hlt4 := lp_f (by omega) (by decide) rfl d6
      refine E_al0 k17_7 ?_
      refine E_get k17_8 (by assumption) rfl ?_
      refine E_il2 k17_9 ?_
      refine E_ald k17_10 rfl h1 hlt4 (by decide) ?_
      refine E_iconst k17_11 ?_
      refine E_iceq k17_12 (fun c12 => ?_) (fun d12 => ?_)
      · skip
        refine E_inc2 k17_14 rfl ?_
        refine E_goto k17_15 ?_
        exact ev_cong (ih4 hlt4) (by first | (rw [cnt_t (by exact decide_eq_true d12), nI_1, nI_1]; done) | (rw [cnt_f (by exact decide_eq_false (fun q => q c12)), nI_1]; done)) rfl rfl
      · skip
        refine E_inc1 k17_13 rfl ?_
        refine E_inc2 k17_14 rfl ?_
        refine E_goto k17_15 ?_
        exact ev_cong (ih4 hlt4) (by first | (rw [cnt_t (by exact decide_eq_true d12), nI_1, nI_1]; done) | (rw [cnt_f (by exact decide_eq_false (fun q => q c12)), nI_1]; done)) rfl rfl
  exact ev_cong (loop4 0 (Nat.zero_le _)) rfl rfl rfl
set_option maxRecDepth 20000 in
theorem s_contents {X : az_X} {w : az_W} {sz sl : Nat} {a b : Nat} {f : Nat → Int32} (h0 : w a = .inr (1, [.ref b])) (h1 : w b = .inl (0, 8, .inl f)) : az_M X 18 [.ref a] w sz sl (some (.int (nI (cnt (fun i => decide (¬ f i < 0)) 8))), w, sz, sl) := by
  refine az_Mof hd18 ?_
  show az_Ev X 18 0 [.ref a, .null, .null] [] w sz sl _
  refine E_iconst k18_0 ?_
  refine E_is1 k18_1 rfl ?_
  refine E_iconst k18_2 ?_
  refine E_is2 k18_3 rfl ?_
  have loop4 : ∀ j : Nat, j ≤ 8 → az_Ev X 18 4 [.ref a, .int (nI (cnt (fun i => decide (¬ f i < 0)) j)), .int (nI j)] [] w sz sl (some (.int (nI (cnt (fun i => decide (¬ f i < 0)) 8))), w, sz, sl) := by
    refine az_ind 8 _ (fun j hj4 ih4 => ?_)
    refine E_il2 k18_4 ?_
    refine E_bipush k18_5 ?_
    refine E_icge k18_6 (fun c6 => ?_) (fun d6 => ?_)
    · skip
      have he4 := lp_t hj4 (by decide) rfl c6
      subst he4
      refine E_il1 k18_15 ?_
      exact E_iret k18_16 hd18 rfl rfl
    · skip
      have hlt4 := lp_f (by omega) (by decide) rfl d6
      refine E_al0 k18_7 ?_
      refine E_get k18_8 (by assumption) rfl ?_
      refine E_il2 k18_9 ?_
      refine E_ald k18_10 rfl h1 hlt4 (by decide) ?_
      refine E_iflt k18_11 (fun c11 => ?_) (fun d11 => ?_)
      · skip
        refine E_inc2 k18_13 rfl ?_
        refine E_goto k18_14 ?_
        exact ev_cong (ih4 hlt4) (by first | (rw [cnt_t (by exact decide_eq_true d11), nI_1, nI_1]; done) | (rw [cnt_f (by exact decide_eq_false (fun q => q c11)), nI_1]; done)) rfl rfl
      · skip
        refine E_inc1 k18_12 rfl ?_
        refine E_inc2 k18_13 rfl ?_
        refine E_goto k18_14 ?_
        exact ev_cong (ih4 hlt4) (by first | (rw [cnt_t (by exact decide_eq_true d11), nI_1, nI_1]; done) | (rw [cnt_f (by exact decide_eq_false (fun q => q c11)), nI_1]; done)) rfl rfl
  exact ev_cong (loop4 0 (Nat.zero_le _)) rfl rfl rfl
set_option maxRecDepth 20000 in
theorem s_pageOfContent {X : az_X} {w : az_W} {sz sl : Nat} {a b : Nat} {f : Nat → Int32} {p : Int32} (h0 : w a = .inr (1, [.ref b])) (h1 : w b = .inl (0, 8, .inl f)) : az_M X 19 [.ref a, .int p] w sz sl (some (.int (fi (fun i => decide (¬ f i < 0) && decide (nI (cnt (fun i => decide (¬ f i < 0)) i) = p)) 8)), w, sz, sl) := by
  refine az_Mof hd19 ?_
  show az_Ev X 19 0 [.ref a, .int p, .null, .null] [] w sz sl _
  refine E_iconst k19_0 ?_
  refine E_is2 k19_1 rfl ?_
  refine E_iconst k19_2 ?_
  refine E_is3 k19_3 rfl ?_
  have loop4 : ∀ j : Nat, j ≤ 8 → (∀ i, i < j → (decide (¬ f i < 0) && decide (nI (cnt (fun i => decide (¬ f i < 0)) i) = p)) = false) → az_Ev X 19 4 [.ref a, .int p, .int (nI (cnt (fun i => decide (¬ f i < 0)) j)), .int (nI j)] [] w sz sl (some (.int (fi (fun i => decide (¬ f i < 0) && decide (nI (cnt (fun i => decide (¬ f i < 0)) i) = p)) 8)), w, sz, sl) := by
    refine az_ind 8 _ (fun j hj4 ih4 => ?_)
    intro hv4
    refine E_il3 k19_4 ?_
    refine E_bipush k19_5 ?_
    refine E_icge k19_6 (fun c6 => ?_) (fun d6 => ?_)
    · skip
      have he4 := lp_t hj4 (by decide) rfl c6
      subst he4
      refine E_bipush k19_20 ?_
      exact E_iret k19_21 hd19 rfl (by rw [fi_none hv4])
    · skip
      have hlt4 := lp_f (by omega) (by decide) rfl d6
      refine E_al0 k19_7 ?_
      refine E_get k19_8 (by assumption) rfl ?_
      refine E_il3 k19_9 ?_
      refine E_ald k19_10 rfl h1 hlt4 (by decide) ?_
      refine E_iflt k19_11 (fun c11 => ?_) (fun d11 => ?_)
      · skip
        refine E_inc3 k19_18 rfl ?_
        refine E_goto k19_19 ?_
        exact ev_cong (ih4 hlt4 (lt_s hv4 (by first | (rw [decide_eq_false (fun q => q c11)]; rfl) | (rw [decide_eq_false c14, Bool.and_false]; done)))) (by first | (rw [cnt_t (by exact decide_eq_true d11), nI_1, nI_1]; done) | (rw [cnt_f (by exact decide_eq_false (fun q => q c11)), nI_1]; done)) rfl rfl
      · skip
        refine E_il2 k19_12 ?_
        refine E_il1 k19_13 ?_
        refine E_icne k19_14 (fun c14 => ?_) (fun d14 => ?_)
        · skip
          refine E_inc2 k19_17 rfl ?_
          refine E_inc3 k19_18 rfl ?_
          refine E_goto k19_19 ?_
          exact ev_cong (ih4 hlt4 (lt_s hv4 (by first | (rw [decide_eq_false (fun q => q c11)]; rfl) | (rw [decide_eq_false c14, Bool.and_false]; done)))) (by first | (rw [cnt_t (by exact decide_eq_true d11), nI_1, nI_1]; done) | (rw [cnt_f (by exact decide_eq_false (fun q => q c11)), nI_1]; done)) rfl rfl
        · skip
          refine E_il3 k19_15 ?_
          exact E_iret k19_16 hd19 rfl (by rw [fi_hit hv4 (by rw [decide_eq_true d11, decide_eq_true (Classical.not_not.mp d14)]; rfl) hlt4])
  exact ev_cong (loop4 0 (Nat.zero_le _) lt_0) rfl rfl rfl
set_option maxRecDepth 20000 in
theorem s_pageWith {X : az_X} {w : az_W} {sz sl : Nat} {a b : Nat} {f : Nat → Int32} {p : Int32} {y0 y1 : Value} (h0 : w a = .inr (2, [y0, y1, .ref b])) (h1 : w b = .inl (0, 8, .inl f)) : az_M X 27 [.ref a, .int p] w sz sl (some (.int (fi (fun i => decide (f i = p)) 8)), w, sz, sl) := by
  refine az_Mof hd27 ?_
  show az_Ev X 27 0 [.ref a, .int p, .null] [] w sz sl _
  refine E_iconst k27_0 ?_
  refine E_is2 k27_1 rfl ?_
  have loop2 : ∀ j : Nat, j ≤ 8 → (∀ i, i < j → decide (f i = p) = false) → az_Ev X 27 2 [.ref a, .int p, .int (nI j)] [] w sz sl (some (.int (fi (fun i => decide (f i = p)) 8)), w, sz, sl) := by
    refine az_ind 8 _ (fun j hj2 ih2 => ?_)
    intro hv2
    refine E_il2 k27_2 ?_
    refine E_bipush k27_3 ?_
    refine E_icge k27_4 (fun c4 => ?_) (fun d4 => ?_)
    · skip
      have he2 := lp_t hj2 (by decide) rfl c4
      subst he2
      refine E_bipush k27_15 ?_
      exact E_iret k27_16 hd27 rfl (by rw [fi_none hv2])
    · skip
      have hlt2 := lp_f (by omega) (by decide) rfl d4
      refine E_al0 k27_5 ?_
      refine E_get k27_6 (by assumption) rfl ?_
      refine E_il2 k27_7 ?_
      refine E_ald k27_8 rfl h1 hlt2 (by decide) ?_
      refine E_il1 k27_9 ?_
      refine E_icne k27_10 (fun c10 => ?_) (fun d10 => ?_)
      · skip
        refine E_inc2 k27_13 rfl ?_
        refine E_goto k27_14 ?_
        exact ev_cong (ih2 hlt2 (lt_s hv2 (decide_eq_false c10))) (by rw [nI_1]) rfl rfl
      · skip
        refine E_il2 k27_11 ?_
        exact E_iret k27_12 hd27 rfl (by rw [fi_hit hv2 (decide_eq_true (Classical.not_not.mp d10)) hlt2])
  exact ev_cong (loop2 0 (Nat.zero_le _) lt_0) rfl rfl rfl
set_option maxRecDepth 20000 in
theorem s_pageWrittenTo {X : az_X} {w : az_W} {sz sl : Nat} {a b : Nat} {f : Nat → Int32} {p : Int32} {y0 y1 : Value} (h0 : w a = .inr (7, [y0, y1, .ref b])) (h1 : w b = .inl (0, 8, .inl f)) : az_M X 91 [.ref a, .int p] w sz sl (some (.int (fi (fun i => decide (f i = p)) 8)), w, sz, sl) := by
  refine az_Mof hd91 ?_
  show az_Ev X 91 0 [.ref a, .int p, .null] [] w sz sl _
  refine E_iconst k91_0 ?_
  refine E_is2 k91_1 rfl ?_
  have loop2 : ∀ j : Nat, j ≤ 8 → (∀ i, i < j → decide (f i = p) = false) → az_Ev X 91 2 [.ref a, .int p, .int (nI j)] [] w sz sl (some (.int (fi (fun i => decide (f i = p)) 8)), w, sz, sl) := by
    refine az_ind 8 _ (fun j hj2 ih2 => ?_)
    intro hv2
    refine E_il2 k91_2 ?_
    refine E_bipush k91_3 ?_
    refine E_icge k91_4 (fun c4 => ?_) (fun d4 => ?_)
    · skip
      have he2 := lp_t hj2 (by decide) rfl c4
      subst he2
      refine E_bipush k91_15 ?_
      exact E_iret k91_16 hd91 rfl (by rw [fi_none hv2])
    · skip
      have hlt2 := lp_f (by omega) (by decide) rfl d4
      refine E_al0 k91_5 ?_
      refine E_get k91_6 (by assumption) rfl ?_
      refine E_il2 k91_7 ?_
      refine E_ald k91_8 rfl h1 hlt2 (by decide) ?_
      refine E_il1 k91_9 ?_
      refine E_icne k91_10 (fun c10 => ?_) (fun d10 => ?_)
      · skip
        refine E_inc2 k91_13 rfl ?_
        refine E_goto k91_14 ?_
        exact ev_cong (ih2 hlt2 (lt_s hv2 (decide_eq_false c10))) (by rw [nI_1]) rfl rfl
      · skip
        refine E_il2 k91_11 ?_
        exact E_iret k91_12 hd91 rfl (by rw [fi_hit hv2 (decide_eq_true (Classical.not_not.mp d10)) hlt2])
  exact ev_cong (loop2 0 (Nat.zero_le _) lt_0) rfl rfl rfl
end
section
theorem az_test2 : az_cd 100 3 = some ((az_m100[3]?).getD (0, .dup, 1, 0, 0, 0, [], [])) := rfl
theorem i_vc : Claimed_1_1 ∧ Claimed_1_2 := sorry
end
