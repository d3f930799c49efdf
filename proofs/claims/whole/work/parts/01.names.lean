-- PART A and the names: begun from the printed skeleton and the printed names of the program (starting texts)
-- ===== PART A: goes FIRST, ahead of the names: the tables' words, and 'selects' of the private methods out of them =====
/-- a private method of a class that the tables say can be made, by its rows of tables_1 -/
def lw_okq (q : MethodName × Nat) : Prop := (q.1.cls ≠ "java/lang/invoke/MethodHandle" ∧ q.1.cls ≠ "java/lang/invoke/VarHandle") ∧ Cond.instantiable q.1.cls q.2 ∈ tables_1 ∧ Cond.privateMethod q.1 ∈ tables_1 ∧ Cond.instanceMethod q.1 ∈ tables_1
theorem lw_p0 : lw_okq (⟨"SwappedTables", "tellDesk", "(II)I"⟩, 5) := ⟨⟨by decide +kernel, by decide +kernel⟩, List.mem_of_getElem? (i := 15) (by decide +kernel), List.mem_of_getElem? (i := 211) (by decide +kernel), List.mem_of_getElem? (i := 212) (by decide +kernel)⟩
theorem lw_p1 : lw_okq (⟨"SwappedTables$PageText", "note", "(IC)V"⟩, 5) := ⟨⟨by decide +kernel, by decide +kernel⟩, List.mem_of_getElem? (i := 165) (by decide +kernel), List.mem_of_getElem? (i := 285) (by decide +kernel), List.mem_of_getElem? (i := 286) (by decide +kernel)⟩
theorem lw_p2 : lw_okq (⟨"SwappedTables$PageText", "startEntry", "(I)V"⟩, 5) := ⟨⟨by decide +kernel, by decide +kernel⟩, List.mem_of_getElem? (i := 165) (by decide +kernel), List.mem_of_getElem? (i := 289) (by decide +kernel), List.mem_of_getElem? (i := 290) (by decide +kernel)⟩
theorem lw_p3 : lw_okq (⟨"SwappedTables$PageText", "addDigit", "(I)V"⟩, 5) := ⟨⟨by decide +kernel, by decide +kernel⟩, List.mem_of_getElem? (i := 165) (by decide +kernel), List.mem_of_getElem? (i := 293) (by decide +kernel), List.mem_of_getElem? (i := 294) (by decide +kernel)⟩
theorem lw_p4 : lw_okq (⟨"SwappedTables$State", "cellToWrite", "()I"⟩, 9) := ⟨⟨by decide +kernel, by decide +kernel⟩, List.mem_of_getElem? (i := 23) (by decide +kernel), List.mem_of_getElem? (i := 355) (by decide +kernel), List.mem_of_getElem? (i := 356) (by decide +kernel)⟩
theorem lw_p5 : lw_okq (⟨"SwappedTables$State", "writeOwedCell", "()V"⟩, 9) := ⟨⟨by decide +kernel, by decide +kernel⟩, List.mem_of_getElem? (i := 23) (by decide +kernel), List.mem_of_getElem? (i := 395) (by decide +kernel), List.mem_of_getElem? (i := 396) (by decide +kernel)⟩
theorem lw_p6 : lw_okq (⟨"SwappedTables$State", "writeNewTable", "(Z)V"⟩, 9) := ⟨⟨by decide +kernel, by decide +kernel⟩, List.mem_of_getElem? (i := 23) (by decide +kernel), List.mem_of_getElem? (i := 417) (by decide +kernel), List.mem_of_getElem? (i := 418) (by decide +kernel)⟩
theorem lw_p7 : lw_okq (⟨"SwappedTables$State", "setMark", "()V"⟩, 9) := ⟨⟨by decide +kernel, by decide +kernel⟩, List.mem_of_getElem? (i := 23) (by decide +kernel), List.mem_of_getElem? (i := 447) (by decide +kernel), List.mem_of_getElem? (i := 448) (by decide +kernel)⟩
theorem lw_p8 : lw_okq (⟨"SwappedTablesModel", "becomes", "(II)I"⟩, 10) := ⟨⟨by decide +kernel, by decide +kernel⟩, List.mem_of_getElem? (i := 705) (by decide +kernel), List.mem_of_getElem? (i := 752) (by decide +kernel), List.mem_of_getElem? (i := 753) (by decide +kernel)⟩
theorem lw_p9 : lw_okq (⟨"SwappedTablesModel", "records", "()V"⟩, 10) := ⟨⟨by decide +kernel, by decide +kernel⟩, List.mem_of_getElem? (i := 705) (by decide +kernel), List.mem_of_getElem? (i := 756) (by decide +kernel), List.mem_of_getElem? (i := 757) (by decide +kernel)⟩
theorem lw_p10 : lw_okq (⟨"SwappedTablesModel", "told", "()I"⟩, 10) := ⟨⟨by decide +kernel, by decide +kernel⟩, List.mem_of_getElem? (i := 705) (by decide +kernel), List.mem_of_getElem? (i := 763) (by decide +kernel), List.mem_of_getElem? (i := 764) (by decide +kernel)⟩
theorem lw_p11 : lw_okq (⟨"SwappedTablesModel", "fault", "()I"⟩, 10) := ⟨⟨by decide +kernel, by decide +kernel⟩, List.mem_of_getElem? (i := 705) (by decide +kernel), List.mem_of_getElem? (i := 775) (by decide +kernel), List.mem_of_getElem? (i := 776) (by decide +kernel)⟩
theorem lw_p12 : lw_okq (⟨"SwappedTablesModel", "isEntry", "()Z"⟩, 10) := ⟨⟨by decide +kernel, by decide +kernel⟩, List.mem_of_getElem? (i := 705) (by decide +kernel), List.mem_of_getElem? (i := 779) (by decide +kernel), List.mem_of_getElem? (i := 780) (by decide +kernel)⟩
theorem lw_p13 : lw_okq (⟨"SwappedTablesModel", "sees", "(II)Z"⟩, 10) := ⟨⟨by decide +kernel, by decide +kernel⟩, List.mem_of_getElem? (i := 705) (by decide +kernel), List.mem_of_getElem? (i := 783) (by decide +kernel), List.mem_of_getElem? (i := 784) (by decide +kernel)⟩
theorem lw_p14 : lw_okq (⟨"SwappedTablesModel", "takes", "(I)Z"⟩, 10) := ⟨⟨by decide +kernel, by decide +kernel⟩, List.mem_of_getElem? (i := 705) (by decide +kernel), List.mem_of_getElem? (i := 787) (by decide +kernel), List.mem_of_getElem? (i := 788) (by decide +kernel)⟩
theorem lw_p15 : lw_okq (⟨"SwappedTablesModel", "clearsDesk", "()V"⟩, 10) := ⟨⟨by decide +kernel, by decide +kernel⟩, List.mem_of_getElem? (i := 705) (by decide +kernel), List.mem_of_getElem? (i := 795) (by decide +kernel), List.mem_of_getElem? (i := 796) (by decide +kernel)⟩
def lw_privs_1 : List (MethodName × Nat) := [(⟨"SwappedTables", "tellDesk", "(II)I"⟩, 5), (⟨"SwappedTables$PageText", "note", "(IC)V"⟩, 5), (⟨"SwappedTables$PageText", "startEntry", "(I)V"⟩, 5), (⟨"SwappedTables$PageText", "addDigit", "(I)V"⟩, 5), (⟨"SwappedTables$State", "cellToWrite", "()I"⟩, 9), (⟨"SwappedTables$State", "writeOwedCell", "()V"⟩, 9), (⟨"SwappedTables$State", "writeNewTable", "(Z)V"⟩, 9), (⟨"SwappedTables$State", "setMark", "()V"⟩, 9), (⟨"SwappedTablesModel", "becomes", "(II)I"⟩, 10), (⟨"SwappedTablesModel", "records", "()V"⟩, 10), (⟨"SwappedTablesModel", "told", "()I"⟩, 10), (⟨"SwappedTablesModel", "fault", "()I"⟩, 10), (⟨"SwappedTablesModel", "isEntry", "()Z"⟩, 10), (⟨"SwappedTablesModel", "sees", "(II)Z"⟩, 10), (⟨"SwappedTablesModel", "takes", "(I)Z"⟩, 10), (⟨"SwappedTablesModel", "clearsDesk", "()V"⟩, 10)]
theorem lw_r1 : ∀ q ∈ lw_privs_1, lw_okq q := List.forall_mem_cons.mpr ⟨lw_p0, List.forall_mem_cons.mpr ⟨lw_p1, List.forall_mem_cons.mpr ⟨lw_p2, List.forall_mem_cons.mpr ⟨lw_p3, List.forall_mem_cons.mpr ⟨lw_p4, List.forall_mem_cons.mpr ⟨lw_p5, List.forall_mem_cons.mpr ⟨lw_p6, List.forall_mem_cons.mpr ⟨lw_p7, List.forall_mem_cons.mpr ⟨lw_p8, List.forall_mem_cons.mpr ⟨lw_p9, List.forall_mem_cons.mpr ⟨lw_p10, List.forall_mem_cons.mpr ⟨lw_p11, List.forall_mem_cons.mpr ⟨lw_p12, List.forall_mem_cons.mpr ⟨lw_p13, List.forall_mem_cons.mpr ⟨lw_p14, List.forall_mem_cons.mpr ⟨lw_p15, fun _ h => absurd h List.not_mem_nil⟩⟩⟩⟩⟩⟩⟩⟩⟩⟩⟩⟩⟩⟩⟩⟩
theorem lw_p16 : lw_okq (⟨"SwappedTablesModel", "owes", "()I"⟩, 10) := ⟨⟨by decide +kernel, by decide +kernel⟩, List.mem_of_getElem? (i := 705) (by decide +kernel), List.mem_of_getElem? (i := 803) (by decide +kernel), List.mem_of_getElem? (i := 804) (by decide +kernel)⟩
theorem lw_p17 : lw_okq (⟨"SwappedTablesModel", "contents", "()I"⟩, 10) := ⟨⟨by decide +kernel, by decide +kernel⟩, List.mem_of_getElem? (i := 705) (by decide +kernel), List.mem_of_getElem? (i := 807) (by decide +kernel), List.mem_of_getElem? (i := 808) (by decide +kernel)⟩
theorem lw_p18 : lw_okq (⟨"SwappedTablesModel", "canStep", "()Z"⟩, 10) := ⟨⟨by decide +kernel, by decide +kernel⟩, List.mem_of_getElem? (i := 705) (by decide +kernel), List.mem_of_getElem? (i := 815) (by decide +kernel), List.mem_of_getElem? (i := 816) (by decide +kernel)⟩
theorem lw_p19 : lw_okq (⟨"SwappedTablesModel", "pageOf", "(I)I"⟩, 10) := ⟨⟨by decide +kernel, by decide +kernel⟩, List.mem_of_getElem? (i := 705) (by decide +kernel), List.mem_of_getElem? (i := 819) (by decide +kernel), List.mem_of_getElem? (i := 820) (by decide +kernel)⟩
theorem lw_p20 : lw_okq (⟨"SwappedTablesModel", "nextFree", "()I"⟩, 10) := ⟨⟨by decide +kernel, by decide +kernel⟩, List.mem_of_getElem? (i := 705) (by decide +kernel), List.mem_of_getElem? (i := 823) (by decide +kernel), List.mem_of_getElem? (i := 824) (by decide +kernel)⟩
theorem lw_p21 : lw_okq (⟨"SwappedTablesModel", "isFree", "(I)Z"⟩, 10) := ⟨⟨by decide +kernel, by decide +kernel⟩, List.mem_of_getElem? (i := 705) (by decide +kernel), List.mem_of_getElem? (i := 827) (by decide +kernel), List.mem_of_getElem? (i := 828) (by decide +kernel)⟩
theorem lw_p22 : lw_okq (⟨"SwappedTablesModel", "pageOld", "(I)I"⟩, 10) := ⟨⟨by decide +kernel, by decide +kernel⟩, List.mem_of_getElem? (i := 705) (by decide +kernel), List.mem_of_getElem? (i := 831) (by decide +kernel), List.mem_of_getElem? (i := 832) (by decide +kernel)⟩
theorem lw_p23 : lw_okq (⟨"SwappedTablesModel", "old", "(I)I"⟩, 10) := ⟨⟨by decide +kernel, by decide +kernel⟩, List.mem_of_getElem? (i := 705) (by decide +kernel), List.mem_of_getElem? (i := 835) (by decide +kernel), List.mem_of_getElem? (i := 836) (by decide +kernel)⟩
theorem lw_p24 : lw_okq (⟨"SwappedTablesModel", "readersOf", "(I)I"⟩, 10) := ⟨⟨by decide +kernel, by decide +kernel⟩, List.mem_of_getElem? (i := 705) (by decide +kernel), List.mem_of_getElem? (i := 839) (by decide +kernel), List.mem_of_getElem? (i := 840) (by decide +kernel)⟩
theorem lw_p25 : lw_okq (⟨"SwappedTablesModel", "hasIt", "(II)Z"⟩, 10) := ⟨⟨by decide +kernel, by decide +kernel⟩, List.mem_of_getElem? (i := 705) (by decide +kernel), List.mem_of_getElem? (i := 843) (by decide +kernel), List.mem_of_getElem? (i := 844) (by decide +kernel)⟩
theorem lw_p26 : lw_okq (⟨"SwappedTablesModel", "isReader", "(I)Z"⟩, 10) := ⟨⟨by decide +kernel, by decide +kernel⟩, List.mem_of_getElem? (i := 705) (by decide +kernel), List.mem_of_getElem? (i := 847) (by decide +kernel), List.mem_of_getElem? (i := 848) (by decide +kernel)⟩
theorem lw_p27 : lw_okq (⟨"SwappedTablesModel", "pageWritten", "(I)I"⟩, 10) := ⟨⟨by decide +kernel, by decide +kernel⟩, List.mem_of_getElem? (i := 705) (by decide +kernel), List.mem_of_getElem? (i := 851) (by decide +kernel), List.mem_of_getElem? (i := 852) (by decide +kernel)⟩
theorem lw_p28 : lw_okq (⟨"SwappedTablesModel", "steps", "()V"⟩, 10) := ⟨⟨by decide +kernel, by decide +kernel⟩, List.mem_of_getElem? (i := 705) (by decide +kernel), List.mem_of_getElem? (i := 855) (by decide +kernel), List.mem_of_getElem? (i := 856) (by decide +kernel)⟩
theorem lw_p29 : lw_okq (⟨"SwappedTablesModel", "writes", "(III)V"⟩, 10) := ⟨⟨by decide +kernel, by decide +kernel⟩, List.mem_of_getElem? (i := 705) (by decide +kernel), List.mem_of_getElem? (i := 859) (by decide +kernel), List.mem_of_getElem? (i := 860) (by decide +kernel)⟩
theorem lw_p30 : lw_okq (⟨"SwappedTablesModel", "writesTable", "(I)V"⟩, 10) := ⟨⟨by decide +kernel, by decide +kernel⟩, List.mem_of_getElem? (i := 705) (by decide +kernel), List.mem_of_getElem? (i := 866) (by decide +kernel), List.mem_of_getElem? (i := 867) (by decide +kernel)⟩
theorem lw_p31 : lw_okq (⟨"SwappedTablesModel", "endsSwap", "()V"⟩, 10) := ⟨⟨by decide +kernel, by decide +kernel⟩, List.mem_of_getElem? (i := 705) (by decide +kernel), List.mem_of_getElem? (i := 870) (by decide +kernel), List.mem_of_getElem? (i := 871) (by decide +kernel)⟩
def lw_privs_2 : List (MethodName × Nat) := [(⟨"SwappedTablesModel", "owes", "()I"⟩, 10), (⟨"SwappedTablesModel", "contents", "()I"⟩, 10), (⟨"SwappedTablesModel", "canStep", "()Z"⟩, 10), (⟨"SwappedTablesModel", "pageOf", "(I)I"⟩, 10), (⟨"SwappedTablesModel", "nextFree", "()I"⟩, 10), (⟨"SwappedTablesModel", "isFree", "(I)Z"⟩, 10), (⟨"SwappedTablesModel", "pageOld", "(I)I"⟩, 10), (⟨"SwappedTablesModel", "old", "(I)I"⟩, 10), (⟨"SwappedTablesModel", "readersOf", "(I)I"⟩, 10), (⟨"SwappedTablesModel", "hasIt", "(II)Z"⟩, 10), (⟨"SwappedTablesModel", "isReader", "(I)Z"⟩, 10), (⟨"SwappedTablesModel", "pageWritten", "(I)I"⟩, 10), (⟨"SwappedTablesModel", "steps", "()V"⟩, 10), (⟨"SwappedTablesModel", "writes", "(III)V"⟩, 10), (⟨"SwappedTablesModel", "writesTable", "(I)V"⟩, 10), (⟨"SwappedTablesModel", "endsSwap", "()V"⟩, 10)]
theorem lw_r2 : ∀ q ∈ lw_privs_2, lw_okq q := List.forall_mem_cons.mpr ⟨lw_p16, List.forall_mem_cons.mpr ⟨lw_p17, List.forall_mem_cons.mpr ⟨lw_p18, List.forall_mem_cons.mpr ⟨lw_p19, List.forall_mem_cons.mpr ⟨lw_p20, List.forall_mem_cons.mpr ⟨lw_p21, List.forall_mem_cons.mpr ⟨lw_p22, List.forall_mem_cons.mpr ⟨lw_p23, List.forall_mem_cons.mpr ⟨lw_p24, List.forall_mem_cons.mpr ⟨lw_p25, List.forall_mem_cons.mpr ⟨lw_p26, List.forall_mem_cons.mpr ⟨lw_p27, List.forall_mem_cons.mpr ⟨lw_p28, List.forall_mem_cons.mpr ⟨lw_p29, List.forall_mem_cons.mpr ⟨lw_p30, List.forall_mem_cons.mpr ⟨lw_p31, fun _ h => absurd h List.not_mem_nil⟩⟩⟩⟩⟩⟩⟩⟩⟩⟩⟩⟩⟩⟩⟩⟩
theorem lw_p32 : lw_okq (⟨"SwappedTablesModel", "tears", "()V"⟩, 10) := ⟨⟨by decide +kernel, by decide +kernel⟩, List.mem_of_getElem? (i := 705) (by decide +kernel), List.mem_of_getElem? (i := 886) (by decide +kernel), List.mem_of_getElem? (i := 887) (by decide +kernel)⟩
theorem lw_p33 : lw_okq (⟨"SwappedTablesModel", "readers", "()I"⟩, 10) := ⟨⟨by decide +kernel, by decide +kernel⟩, List.mem_of_getElem? (i := 705) (by decide +kernel), List.mem_of_getElem? (i := 894) (by decide +kernel), List.mem_of_getElem? (i := 895) (by decide +kernel)⟩
theorem lw_p34 : lw_okq (⟨"SwappedTablesModel", "contentOf", "(I)I"⟩, 10) := ⟨⟨by decide +kernel, by decide +kernel⟩, List.mem_of_getElem? (i := 705) (by decide +kernel), List.mem_of_getElem? (i := 926) (by decide +kernel), List.mem_of_getElem? (i := 927) (by decide +kernel)⟩
theorem lw_p35 : lw_okq (⟨"SwappedTablesModel", "isTorn", "(I)Z"⟩, 10) := ⟨⟨by decide +kernel, by decide +kernel⟩, List.mem_of_getElem? (i := 705) (by decide +kernel), List.mem_of_getElem? (i := 942) (by decide +kernel), List.mem_of_getElem? (i := 943) (by decide +kernel)⟩
theorem lw_p36 : lw_okq (⟨"SwappedTablesModel", "pagesOf", "(I)I"⟩, 10) := ⟨⟨by decide +kernel, by decide +kernel⟩, List.mem_of_getElem? (i := 705) (by decide +kernel), List.mem_of_getElem? (i := 950) (by decide +kernel), List.mem_of_getElem? (i := 951) (by decide +kernel)⟩
theorem lw_p37 : lw_okq (⟨"SwappedTablesModel", "greatestWear", "()I"⟩, 10) := ⟨⟨by decide +kernel, by decide +kernel⟩, List.mem_of_getElem? (i := 705) (by decide +kernel), List.mem_of_getElem? (i := 966) (by decide +kernel), List.mem_of_getElem? (i := 967) (by decide +kernel)⟩
theorem lw_p38 : lw_okq (⟨"SwappedTablesModel", "allWear", "()I"⟩, 10) := ⟨⟨by decide +kernel, by decide +kernel⟩, List.mem_of_getElem? (i := 705) (by decide +kernel), List.mem_of_getElem? (i := 970) (by decide +kernel), List.mem_of_getElem? (i := 971) (by decide +kernel)⟩
theorem lw_p39 : lw_okq (⟨"SwappedTablesModel", "cellsThat", "(I)I"⟩, 10) := ⟨⟨by decide +kernel, by decide +kernel⟩, List.mem_of_getElem? (i := 705) (by decide +kernel), List.mem_of_getElem? (i := 996) (by decide +kernel), List.mem_of_getElem? (i := 997) (by decide +kernel)⟩
theorem lw_p40 : lw_okq (⟨"SwappedTablesModel", "owedCells", "()I"⟩, 10) := ⟨⟨by decide +kernel, by decide +kernel⟩, List.mem_of_getElem? (i := 705) (by decide +kernel), List.mem_of_getElem? (i := 1000) (by decide +kernel), List.mem_of_getElem? (i := 1001) (by decide +kernel)⟩
def lw_privs_3 : List (MethodName × Nat) := [(⟨"SwappedTablesModel", "tears", "()V"⟩, 10), (⟨"SwappedTablesModel", "readers", "()I"⟩, 10), (⟨"SwappedTablesModel", "contentOf", "(I)I"⟩, 10), (⟨"SwappedTablesModel", "isTorn", "(I)Z"⟩, 10), (⟨"SwappedTablesModel", "pagesOf", "(I)I"⟩, 10), (⟨"SwappedTablesModel", "greatestWear", "()I"⟩, 10), (⟨"SwappedTablesModel", "allWear", "()I"⟩, 10), (⟨"SwappedTablesModel", "cellsThat", "(I)I"⟩, 10), (⟨"SwappedTablesModel", "owedCells", "()I"⟩, 10)]
theorem lw_r3 : ∀ q ∈ lw_privs_3, lw_okq q := List.forall_mem_cons.mpr ⟨lw_p32, List.forall_mem_cons.mpr ⟨lw_p33, List.forall_mem_cons.mpr ⟨lw_p34, List.forall_mem_cons.mpr ⟨lw_p35, List.forall_mem_cons.mpr ⟨lw_p36, List.forall_mem_cons.mpr ⟨lw_p37, List.forall_mem_cons.mpr ⟨lw_p38, List.forall_mem_cons.mpr ⟨lw_p39, List.forall_mem_cons.mpr ⟨lw_p40, fun _ h => absurd h List.not_mem_nil⟩⟩⟩⟩⟩⟩⟩⟩⟩
def lw_privs : List (MethodName × Nat) := lw_privs_1 ++ (lw_privs_2 ++ (lw_privs_3))
def lw_tbl : List Cond := k2_sels lw_privs ++ tables_1
theorem lw_privs_ok : ∀ q ∈ lw_privs, lw_okq q := by
  show ∀ q ∈ lw_privs_1 ++ (lw_privs_2 ++ (lw_privs_3)), lw_okq q
  exact List.forall_mem_append.mpr ⟨lw_r1, List.forall_mem_append.mpr ⟨lw_r2, lw_r3⟩⟩
/-- the streams that the claim lets the run draw from -/
abbrev lw_cs : List Choice := [Jvm.Choice.named "NaN.bits"]
theorem lw_bits : nanBits ∈ lw_cs := by first | decide | exact List.mem_cons_self | simp [lw_cs, nanBits]
def RX0 : String := "SwappedTables$Cells"
def TX0 : u_T := fun k => match k with
  | 0 => ("SwappedTables$Cells", "contents", "[I", true)
  | 1 => ("SwappedTables$Cells", "seals", "[I", true)
  | _ => ("SwappedTables$Cells", "wears", "[I", true)
def tyX0 : Nat → FieldType := fun k => match k with
  | 0 => .array .int
  | 1 => .array .int
  | _ => .array .int
abbrev wsX00 : List Cond := u_ws RX0 TX0 3
theorem nmX0 : ∀ a, a < 3 → ∀ b, b < 3 → a ≠ b → (TX0 a).2.1 ≠ (TX0 b).2.1 := by decide +kernel
theorem tyX0_ok : ∀ k, k < 3 → parseFieldDescriptor (TX0 k).2.2.1 = some (tyX0 k) := by decide +kernel
abbrev cX0_init : ByteArray := prog_2_method_1_code
def yX0_init : MethodName := ⟨RX0, "<init>", "()V"⟩
abbrev cX0_sealOf : ByteArray := prog_2_method_2_code
def yX0_sealOf : MethodName := ⟨RX0, "sealOf", "(I)I"⟩
abbrev cX0_put : ByteArray := prog_2_method_3_code
def yX0_put : MethodName := ⟨RX0, "put", "(IIZ)V"⟩
abbrev cX0_contentOf : ByteArray := prog_2_method_4_code
def yX0_contentOf : MethodName := ⟨RX0, "contentOf", "(I)I"⟩
abbrev cX0_sealIn : ByteArray := prog_2_method_5_code
def yX0_sealIn : MethodName := ⟨RX0, "sealIn", "(I)I"⟩
abbrev cX0_wearOf : ByteArray := prog_2_method_6_code
def yX0_wearOf : MethodName := ⟨RX0, "wearOf", "(I)I"⟩
abbrev cX0_isTorn : ByteArray := prog_2_method_7_code
def yX0_isTorn : MethodName := ⟨RX0, "isTorn", "(I)Z"⟩
abbrev cX0_tornCells : ByteArray := prog_2_method_8_code
def yX0_tornCells : MethodName := ⟨RX0, "tornCells", "()I"⟩
abbrev cX0_greatestWear : ByteArray := prog_2_method_9_code
def yX0_greatestWear : MethodName := ⟨RX0, "greatestWear", "()I"⟩
abbrev cX0_allWear : ByteArray := prog_2_method_10_code
def yX0_allWear : MethodName := ⟨RX0, "allWear", "()I"⟩
abbrev cX0_copyFrom : ByteArray := prog_2_method_11_code
def yX0_copyFrom : MethodName := ⟨RX0, "copyFrom", "(LSwappedTables$Cells;)V"⟩
def RX1 : String := "SwappedTables$Desk"
def TX1 : u_T := fun k => match k with
  | _ => ("SwappedTables$Desk", "told", "[I", true)
def tyX1 : Nat → FieldType := fun k => match k with
  | _ => .array .int
abbrev wsX10 : List Cond := u_ws RX1 TX1 1
theorem nmX1 : ∀ a, a < 1 → ∀ b, b < 1 → a ≠ b → (TX1 a).2.1 ≠ (TX1 b).2.1 := by decide +kernel
theorem tyX1_ok : ∀ k, k < 1 → parseFieldDescriptor (TX1 k).2.2.1 = some (tyX1 k) := by decide +kernel
abbrev cX1_init : ByteArray := prog_3_method_1_code
def yX1_init : MethodName := ⟨RX1, "<init>", "()V"⟩
abbrev cX1_toldOf : ByteArray := prog_3_method_2_code
def yX1_toldOf : MethodName := ⟨RX1, "toldOf", "(I)I"⟩
abbrev cX1_tellsOf : ByteArray := prog_3_method_3_code
def yX1_tellsOf : MethodName := ⟨RX1, "tellsOf", "(I)Z"⟩
abbrev cX1_tell : ByteArray := prog_3_method_4_code
def yX1_tell : MethodName := ⟨RX1, "tell", "(II)V"⟩
abbrev cX1_empty : ByteArray := prog_3_method_5_code
def yX1_empty : MethodName := ⟨RX1, "empty", "()V"⟩
abbrev cX1_pagesTold : ByteArray := prog_3_method_6_code
def yX1_pagesTold : MethodName := ⟨RX1, "pagesTold", "()I"⟩
abbrev cX1_contents : ByteArray := prog_3_method_7_code
def yX1_contents : MethodName := ⟨RX1, "contents", "()I"⟩
abbrev cX1_pageOfContent : ByteArray := prog_3_method_8_code
def yX1_pageOfContent : MethodName := ⟨RX1, "pageOfContent", "(I)I"⟩
abbrev cX1_copyFrom : ByteArray := prog_3_method_9_code
def yX1_copyFrom : MethodName := ⟨RX1, "copyFrom", "(LSwappedTables$Desk;)V"⟩
def RX2 : String := "SwappedTables$Generation"
def TX2 : u_T := fun k => match k with
  | 0 => ("SwappedTables$Generation", "number", "I", false)
  | 1 => ("SwappedTables$Generation", "torn", "Z", false)
  | _ => ("SwappedTables$Generation", "cells", "[I", true)
def tyX2 : Nat → FieldType := fun k => match k with
  | 0 => .int
  | 1 => .boolean
  | _ => .array .int
abbrev wsX20 : List Cond := u_ws RX2 TX2 3
theorem nmX2 : ∀ a, a < 3 → ∀ b, b < 3 → a ≠ b → (TX2 a).2.1 ≠ (TX2 b).2.1 := by decide +kernel
theorem tyX2_ok : ∀ k, k < 3 → parseFieldDescriptor (TX2 k).2.2.1 = some (tyX2 k) := by decide +kernel
abbrev cX2_init : ByteArray := prog_4_method_1_code
def yX2_init : MethodName := ⟨RX2, "<init>", "(I)V"⟩
abbrev cX2_number : ByteArray := prog_4_method_2_code
def yX2_number : MethodName := ⟨RX2, "number", "()I"⟩
abbrev cX2_isTorn : ByteArray := prog_4_method_3_code
def yX2_isTorn : MethodName := ⟨RX2, "isTorn", "()Z"⟩
abbrev cX2_become : ByteArray := prog_4_method_4_code
def yX2_become : MethodName := ⟨RX2, "become", "(IZ)V"⟩
abbrev cX2_cellOf : ByteArray := prog_4_method_5_code
def yX2_cellOf : MethodName := ⟨RX2, "cellOf", "(I)I"⟩
abbrev cX2_give : ByteArray := prog_4_method_6_code
def yX2_give : MethodName := ⟨RX2, "give", "(II)V"⟩
abbrev cX2_pageWith : ByteArray := prog_4_method_7_code
def yX2_pageWith : MethodName := ⟨RX2, "pageWith", "(I)I"⟩
abbrev cX2_pageSet : ByteArray := prog_4_method_8_code
def yX2_pageSet : MethodName := ⟨RX2, "pageSet", "()I"⟩
abbrev cX2_pages : ByteArray := prog_4_method_9_code
def yX2_pages : MethodName := ⟨RX2, "pages", "()I"⟩
abbrev cX2_copyFrom : ByteArray := prog_4_method_10_code
def yX2_copyFrom : MethodName := ⟨RX2, "copyFrom", "(LSwappedTables$Generation;)V"⟩
def RX3 : String := "SwappedTables$History"
def TX3 : u_T := fun k => match k with
  | 0 => ("SwappedTables$History", "rows", "[LSwappedTables$State;", true)
  | 1 => ("SwappedTables$History", "oldest", "I", false)
  | _ => ("SwappedTables$History", "many", "I", false)
def tyX3 : Nat → FieldType := fun k => match k with
  | 0 => .array (.object "SwappedTables$State")
  | 1 => .int
  | _ => .int
abbrev wsX30 : List Cond := u_ws RX3 TX3 3
theorem nmX3 : ∀ a, a < 3 → ∀ b, b < 3 → a ≠ b → (TX3 a).2.1 ≠ (TX3 b).2.1 := by decide +kernel
theorem tyX3_ok : ∀ k, k < 3 → parseFieldDescriptor (TX3 k).2.2.1 = some (tyX3 k) := by decide +kernel
abbrev cX3_init : ByteArray := prog_5_method_1_code
def yX3_init : MethodName := ⟨RX3, "<init>", "()V"⟩
abbrev cX3_states : ByteArray := prog_5_method_2_code
def yX3_states : MethodName := ⟨RX3, "states", "()I"⟩
abbrev cX3_record : ByteArray := prog_5_method_3_code
def yX3_record : MethodName := ⟨RX3, "record", "(LSwappedTables$State;)V"⟩
abbrev cX3_takeLatest : ByteArray := prog_5_method_4_code
def yX3_takeLatest : MethodName := ⟨RX3, "takeLatest", "(LSwappedTables$State;)V"⟩
def RX4 : String := "SwappedTables$PageText"
def TX4 : u_T := fun k => match k with
  | 0 => ("SwappedTables$PageText", "characters", "[C", true)
  | 1 => ("SwappedTables$PageText", "length", "I", false)
  | 2 => ("SwappedTables$PageText", "pages", "[I", true)
  | 3 => ("SwappedTables$PageText", "told", "[I", true)
  | _ => ("SwappedTables$PageText", "entries", "I", false)
def tyX4 : Nat → FieldType := fun k => match k with
  | 0 => .array .char
  | 1 => .int
  | 2 => .array .int
  | 3 => .array .int
  | _ => .int
abbrev wsX40 : List Cond := u_ws RX4 TX4 5
theorem nmX4 : ∀ a, a < 5 → ∀ b, b < 5 → a ≠ b → (TX4 a).2.1 ≠ (TX4 b).2.1 := by decide +kernel
theorem tyX4_ok : ∀ k, k < 5 → parseFieldDescriptor (TX4 k).2.2.1 = some (tyX4 k) := by decide +kernel
abbrev cX4_init : ByteArray := prog_6_method_1_code
def yX4_init : MethodName := ⟨RX4, "<init>", "()V"⟩
abbrev cX4_length : ByteArray := prog_6_method_2_code
def yX4_length : MethodName := ⟨RX4, "length", "()I"⟩
abbrev cX4_isFull : ByteArray := prog_6_method_3_code
def yX4_isFull : MethodName := ⟨RX4, "isFull", "()Z"⟩
abbrev cX4_append : ByteArray := prog_6_method_4_code
def yX4_append : MethodName := ⟨RX4, "append", "(C)V"⟩
abbrev cX4_empty : ByteArray := prog_6_method_5_code
def yX4_empty : MethodName := ⟨RX4, "empty", "()V"⟩
abbrev cX4_entries : ByteArray := prog_6_method_6_code
def yX4_entries : MethodName := ⟨RX4, "entries", "()I"⟩
abbrev cX4_pageOfEntry : ByteArray := prog_6_method_7_code
def yX4_pageOfEntry : MethodName := ⟨RX4, "pageOfEntry", "(I)I"⟩
abbrev cX4_toldByEntry : ByteArray := prog_6_method_8_code
def yX4_toldByEntry : MethodName := ⟨RX4, "toldByEntry", "(I)I"⟩
abbrev cX4_scan : ByteArray := prog_6_method_9_code
def yX4_scan : MethodName := ⟨RX4, "scan", "()I"⟩
abbrev cX4_dueBehind : ByteArray := prog_6_method_10_code
def yX4_dueBehind : MethodName := ⟨RX4, "dueBehind", "(IC)I"⟩
abbrev cX4_note : ByteArray := prog_6_method_11_code
def yX4_note : MethodName := ⟨RX4, "note", "(IC)V"⟩
abbrev cX4_startEntry : ByteArray := prog_6_method_12_code
def yX4_startEntry : MethodName := ⟨RX4, "startEntry", "(I)V"⟩
abbrev cX4_addDigit : ByteArray := prog_6_method_13_code
def yX4_addDigit : MethodName := ⟨RX4, "addDigit", "(I)V"⟩
def RX5 : String := "SwappedTables$Readers"
def TX5 : u_T := fun k => match k with
  | 0 => ("SwappedTables$Readers", "present", "[Z", true)
  | _ => ("SwappedTables$Readers", "kept", "[LSwappedTables$Generation;", true)
def tyX5 : Nat → FieldType := fun k => match k with
  | 0 => .array .boolean
  | _ => .array (.object "SwappedTables$Generation")
abbrev wsX50 : List Cond := u_ws RX5 TX5 2
theorem nmX5 : ∀ a, a < 2 → ∀ b, b < 2 → a ≠ b → (TX5 a).2.1 ≠ (TX5 b).2.1 := by decide +kernel
theorem tyX5_ok : ∀ k, k < 2 → parseFieldDescriptor (TX5 k).2.2.1 = some (tyX5 k) := by decide +kernel
abbrev cX5_init : ByteArray := prog_7_method_1_code
def yX5_init : MethodName := ⟨RX5, "<init>", "()V"⟩
abbrev cX5_has : ByteArray := prog_7_method_2_code
def yX5_has : MethodName := ⟨RX5, "has", "(I)Z"⟩
abbrev cX5_lowestFree : ByteArray := prog_7_method_3_code
def yX5_lowestFree : MethodName := ⟨RX5, "lowestFree", "()I"⟩
abbrev cX5_howMany : ByteArray := prog_7_method_4_code
def yX5_howMany : MethodName := ⟨RX5, "howMany", "()I"⟩
abbrev cX5_howManyWith : ByteArray := prog_7_method_5_code
def yX5_howManyWith : MethodName := ⟨RX5, "howManyWith", "(I)I"⟩
abbrev cX5_adm : ByteArray := prog_7_method_6_code
/-- the name of a method, as the tables' word 532 has it (its word may not be written in rows) -/
def nmX5_53 : String := match (lw_tbl[532]? : Option Jvm.Cond) with
  | some (Jvm.Cond.methodLink _ _ y) => y.name
  | _ => ""
def yX5_adm : MethodName := ⟨RX5, nmX5_53, "(ILSwappedTables$Generation;)V"⟩
abbrev cX5_dismiss : ByteArray := prog_7_method_7_code
def yX5_dismiss : MethodName := ⟨RX5, "dismiss", "(I)V"⟩
abbrev cX5_dismissAll : ByteArray := prog_7_method_8_code
def yX5_dismissAll : MethodName := ⟨RX5, "dismissAll", "()V"⟩
abbrev cX5_numberOf : ByteArray := prog_7_method_9_code
def yX5_numberOf : MethodName := ⟨RX5, "numberOf", "(I)I"⟩
abbrev cX5_cellOf : ByteArray := prog_7_method_10_code
def yX5_cellOf : MethodName := ⟨RX5, "cellOf", "(II)I"⟩
abbrev cX5_copyFrom : ByteArray := prog_7_method_11_code
def yX5_copyFrom : MethodName := ⟨RX5, "copyFrom", "(LSwappedTables$Readers;)V"⟩
def RX6 : String := "SwappedTables$State"
def TX6 : u_T := fun k => match k with
  | 0 => ("SwappedTables$State", "cells", "LSwappedTables$Cells;", true)
  | 1 => ("SwappedTables$State", "firstTable", "LSwappedTables$Generation;", true)
  | 2 => ("SwappedTables$State", "secondTable", "LSwappedTables$Generation;", true)
  | 3 => ("SwappedTables$State", "desk", "LSwappedTables$Desk;", true)
  | 4 => ("SwappedTables$State", "swap", "LSwappedTables$Swap;", true)
  | 5 => ("SwappedTables$State", "readers", "LSwappedTables$Readers;", true)
  | 6 => ("SwappedTables$State", "mark", "I", false)
  | 7 => ("SwappedTables$State", "crashes", "I", false)
  | _ => ("SwappedTables$State", "swaps", "I", false)
def tyX6 : Nat → FieldType := fun k => match k with
  | 0 => .object "SwappedTables$Cells"
  | 1 => .object "SwappedTables$Generation"
  | 2 => .object "SwappedTables$Generation"
  | 3 => .object "SwappedTables$Desk"
  | 4 => .object "SwappedTables$Swap"
  | 5 => .object "SwappedTables$Readers"
  | 6 => .int
  | 7 => .int
  | _ => .int
abbrev wsX60 : List Cond := u_ws RX6 TX6 9
theorem nmX6 : ∀ a, a < 9 → ∀ b, b < 9 → a ≠ b → (TX6 a).2.1 ≠ (TX6 b).2.1 := by decide +kernel
theorem tyX6_ok : ∀ k, k < 9 → parseFieldDescriptor (TX6 k).2.2.1 = some (tyX6 k) := by decide +kernel
abbrev cX6_init : ByteArray := prog_8_method_1_code
def yX6_init : MethodName := ⟨RX6, "<init>", "()V"⟩
abbrev cX6_mark : ByteArray := prog_8_method_2_code
def yX6_mark : MethodName := ⟨RX6, "mark", "()I"⟩
abbrev cX6_crashes : ByteArray := prog_8_method_3_code
def yX6_crashes : MethodName := ⟨RX6, "crashes", "()I"⟩
abbrev cX6_swaps : ByteArray := prog_8_method_4_code
def yX6_swaps : MethodName := ⟨RX6, "swaps", "()I"⟩
abbrev cX6_tableAt : ByteArray := prog_8_method_5_code
def yX6_tableAt : MethodName := ⟨RX6, "tableAt", "(I)LSwappedTables$Generation;"⟩
abbrev cX6_oldGeneration : ByteArray := prog_8_method_6_code
def yX6_oldGeneration : MethodName := ⟨RX6, "oldGeneration", "()LSwappedTables$Generation;"⟩
abbrev cX6_contentByOld : ByteArray := prog_8_method_7_code
def yX6_contentByOld : MethodName := ⟨RX6, "contentByOld", "(I)I"⟩
abbrev cX6_contentByDesk : ByteArray := prog_8_method_8_code
def yX6_contentByDesk : MethodName := ⟨RX6, "contentByDesk", "(I)I"⟩
abbrev cX6_isFree : ByteArray := prog_8_method_9_code
def yX6_isFree : MethodName := ⟨RX6, "isFree", "(I)Z"⟩
abbrev cX6_freeCells : ByteArray := prog_8_method_10_code
def yX6_freeCells : MethodName := ⟨RX6, "freeCells", "()I"⟩
abbrev cX6_cellsOfReadersOnly : ByteArray := prog_8_method_11_code
def yX6_cellsOfReadersOnly : MethodName := ⟨RX6, "cellsOfReadersOnly", "()I"⟩
abbrev cX6_cellToWrite : ByteArray := prog_8_method_12_code
def yX6_cellToWrite : MethodName := ⟨RX6, "cellToWrite", "()I"⟩
abbrev cX6_stepsOwed : ByteArray := prog_8_method_13_code
def yX6_stepsOwed : MethodName := ⟨RX6, "stepsOwed", "()I"⟩
abbrev cX6_cellsOwed : ByteArray := prog_8_method_14_code
def yX6_cellsOwed : MethodName := ⟨RX6, "cellsOwed", "()I"⟩
abbrev cX6_kindOwedAt : ByteArray := prog_8_method_15_code
def yX6_kindOwedAt : MethodName := ⟨RX6, "kindOwedAt", "(I)I"⟩
abbrev cX6_pageOwedAt : ByteArray := prog_8_method_16_code
def yX6_pageOwedAt : MethodName := ⟨RX6, "pageOwedAt", "(I)I"⟩
abbrev cX6_canGoOn : ByteArray := prog_8_method_17_code
def yX6_canGoOn : MethodName := ⟨RX6, "canGoOn", "()Z"⟩
abbrev cX6_goOn : ByteArray := prog_8_method_18_code
def yX6_goOn : MethodName := ⟨RX6, "goOn", "()V"⟩
abbrev cX6_writeOwedCell : ByteArray := prog_8_method_19_code
def yX6_writeOwedCell : MethodName := ⟨RX6, "writeOwedCell", "()V"⟩
abbrev cX6_writeNewTable : ByteArray := prog_8_method_20_code
def yX6_writeNewTable : MethodName := ⟨RX6, "writeNewTable", "(Z)V"⟩
abbrev cX6_setMark : ByteArray := prog_8_method_21_code
def yX6_setMark : MethodName := ⟨RX6, "setMark", "()V"⟩
abbrev cX6_tearNextStep : ByteArray := prog_8_method_22_code
def yX6_tearNextStep : MethodName := ⟨RX6, "tearNextStep", "()V"⟩
abbrev cX6_loseWhatCrashesLose : ByteArray := prog_8_method_23_code
def yX6_loseWhatCrashesLose : MethodName := ⟨RX6, "loseWhatCrashesLose", "()V"⟩
abbrev cX6_copyFrom : ByteArray := prog_8_method_24_code
def yX6_copyFrom : MethodName := ⟨RX6, "copyFrom", "(LSwappedTables$State;)V"⟩
def RX7 : String := "SwappedTables$Swap"
def TX7 : u_T := fun k => match k with
  | 0 => ("SwappedTables$Swap", "on", "Z", false)
  | 1 => ("SwappedTables$Swap", "done", "I", false)
  | _ => ("SwappedTables$Swap", "written", "[I", true)
def tyX7 : Nat → FieldType := fun k => match k with
  | 0 => .boolean
  | 1 => .int
  | _ => .array .int
abbrev wsX70 : List Cond := u_ws RX7 TX7 3
theorem nmX7 : ∀ a, a < 3 → ∀ b, b < 3 → a ≠ b → (TX7 a).2.1 ≠ (TX7 b).2.1 := by decide +kernel
theorem tyX7_ok : ∀ k, k < 3 → parseFieldDescriptor (TX7 k).2.2.1 = some (tyX7 k) := by decide +kernel
abbrev cX7_init : ByteArray := prog_9_method_1_code
def yX7_init : MethodName := ⟨RX7, "<init>", "()V"⟩
abbrev cX7_goesOn : ByteArray := prog_9_method_2_code
def yX7_goesOn : MethodName := ⟨RX7, "goesOn", "()Z"⟩
abbrev cX7_stepsDone : ByteArray := prog_9_method_3_code
def yX7_stepsDone : MethodName := ⟨RX7, "stepsDone", "()I"⟩
abbrev cX7_start : ByteArray := prog_9_method_4_code
def yX7_start : MethodName := ⟨RX7, "start", "()V"⟩
abbrev cX7_end : ByteArray := prog_9_method_5_code
def yX7_end : MethodName := ⟨RX7, "end", "()V"⟩
abbrev cX7_countStep : ByteArray := prog_9_method_6_code
def yX7_countStep : MethodName := ⟨RX7, "countStep", "()V"⟩
abbrev cX7_noteWritten : ByteArray := prog_9_method_7_code
def yX7_noteWritten : MethodName := ⟨RX7, "noteWritten", "(II)V"⟩
abbrev cX7_cellWrittenFor : ByteArray := prog_9_method_8_code
def yX7_cellWrittenFor : MethodName := ⟨RX7, "cellWrittenFor", "(I)I"⟩
abbrev cX7_pageWrittenTo : ByteArray := prog_9_method_9_code
def yX7_pageWrittenTo : MethodName := ⟨RX7, "pageWrittenTo", "(I)I"⟩
abbrev cX7_copyFrom : ByteArray := prog_9_method_10_code
def yX7_copyFrom : MethodName := ⟨RX7, "copyFrom", "(LSwappedTables$Swap;)V"⟩
def RX8 : String := "SwappedTables"
def TX8 : u_T := fun k => match k with
  | 0 => ("SwappedTables", "now", "LSwappedTables$State;", true)
  | 1 => ("SwappedTables", "snapshot", "LSwappedTables$State;", true)
  | 2 => ("SwappedTables", "history", "LSwappedTables$History;", true)
  | 3 => ("SwappedTables", "text", "LSwappedTables$PageText;", true)
  | _ => ("SwappedTables", "hasSnapshot", "Z", false)
def tyX8 : Nat → FieldType := fun k => match k with
  | 0 => .object "SwappedTables$State"
  | 1 => .object "SwappedTables$State"
  | 2 => .object "SwappedTables$History"
  | 3 => .object "SwappedTables$PageText"
  | _ => .boolean
abbrev wsX80 : List Cond := u_ws RX8 TX8 5
theorem nmX8 : ∀ a, a < 5 → ∀ b, b < 5 → a ≠ b → (TX8 a).2.1 ≠ (TX8 b).2.1 := by decide +kernel
theorem tyX8_ok : ∀ k, k < 5 → parseFieldDescriptor (TX8 k).2.2.1 = some (tyX8 k) := by decide +kernel
abbrev cX8_init : ByteArray := prog_1_method_1_code
def yX8_init : MethodName := ⟨RX8, "<init>", "()V"⟩
abbrev cX8_write : ByteArray := prog_1_method_2_code
def yX8_write : MethodName := ⟨RX8, "write", "(II)I"⟩
abbrev cX8_drop : ByteArray := prog_1_method_3_code
def yX8_drop : MethodName := ⟨RX8, "drop", "(I)I"⟩
abbrev cX8_tellDesk : ByteArray := prog_1_method_4_code
def yX8_tellDesk : MethodName := ⟨RX8, "tellDesk", "(II)I"⟩
abbrev cX8_writeAll : ByteArray := prog_1_method_5_code
def yX8_writeAll : MethodName := ⟨RX8, "writeAll", "()I"⟩
abbrev cX8_clear : ByteArray := prog_1_method_6_code
def yX8_clear : MethodName := ⟨RX8, "clear", "()I"⟩
abbrev cX8_begin : ByteArray := prog_1_method_7_code
def yX8_begin : MethodName := ⟨RX8, "begin", "()I"⟩
abbrev cX8_step : ByteArray := prog_1_method_8_code
def yX8_step : MethodName := ⟨RX8, "step", "()I"⟩
abbrev cX8_finish : ByteArray := prog_1_method_9_code
def yX8_finish : MethodName := ⟨RX8, "finish", "()I"⟩
abbrev cX8_giveUp : ByteArray := prog_1_method_10_code
def yX8_giveUp : MethodName := ⟨RX8, "giveUp", "()I"⟩
abbrev cX8_crash : ByteArray := prog_1_method_11_code
def yX8_crash : MethodName := ⟨RX8, "crash", "(Z)I"⟩
abbrev cX8_open : ByteArray := prog_1_method_12_code
def yX8_open : MethodName := ⟨RX8, "open", "()I"⟩
abbrev cX8_close : ByteArray := prog_1_method_13_code
def yX8_close : MethodName := ⟨RX8, "close", "(I)I"⟩
abbrev cX8_type : ByteArray := prog_1_method_14_code
def yX8_type : MethodName := ⟨RX8, "type", "(C)I"⟩
abbrev cX8_clearText : ByteArray := prog_1_method_15_code
def yX8_clearText : MethodName := ⟨RX8, "clearText", "()I"⟩
abbrev cX8_undo : ByteArray := prog_1_method_16_code
def yX8_undo : MethodName := ⟨RX8, "undo", "()I"⟩
abbrev cX8_keep : ByteArray := prog_1_method_17_code
def yX8_keep : MethodName := ⟨RX8, "keep", "()I"⟩
abbrev cX8_restore : ByteArray := prog_1_method_18_code
def yX8_restore : MethodName := ⟨RX8, "restore", "()I"⟩
abbrev cX8_read : ByteArray := prog_1_method_19_code
def yX8_read : MethodName := ⟨RX8, "read", "(I)I"⟩
abbrev cX8_readDesk : ByteArray := prog_1_method_20_code
def yX8_readDesk : MethodName := ⟨RX8, "readDesk", "(I)I"⟩
abbrev cX8_readBy : ByteArray := prog_1_method_21_code
def yX8_readBy : MethodName := ⟨RX8, "readBy", "(II)I"⟩
abbrev cX8_cell : ByteArray := prog_1_method_22_code
def yX8_cell : MethodName := ⟨RX8, "cell", "(II)I"⟩
abbrev cX8_table : ByteArray := prog_1_method_23_code
def yX8_table : MethodName := ⟨RX8, "table", "(II)I"⟩
abbrev cX8_owed : ByteArray := prog_1_method_24_code
def yX8_owed : MethodName := ⟨RX8, "owed", "(II)I"⟩
abbrev cX8_reader : ByteArray := prog_1_method_25_code
def yX8_reader : MethodName := ⟨RX8, "reader", "(I)I"⟩
abbrev cX8_unevenness : ByteArray := prog_1_method_26_code
def yX8_unevenness : MethodName := ⟨RX8, "unevenness", "()D"⟩
abbrev cX8_unevennessBits : ByteArray := prog_1_method_27_code
def yX8_unevennessBits : MethodName := ⟨RX8, "unevennessBits", "()I"⟩
abbrev cX8_count : ByteArray := prog_1_method_28_code
def yX8_count : MethodName := ⟨RX8, "count", "(I)I"⟩
abbrev cX8_isPage : ByteArray := prog_1_method_29_code
def yX8_isPage : MethodName := ⟨RX8, "isPage", "(I)Z"⟩
abbrev cX8_isCell : ByteArray := prog_1_method_30_code
def yX8_isCell : MethodName := ⟨RX8, "isCell", "(I)Z"⟩
abbrev cX8_asNumber : ByteArray := prog_1_method_31_code
def yX8_asNumber : MethodName := ⟨RX8, "asNumber", "(Z)I"⟩
abbrev cX8_fillInts : ByteArray := prog_1_method_32_code
def yX8_fillInts : MethodName := ⟨RX8, "fillInts", "([II)V"⟩
abbrev cX8_copyInts : ByteArray := prog_1_method_33_code
def yX8_copyInts : MethodName := ⟨RX8, "copyInts", "([I[I)V"⟩
abbrev cX8_bitsOf : ByteArray := prog_1_method_34_code
def yX8_bitsOf : MethodName := ⟨RX8, "bitsOf", "(F)I"⟩
def RX9 : String := "SwappedTablesModel"
def TX9 : u_T := fun k => match k with
  | 0 => ("SwappedTablesModel", "now", "[I", true)
  | 1 => ("SwappedTablesModel", "past", "[I", true)
  | 2 => ("SwappedTablesModel", "states", "I", false)
  | 3 => ("SwappedTablesModel", "snapshot", "[I", true)
  | 4 => ("SwappedTablesModel", "isKept", "Z", false)
  | 5 => ("SwappedTablesModel", "text", "[C", true)
  | 6 => ("SwappedTablesModel", "length", "I", false)
  | 7 => ("SwappedTablesModel", "spot", "I", false)
  | 8 => ("SwappedTablesModel", "toldText", "[I", true)
  | _ => ("SwappedTablesModel", "toldMany", "I", false)
def tyX9 : Nat → FieldType := fun k => match k with
  | 0 => .array .int
  | 1 => .array .int
  | 2 => .int
  | 3 => .array .int
  | 4 => .boolean
  | 5 => .array .char
  | 6 => .int
  | 7 => .int
  | 8 => .array .int
  | _ => .int
abbrev wsX90 : List Cond := u_ws RX9 TX9 10
theorem nmX9 : ∀ a, a < 10 → ∀ b, b < 10 → a ≠ b → (TX9 a).2.1 ≠ (TX9 b).2.1 := by decide +kernel
theorem tyX9_ok : ∀ k, k < 10 → parseFieldDescriptor (TX9 k).2.2.1 = some (tyX9 k) := by decide +kernel
abbrev cX9_init : ByteArray := prog_11_method_1_code
def yX9_init : MethodName := ⟨RX9, "<init>", "()V"⟩
abbrev cX9_in : ByteArray := prog_11_method_3_code
def yX9_in : MethodName := ⟨RX9, "in", "(III)Z"⟩
abbrev cX9_isPage : ByteArray := prog_11_method_4_code
def yX9_isPage : MethodName := ⟨RX9, "isPage", "(I)Z"⟩
abbrev cX9_lays : ByteArray := prog_11_method_5_code
def yX9_lays : MethodName := ⟨RX9, "lays", "([II[II)V"⟩
abbrev cX9_records : ByteArray := prog_11_method_6_code
def yX9_records : MethodName := ⟨RX9, "records", "()V"⟩
abbrev cX9_sealOf : ByteArray := prog_11_method_7_code
def yX9_sealOf : MethodName := ⟨RX9, "sealOf", "(I)I"⟩
abbrev cX9_old : ByteArray := prog_11_method_8_code
def yX9_old : MethodName := ⟨RX9, "old", "(I)I"⟩
abbrev cX9_isReader : ByteArray := prog_11_method_9_code
def yX9_isReader : MethodName := ⟨RX9, "isReader", "(I)Z"⟩
abbrev cX9_pageOld : ByteArray := prog_11_method_10_code
def yX9_pageOld : MethodName := ⟨RX9, "pageOld", "(I)I"⟩
abbrev cX9_hasIt : ByteArray := prog_11_method_11_code
def yX9_hasIt : MethodName := ⟨RX9, "hasIt", "(II)Z"⟩
abbrev cX9_readersOf : ByteArray := prog_11_method_12_code
def yX9_readersOf : MethodName := ⟨RX9, "readersOf", "(I)I"⟩
abbrev cX9_pageWritten : ByteArray := prog_11_method_13_code
def yX9_pageWritten : MethodName := ⟨RX9, "pageWritten", "(I)I"⟩
abbrev cX9_isFree : ByteArray := prog_11_method_14_code
def yX9_isFree : MethodName := ⟨RX9, "isFree", "(I)Z"⟩
abbrev cX9_isTorn : ByteArray := prog_11_method_15_code
def yX9_isTorn : MethodName := ⟨RX9, "isTorn", "(I)Z"⟩
abbrev cX9_nextFree : ByteArray := prog_11_method_16_code
def yX9_nextFree : MethodName := ⟨RX9, "nextFree", "()I"⟩
abbrev cX9_writes : ByteArray := prog_11_method_17_code
def yX9_writes : MethodName := ⟨RX9, "writes", "(III)V"⟩
abbrev cX9_told : ByteArray := prog_11_method_18_code
def yX9_told : MethodName := ⟨RX9, "told", "()I"⟩
abbrev cX9_clearsDesk : ByteArray := prog_11_method_19_code
def yX9_clearsDesk : MethodName := ⟨RX9, "clearsDesk", "()V"⟩
abbrev cX9_becomes : ByteArray := prog_11_method_20_code
def yX9_becomes : MethodName := ⟨RX9, "becomes", "(II)I"⟩
abbrev cX9_write : ByteArray := prog_11_method_21_code
def yX9_write : MethodName := ⟨RX9, "write", "(II)I"⟩
abbrev cX9_drop : ByteArray := prog_11_method_22_code
def yX9_drop : MethodName := ⟨RX9, "drop", "(I)I"⟩
abbrev cX9_writeAll : ByteArray := prog_11_method_23_code
def yX9_writeAll : MethodName := ⟨RX9, "writeAll", "()I"⟩
abbrev cX9_clear : ByteArray := prog_11_method_24_code
def yX9_clear : MethodName := ⟨RX9, "clear", "()I"⟩
abbrev cX9_contents : ByteArray := prog_11_method_25_code
def yX9_contents : MethodName := ⟨RX9, "contents", "()I"⟩
abbrev cX9_owes : ByteArray := prog_11_method_26_code
def yX9_owes : MethodName := ⟨RX9, "owes", "()I"⟩
abbrev cX9_pageOf : ByteArray := prog_11_method_27_code
def yX9_pageOf : MethodName := ⟨RX9, "pageOf", "(I)I"⟩
abbrev cX9_endsSwap : ByteArray := prog_11_method_28_code
def yX9_endsSwap : MethodName := ⟨RX9, "endsSwap", "()V"⟩
abbrev cX9_writesTable : ByteArray := prog_11_method_29_code
def yX9_writesTable : MethodName := ⟨RX9, "writesTable", "(I)V"⟩
abbrev cX9_canStep : ByteArray := prog_11_method_30_code
def yX9_canStep : MethodName := ⟨RX9, "canStep", "()Z"⟩
abbrev cX9_steps : ByteArray := prog_11_method_31_code
def yX9_steps : MethodName := ⟨RX9, "steps", "()V"⟩
abbrev cX9_begin : ByteArray := prog_11_method_32_code
def yX9_begin : MethodName := ⟨RX9, "begin", "()I"⟩
abbrev cX9_step : ByteArray := prog_11_method_33_code
def yX9_step : MethodName := ⟨RX9, "step", "()I"⟩
abbrev cX9_finish : ByteArray := prog_11_method_34_code
def yX9_finish : MethodName := ⟨RX9, "finish", "()I"⟩
abbrev cX9_giveUp : ByteArray := prog_11_method_35_code
def yX9_giveUp : MethodName := ⟨RX9, "giveUp", "()I"⟩
abbrev cX9_tears : ByteArray := prog_11_method_36_code
def yX9_tears : MethodName := ⟨RX9, "tears", "()V"⟩
abbrev cX9_crash : ByteArray := prog_11_method_37_code
def yX9_crash : MethodName := ⟨RX9, "crash", "(Z)I"⟩
abbrev cX9_readers : ByteArray := prog_11_method_38_code
def yX9_readers : MethodName := ⟨RX9, "readers", "()I"⟩
abbrev cX9_open : ByteArray := prog_11_method_39_code
def yX9_open : MethodName := ⟨RX9, "open", "()I"⟩
abbrev cX9_close : ByteArray := prog_11_method_40_code
def yX9_close : MethodName := ⟨RX9, "close", "(I)I"⟩
abbrev cX9_type : ByteArray := prog_11_method_41_code
def yX9_type : MethodName := ⟨RX9, "type", "(C)I"⟩
abbrev cX9_clearText : ByteArray := prog_11_method_42_code
def yX9_clearText : MethodName := ⟨RX9, "clearText", "()I"⟩
abbrev cX9_sees : ByteArray := prog_11_method_43_code
def yX9_sees : MethodName := ⟨RX9, "sees", "(II)Z"⟩
abbrev cX9_takes : ByteArray := prog_11_method_44_code
def yX9_takes : MethodName := ⟨RX9, "takes", "(I)Z"⟩
abbrev cX9_isEntry : ByteArray := prog_11_method_45_code
def yX9_isEntry : MethodName := ⟨RX9, "isEntry", "()Z"⟩
abbrev cX9_fault : ByteArray := prog_11_method_46_code
def yX9_fault : MethodName := ⟨RX9, "fault", "()I"⟩
abbrev cX9_undo : ByteArray := prog_11_method_47_code
def yX9_undo : MethodName := ⟨RX9, "undo", "()I"⟩
abbrev cX9_keep : ByteArray := prog_11_method_48_code
def yX9_keep : MethodName := ⟨RX9, "keep", "()I"⟩
abbrev cX9_restore : ByteArray := prog_11_method_49_code
def yX9_restore : MethodName := ⟨RX9, "restore", "()I"⟩
abbrev cX9_contentOf : ByteArray := prog_11_method_50_code
def yX9_contentOf : MethodName := ⟨RX9, "contentOf", "(I)I"⟩
abbrev cX9_read : ByteArray := prog_11_method_51_code
def yX9_read : MethodName := ⟨RX9, "read", "(I)I"⟩
abbrev cX9_readDesk : ByteArray := prog_11_method_52_code
def yX9_readDesk : MethodName := ⟨RX9, "readDesk", "(I)I"⟩
abbrev cX9_readBy : ByteArray := prog_11_method_53_code
def yX9_readBy : MethodName := ⟨RX9, "readBy", "(II)I"⟩
abbrev cX9_cell : ByteArray := prog_11_method_54_code
def yX9_cell : MethodName := ⟨RX9, "cell", "(II)I"⟩
abbrev cX9_pagesOf : ByteArray := prog_11_method_55_code
def yX9_pagesOf : MethodName := ⟨RX9, "pagesOf", "(I)I"⟩
abbrev cX9_table : ByteArray := prog_11_method_56_code
def yX9_table : MethodName := ⟨RX9, "table", "(II)I"⟩
abbrev cX9_owed : ByteArray := prog_11_method_57_code
def yX9_owed : MethodName := ⟨RX9, "owed", "(II)I"⟩
abbrev cX9_reader : ByteArray := prog_11_method_58_code
def yX9_reader : MethodName := ⟨RX9, "reader", "(I)I"⟩
abbrev cX9_allWear : ByteArray := prog_11_method_59_code
def yX9_allWear : MethodName := ⟨RX9, "allWear", "()I"⟩
abbrev cX9_greatestWear : ByteArray := prog_11_method_60_code
def yX9_greatestWear : MethodName := ⟨RX9, "greatestWear", "()I"⟩
abbrev cX9_unevenness : ByteArray := prog_11_method_61_code
def yX9_unevenness : MethodName := ⟨RX9, "unevenness", "()D"⟩
abbrev cX9_unevennessBits : ByteArray := prog_11_method_62_code
def yX9_unevennessBits : MethodName := ⟨RX9, "unevennessBits", "()I"⟩
abbrev cX9_ones : ByteArray := prog_11_method_63_code
def yX9_ones : MethodName := ⟨RX9, "ones", "(I)I"⟩
abbrev cX9_cellsThat : ByteArray := prog_11_method_64_code
def yX9_cellsThat : MethodName := ⟨RX9, "cellsThat", "(I)I"⟩
abbrev cX9_owedCells : ByteArray := prog_11_method_65_code
def yX9_owedCells : MethodName := ⟨RX9, "owedCells", "()I"⟩
abbrev cX9_count : ByteArray := prog_11_method_66_code
def yX9_count : MethodName := ⟨RX9, "count", "(I)I"⟩
def RJxf58ca : String := "java/lang/Float"
def TJxf58ca : u_T := fun k => match k with
  | _ => ("", "", "", false)
def tyJxf58ca : Nat → FieldType := fun k => match k with
  | _ => .int
abbrev wsJxf58ca0 : List Cond := u_ws RJxf58ca TJxf58ca 0
theorem nmJxf58ca : ∀ a, a < 0 → ∀ b, b < 0 → a ≠ b → (TJxf58ca a).2.1 ≠ (TJxf58ca b).2.1 := by decide +kernel
theorem tyJxf58ca_ok : ∀ k, k < 0 → parseFieldDescriptor (TJxf58ca k).2.2.1 = some (tyJxf58ca k) := by decide +kernel
abbrev cJxf58ca_isNaN_12338 : ByteArray := prog_12_method_6_code
def yJxf58ca_isNaN_12338 : MethodName := ⟨RJxf58ca, "isNaN", "(F)Z"⟩
abbrev cJxf58ca_floatToIntBits_5c35a : ByteArray := prog_12_method_24_code
def yJxf58ca_floatToIntBits_5c35a : MethodName := ⟨RJxf58ca, "floatToIntBits", "(F)I"⟩
def RJ6 : String := "java/lang/Integer"
def TJ6 : u_T := fun k => match k with
  | _ => ("", "", "", false)
def tyJ6 : Nat → FieldType := fun k => match k with
  | _ => .int
abbrev wsJ60 : List Cond := u_ws RJ6 TJ6 0
theorem nmJ6 : ∀ a, a < 0 → ∀ b, b < 0 → a ≠ b → (TJ6 a).2.1 ≠ (TJ6 b).2.1 := by decide +kernel
theorem tyJ6_ok : ∀ k, k < 0 → parseFieldDescriptor (TJ6 k).2.2.1 = some (tyJ6 k) := by decide +kernel
abbrev cJ6_bitCount_0f7a4 : ByteArray := prog_13_method_49_code
def yJ6_bitCount_0f7a4 : MethodName := ⟨RJ6, "bitCount", "(I)I"⟩
def RJ9 : String := "java/lang/Math"
def TJ9 : u_T := fun k => match k with
  | _ => ("", "", "", false)
def tyJ9 : Nat → FieldType := fun k => match k with
  | _ => .int
abbrev wsJ90 : List Cond := u_ws RJ9 TJ9 0
theorem nmJ9 : ∀ a, a < 0 → ∀ b, b < 0 → a ≠ b → (TJ9 a).2.1 ≠ (TJ9 b).2.1 := by decide +kernel
theorem tyJ9_ok : ∀ k, k < 0 → parseFieldDescriptor (TJ9 k).2.2.1 = some (tyJ9 k) := by decide +kernel
abbrev cJ9_floorMod_7cf53 : ByteArray := prog_14_method_50_code
def yJ9_floorMod_7cf53 : MethodName := ⟨RJ9, "floorMod", "(II)I"⟩
def RL : String := "SwappedTablesLaw"
abbrev cL_law : ByteArray := code
def yL_law : MethodName := ⟨RL, "law", "([I)Z"⟩
abbrev vwCl : List vw_C := [(RX0, TX0, 3), (RX1, TX1, 1), (RX2, TX2, 3), (RX3, TX3, 3), (RX4, TX4, 5), (RX5, TX5, 2), (RX6, TX6, 9), (RX7, TX7, 3), (RX8, TX8, 5), (RX9, TX9, 10)]
