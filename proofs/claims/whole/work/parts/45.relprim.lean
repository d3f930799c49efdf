/-! the relation under the same change on both sides; written by wip/whole/gen45.py -/
theorem upd_e {f : Nat → Int32} {a : Nat} {x : Int32} : upd f a x a = x := if_pos rfl
theorem upd_n {f : Nat → Int32} {a k : Nat} {x : Int32} (h : k ≠ a) : upd f a x k = f k := if_neg h
theorem fll_o {f : Nat → Int32} {s n k : Nat} {v : Int32} (h : k < s ∨ s + n ≤ k) : fll f s v n k = f k := if_neg (by omega)
theorem fll_i {f : Nat → Int32} {s n k : Nat} {v : Int32} (h : s ≤ k ∧ k < s + n) : fll f s v n k = v := if_pos h
theorem flf_i {f : Nat → Int32} {n k : Nat} {v : Int32} (h : k < n) : flf f v n k = v := if_pos h
theorem cpf_i {f g : Nat → Int32} {n k : Nat} (h : k < n) : cpf f g n k = f k := if_pos h
theorem sN_n {S : az_S} {k j : Nat} {x : Int32} (h : j ≠ k) : sN S k x 12 j = S 12 j := (sN_12 j).trans (if_neg h)
theorem sN_e {S : az_S} {k : Nat} {x : Int32} : sN S k x 12 k = x := (sN_12 k).trans (if_pos rfl)
theorem sU_n {S : az_S} {c d : Nat} {g : Nat → Int32} (i : Nat) (h : d ≠ c) : S d i = va_up S c g d i := congrFun (sU_ne h).symm i
theorem sM_n {S : az_S} {k d : Nat} {x : Int32} (i : Nat) (h : d ≠ 12) : S d i = sN S k x d i := congrFun (sN_ne h).symm i
theorem R_n0 {S : az_S} {f : Nat → Int32} {x : Int32} (h : Rel S f) : Rel (sN S 0 x) (upd f 72 x) :=
  ⟨fun i hi => (upd_n (by omega)).trans ((h.c0 i hi).trans (sM_n (i) (by omega))),
   fun i hi => (upd_n (by omega)).trans ((h.c1 i hi).trans (sM_n (i) (by omega))),
   fun i hi => (upd_n (by omega)).trans ((h.c2 i hi).trans (sM_n (i) (by omega))),
   upd_e.trans sN_e.symm,
   (upd_n (by omega)).trans ((h.t0).trans ((sN_n (by decide)).symm)),
   (upd_n (by omega)).trans ((h.n1).trans ((sN_n (by decide)).symm)),
   (upd_n (by omega)).trans ((h.t1).trans ((sN_n (by decide)).symm)),
   fun p hp => (upd_n (by omega)).trans ((h.a0 p hp).trans (sM_n (p) (by omega))),
   fun p hp => (upd_n (by omega)).trans ((h.a1 p hp).trans (sM_n (p) (by omega))),
   (upd_n (by omega)).trans ((h.mk).trans ((sN_n (by decide)).symm)),
   fun p hp => (upd_n (by omega)).trans ((h.dsk p hp).trans (congrArg dk (sM_n (p) (by omega)))),
   (upd_n (by omega)).trans ((h.on).trans ((sN_n (by decide)).symm)),
   (upd_n (by omega)).trans ((h.dn).trans ((sN_n (by decide)).symm)),
   fun p hp => (upd_n (by omega)).trans ((h.wr p hp).trans (sM_n (p) (by omega))),
   fun r hr => (upd_n (by omega)).trans ((h.pr r hr).trans (sM_n (r) (by omega))),
   fun r hr z => (upd_n (by omega)).trans ((h.rn r hr (fun y => z ((sM_n (r) (by omega)).symm.trans y))).trans ((sN_n (by omega)).symm)),
   fun r p hr hp z => (upd_n (by omega)).trans ((h.rc r p hr hp (fun y => z ((sM_n (r) (by omega)).symm.trans y))).trans (sM_n (p) (by omega))),
   (upd_n (by omega)).trans ((h.cr).trans ((sN_n (by decide)).symm)),
   (upd_n (by omega)).trans ((h.sw).trans ((sN_n (by decide)).symm))⟩
theorem R_n1 {S : az_S} {f : Nat → Int32} {x : Int32} (h : Rel S f) : Rel (sN S 1 x) (upd f 73 x) :=
  ⟨fun i hi => (upd_n (by omega)).trans ((h.c0 i hi).trans (sM_n (i) (by omega))),
   fun i hi => (upd_n (by omega)).trans ((h.c1 i hi).trans (sM_n (i) (by omega))),
   fun i hi => (upd_n (by omega)).trans ((h.c2 i hi).trans (sM_n (i) (by omega))),
   (upd_n (by omega)).trans ((h.n0).trans ((sN_n (by decide)).symm)),
   upd_e.trans sN_e.symm,
   (upd_n (by omega)).trans ((h.n1).trans ((sN_n (by decide)).symm)),
   (upd_n (by omega)).trans ((h.t1).trans ((sN_n (by decide)).symm)),
   fun p hp => (upd_n (by omega)).trans ((h.a0 p hp).trans (sM_n (p) (by omega))),
   fun p hp => (upd_n (by omega)).trans ((h.a1 p hp).trans (sM_n (p) (by omega))),
   (upd_n (by omega)).trans ((h.mk).trans ((sN_n (by decide)).symm)),
   fun p hp => (upd_n (by omega)).trans ((h.dsk p hp).trans (congrArg dk (sM_n (p) (by omega)))),
   (upd_n (by omega)).trans ((h.on).trans ((sN_n (by decide)).symm)),
   (upd_n (by omega)).trans ((h.dn).trans ((sN_n (by decide)).symm)),
   fun p hp => (upd_n (by omega)).trans ((h.wr p hp).trans (sM_n (p) (by omega))),
   fun r hr => (upd_n (by omega)).trans ((h.pr r hr).trans (sM_n (r) (by omega))),
   fun r hr z => (upd_n (by omega)).trans ((h.rn r hr (fun y => z ((sM_n (r) (by omega)).symm.trans y))).trans ((sN_n (by omega)).symm)),
   fun r p hr hp z => (upd_n (by omega)).trans ((h.rc r p hr hp (fun y => z ((sM_n (r) (by omega)).symm.trans y))).trans (sM_n (p) (by omega))),
   (upd_n (by omega)).trans ((h.cr).trans ((sN_n (by decide)).symm)),
   (upd_n (by omega)).trans ((h.sw).trans ((sN_n (by decide)).symm))⟩
theorem R_n2 {S : az_S} {f : Nat → Int32} {x : Int32} (h : Rel S f) : Rel (sN S 2 x) (upd f 82 x) :=
  ⟨fun i hi => (upd_n (by omega)).trans ((h.c0 i hi).trans (sM_n (i) (by omega))),
   fun i hi => (upd_n (by omega)).trans ((h.c1 i hi).trans (sM_n (i) (by omega))),
   fun i hi => (upd_n (by omega)).trans ((h.c2 i hi).trans (sM_n (i) (by omega))),
   (upd_n (by omega)).trans ((h.n0).trans ((sN_n (by decide)).symm)),
   (upd_n (by omega)).trans ((h.t0).trans ((sN_n (by decide)).symm)),
   upd_e.trans sN_e.symm,
   (upd_n (by omega)).trans ((h.t1).trans ((sN_n (by decide)).symm)),
   fun p hp => (upd_n (by omega)).trans ((h.a0 p hp).trans (sM_n (p) (by omega))),
   fun p hp => (upd_n (by omega)).trans ((h.a1 p hp).trans (sM_n (p) (by omega))),
   (upd_n (by omega)).trans ((h.mk).trans ((sN_n (by decide)).symm)),
   fun p hp => (upd_n (by omega)).trans ((h.dsk p hp).trans (congrArg dk (sM_n (p) (by omega)))),
   (upd_n (by omega)).trans ((h.on).trans ((sN_n (by decide)).symm)),
   (upd_n (by omega)).trans ((h.dn).trans ((sN_n (by decide)).symm)),
   fun p hp => (upd_n (by omega)).trans ((h.wr p hp).trans (sM_n (p) (by omega))),
   fun r hr => (upd_n (by omega)).trans ((h.pr r hr).trans (sM_n (r) (by omega))),
   fun r hr z => (upd_n (by omega)).trans ((h.rn r hr (fun y => z ((sM_n (r) (by omega)).symm.trans y))).trans ((sN_n (by omega)).symm)),
   fun r p hr hp z => (upd_n (by omega)).trans ((h.rc r p hr hp (fun y => z ((sM_n (r) (by omega)).symm.trans y))).trans (sM_n (p) (by omega))),
   (upd_n (by omega)).trans ((h.cr).trans ((sN_n (by decide)).symm)),
   (upd_n (by omega)).trans ((h.sw).trans ((sN_n (by decide)).symm))⟩
theorem R_n3 {S : az_S} {f : Nat → Int32} {x : Int32} (h : Rel S f) : Rel (sN S 3 x) (upd f 83 x) :=
  ⟨fun i hi => (upd_n (by omega)).trans ((h.c0 i hi).trans (sM_n (i) (by omega))),
   fun i hi => (upd_n (by omega)).trans ((h.c1 i hi).trans (sM_n (i) (by omega))),
   fun i hi => (upd_n (by omega)).trans ((h.c2 i hi).trans (sM_n (i) (by omega))),
   (upd_n (by omega)).trans ((h.n0).trans ((sN_n (by decide)).symm)),
   (upd_n (by omega)).trans ((h.t0).trans ((sN_n (by decide)).symm)),
   (upd_n (by omega)).trans ((h.n1).trans ((sN_n (by decide)).symm)),
   upd_e.trans sN_e.symm,
   fun p hp => (upd_n (by omega)).trans ((h.a0 p hp).trans (sM_n (p) (by omega))),
   fun p hp => (upd_n (by omega)).trans ((h.a1 p hp).trans (sM_n (p) (by omega))),
   (upd_n (by omega)).trans ((h.mk).trans ((sN_n (by decide)).symm)),
   fun p hp => (upd_n (by omega)).trans ((h.dsk p hp).trans (congrArg dk (sM_n (p) (by omega)))),
   (upd_n (by omega)).trans ((h.on).trans ((sN_n (by decide)).symm)),
   (upd_n (by omega)).trans ((h.dn).trans ((sN_n (by decide)).symm)),
   fun p hp => (upd_n (by omega)).trans ((h.wr p hp).trans (sM_n (p) (by omega))),
   fun r hr => (upd_n (by omega)).trans ((h.pr r hr).trans (sM_n (r) (by omega))),
   fun r hr z => (upd_n (by omega)).trans ((h.rn r hr (fun y => z ((sM_n (r) (by omega)).symm.trans y))).trans ((sN_n (by omega)).symm)),
   fun r p hr hp z => (upd_n (by omega)).trans ((h.rc r p hr hp (fun y => z ((sM_n (r) (by omega)).symm.trans y))).trans (sM_n (p) (by omega))),
   (upd_n (by omega)).trans ((h.cr).trans ((sN_n (by decide)).symm)),
   (upd_n (by omega)).trans ((h.sw).trans ((sN_n (by decide)).symm))⟩
theorem R_n4 {S : az_S} {f : Nat → Int32} {x : Int32} (h : Rel S f) : Rel (sN S 4 x) (upd f 101 x) :=
  ⟨fun i hi => (upd_n (by omega)).trans ((h.c0 i hi).trans (sM_n (i) (by omega))),
   fun i hi => (upd_n (by omega)).trans ((h.c1 i hi).trans (sM_n (i) (by omega))),
   fun i hi => (upd_n (by omega)).trans ((h.c2 i hi).trans (sM_n (i) (by omega))),
   (upd_n (by omega)).trans ((h.n0).trans ((sN_n (by decide)).symm)),
   (upd_n (by omega)).trans ((h.t0).trans ((sN_n (by decide)).symm)),
   (upd_n (by omega)).trans ((h.n1).trans ((sN_n (by decide)).symm)),
   (upd_n (by omega)).trans ((h.t1).trans ((sN_n (by decide)).symm)),
   fun p hp => (upd_n (by omega)).trans ((h.a0 p hp).trans (sM_n (p) (by omega))),
   fun p hp => (upd_n (by omega)).trans ((h.a1 p hp).trans (sM_n (p) (by omega))),
   (upd_n (by omega)).trans ((h.mk).trans ((sN_n (by decide)).symm)),
   fun p hp => (upd_n (by omega)).trans ((h.dsk p hp).trans (congrArg dk (sM_n (p) (by omega)))),
   upd_e.trans sN_e.symm,
   (upd_n (by omega)).trans ((h.dn).trans ((sN_n (by decide)).symm)),
   fun p hp => (upd_n (by omega)).trans ((h.wr p hp).trans (sM_n (p) (by omega))),
   fun r hr => (upd_n (by omega)).trans ((h.pr r hr).trans (sM_n (r) (by omega))),
   fun r hr z => (upd_n (by omega)).trans ((h.rn r hr (fun y => z ((sM_n (r) (by omega)).symm.trans y))).trans ((sN_n (by omega)).symm)),
   fun r p hr hp z => (upd_n (by omega)).trans ((h.rc r p hr hp (fun y => z ((sM_n (r) (by omega)).symm.trans y))).trans (sM_n (p) (by omega))),
   (upd_n (by omega)).trans ((h.cr).trans ((sN_n (by decide)).symm)),
   (upd_n (by omega)).trans ((h.sw).trans ((sN_n (by decide)).symm))⟩
theorem R_n5 {S : az_S} {f : Nat → Int32} {x : Int32} (h : Rel S f) : Rel (sN S 5 x) (upd f 102 x) :=
  ⟨fun i hi => (upd_n (by omega)).trans ((h.c0 i hi).trans (sM_n (i) (by omega))),
   fun i hi => (upd_n (by omega)).trans ((h.c1 i hi).trans (sM_n (i) (by omega))),
   fun i hi => (upd_n (by omega)).trans ((h.c2 i hi).trans (sM_n (i) (by omega))),
   (upd_n (by omega)).trans ((h.n0).trans ((sN_n (by decide)).symm)),
   (upd_n (by omega)).trans ((h.t0).trans ((sN_n (by decide)).symm)),
   (upd_n (by omega)).trans ((h.n1).trans ((sN_n (by decide)).symm)),
   (upd_n (by omega)).trans ((h.t1).trans ((sN_n (by decide)).symm)),
   fun p hp => (upd_n (by omega)).trans ((h.a0 p hp).trans (sM_n (p) (by omega))),
   fun p hp => (upd_n (by omega)).trans ((h.a1 p hp).trans (sM_n (p) (by omega))),
   (upd_n (by omega)).trans ((h.mk).trans ((sN_n (by decide)).symm)),
   fun p hp => (upd_n (by omega)).trans ((h.dsk p hp).trans (congrArg dk (sM_n (p) (by omega)))),
   (upd_n (by omega)).trans ((h.on).trans ((sN_n (by decide)).symm)),
   upd_e.trans sN_e.symm,
   fun p hp => (upd_n (by omega)).trans ((h.wr p hp).trans (sM_n (p) (by omega))),
   fun r hr => (upd_n (by omega)).trans ((h.pr r hr).trans (sM_n (r) (by omega))),
   fun r hr z => (upd_n (by omega)).trans ((h.rn r hr (fun y => z ((sM_n (r) (by omega)).symm.trans y))).trans ((sN_n (by omega)).symm)),
   fun r p hr hp z => (upd_n (by omega)).trans ((h.rc r p hr hp (fun y => z ((sM_n (r) (by omega)).symm.trans y))).trans (sM_n (p) (by omega))),
   (upd_n (by omega)).trans ((h.cr).trans ((sN_n (by decide)).symm)),
   (upd_n (by omega)).trans ((h.sw).trans ((sN_n (by decide)).symm))⟩
theorem R_n6 {S : az_S} {f : Nat → Int32} {x : Int32} (h : Rel S f) : Rel (sN S 6 x) (upd f 92 x) :=
  ⟨fun i hi => (upd_n (by omega)).trans ((h.c0 i hi).trans (sM_n (i) (by omega))),
   fun i hi => (upd_n (by omega)).trans ((h.c1 i hi).trans (sM_n (i) (by omega))),
   fun i hi => (upd_n (by omega)).trans ((h.c2 i hi).trans (sM_n (i) (by omega))),
   (upd_n (by omega)).trans ((h.n0).trans ((sN_n (by decide)).symm)),
   (upd_n (by omega)).trans ((h.t0).trans ((sN_n (by decide)).symm)),
   (upd_n (by omega)).trans ((h.n1).trans ((sN_n (by decide)).symm)),
   (upd_n (by omega)).trans ((h.t1).trans ((sN_n (by decide)).symm)),
   fun p hp => (upd_n (by omega)).trans ((h.a0 p hp).trans (sM_n (p) (by omega))),
   fun p hp => (upd_n (by omega)).trans ((h.a1 p hp).trans (sM_n (p) (by omega))),
   upd_e.trans sN_e.symm,
   fun p hp => (upd_n (by omega)).trans ((h.dsk p hp).trans (congrArg dk (sM_n (p) (by omega)))),
   (upd_n (by omega)).trans ((h.on).trans ((sN_n (by decide)).symm)),
   (upd_n (by omega)).trans ((h.dn).trans ((sN_n (by decide)).symm)),
   fun p hp => (upd_n (by omega)).trans ((h.wr p hp).trans (sM_n (p) (by omega))),
   fun r hr => (upd_n (by omega)).trans ((h.pr r hr).trans (sM_n (r) (by omega))),
   fun r hr z => (upd_n (by omega)).trans ((h.rn r hr (fun y => z ((sM_n (r) (by omega)).symm.trans y))).trans ((sN_n (by omega)).symm)),
   fun r p hr hp z => (upd_n (by omega)).trans ((h.rc r p hr hp (fun y => z ((sM_n (r) (by omega)).symm.trans y))).trans (sM_n (p) (by omega))),
   (upd_n (by omega)).trans ((h.cr).trans ((sN_n (by decide)).symm)),
   (upd_n (by omega)).trans ((h.sw).trans ((sN_n (by decide)).symm))⟩
theorem R_n7 {S : az_S} {f : Nat → Int32} {x : Int32} (h : Rel S f) : Rel (sN S 7 x) (upd f 151 x) :=
  ⟨fun i hi => (upd_n (by omega)).trans ((h.c0 i hi).trans (sM_n (i) (by omega))),
   fun i hi => (upd_n (by omega)).trans ((h.c1 i hi).trans (sM_n (i) (by omega))),
   fun i hi => (upd_n (by omega)).trans ((h.c2 i hi).trans (sM_n (i) (by omega))),
   (upd_n (by omega)).trans ((h.n0).trans ((sN_n (by decide)).symm)),
   (upd_n (by omega)).trans ((h.t0).trans ((sN_n (by decide)).symm)),
   (upd_n (by omega)).trans ((h.n1).trans ((sN_n (by decide)).symm)),
   (upd_n (by omega)).trans ((h.t1).trans ((sN_n (by decide)).symm)),
   fun p hp => (upd_n (by omega)).trans ((h.a0 p hp).trans (sM_n (p) (by omega))),
   fun p hp => (upd_n (by omega)).trans ((h.a1 p hp).trans (sM_n (p) (by omega))),
   (upd_n (by omega)).trans ((h.mk).trans ((sN_n (by decide)).symm)),
   fun p hp => (upd_n (by omega)).trans ((h.dsk p hp).trans (congrArg dk (sM_n (p) (by omega)))),
   (upd_n (by omega)).trans ((h.on).trans ((sN_n (by decide)).symm)),
   (upd_n (by omega)).trans ((h.dn).trans ((sN_n (by decide)).symm)),
   fun p hp => (upd_n (by omega)).trans ((h.wr p hp).trans (sM_n (p) (by omega))),
   fun r hr => (upd_n (by omega)).trans ((h.pr r hr).trans (sM_n (r) (by omega))),
   fun r hr z => (upd_n (by omega)).trans ((h.rn r hr (fun y => z ((sM_n (r) (by omega)).symm.trans y))).trans ((sN_n (by omega)).symm)),
   fun r p hr hp z => (upd_n (by omega)).trans ((h.rc r p hr hp (fun y => z ((sM_n (r) (by omega)).symm.trans y))).trans (sM_n (p) (by omega))),
   upd_e.trans sN_e.symm,
   (upd_n (by omega)).trans ((h.sw).trans ((sN_n (by decide)).symm))⟩
theorem R_n8 {S : az_S} {f : Nat → Int32} {x : Int32} (h : Rel S f) : Rel (sN S 8 x) (upd f 152 x) :=
  ⟨fun i hi => (upd_n (by omega)).trans ((h.c0 i hi).trans (sM_n (i) (by omega))),
   fun i hi => (upd_n (by omega)).trans ((h.c1 i hi).trans (sM_n (i) (by omega))),
   fun i hi => (upd_n (by omega)).trans ((h.c2 i hi).trans (sM_n (i) (by omega))),
   (upd_n (by omega)).trans ((h.n0).trans ((sN_n (by decide)).symm)),
   (upd_n (by omega)).trans ((h.t0).trans ((sN_n (by decide)).symm)),
   (upd_n (by omega)).trans ((h.n1).trans ((sN_n (by decide)).symm)),
   (upd_n (by omega)).trans ((h.t1).trans ((sN_n (by decide)).symm)),
   fun p hp => (upd_n (by omega)).trans ((h.a0 p hp).trans (sM_n (p) (by omega))),
   fun p hp => (upd_n (by omega)).trans ((h.a1 p hp).trans (sM_n (p) (by omega))),
   (upd_n (by omega)).trans ((h.mk).trans ((sN_n (by decide)).symm)),
   fun p hp => (upd_n (by omega)).trans ((h.dsk p hp).trans (congrArg dk (sM_n (p) (by omega)))),
   (upd_n (by omega)).trans ((h.on).trans ((sN_n (by decide)).symm)),
   (upd_n (by omega)).trans ((h.dn).trans ((sN_n (by decide)).symm)),
   fun p hp => (upd_n (by omega)).trans ((h.wr p hp).trans (sM_n (p) (by omega))),
   fun r hr => (upd_n (by omega)).trans ((h.pr r hr).trans (sM_n (r) (by omega))),
   fun r hr z => (upd_n (by omega)).trans ((h.rn r hr (fun y => z ((sM_n (r) (by omega)).symm.trans y))).trans ((sN_n (by omega)).symm)),
   fun r p hr hp z => (upd_n (by omega)).trans ((h.rc r p hr hp (fun y => z ((sM_n (r) (by omega)).symm.trans y))).trans (sM_n (p) (by omega))),
   (upd_n (by omega)).trans ((h.cr).trans ((sN_n (by decide)).symm)),
   upd_e.trans sN_e.symm⟩
theorem R_u0 {S : az_S} {f : Nat → Int32} {j : Nat} {v : Int32} (h : Rel S f) (hj : j < 24) : Rel (va_up S 0 (upd (S 0) j v)) (upd f (0 + j) v) :=
  ⟨fun i hi => by
    by_cases q : i = j
    · subst q
      exact upd_e.trans (((congrFun (sU_eq (S := S)) _).trans upd_e).symm)
    · exact (upd_n (by omega)).trans ((h.c0 i hi).trans (((congrFun (sU_eq (S := S)) _).trans (upd_n q)).symm)),
   fun i hi => (upd_n (by omega)).trans ((h.c1 i hi).trans (sU_n (i) (by omega))),
   fun i hi => (upd_n (by omega)).trans ((h.c2 i hi).trans (sU_n (i) (by omega))),
   (upd_n (by omega)).trans ((h.n0).trans (sU_n (0) (by omega))),
   (upd_n (by omega)).trans ((h.t0).trans (sU_n (1) (by omega))),
   (upd_n (by omega)).trans ((h.n1).trans (sU_n (2) (by omega))),
   (upd_n (by omega)).trans ((h.t1).trans (sU_n (3) (by omega))),
   fun p hp => (upd_n (by omega)).trans ((h.a0 p hp).trans (sU_n (p) (by omega))),
   fun p hp => (upd_n (by omega)).trans ((h.a1 p hp).trans (sU_n (p) (by omega))),
   (upd_n (by omega)).trans ((h.mk).trans (sU_n (6) (by omega))),
   fun p hp => (upd_n (by omega)).trans ((h.dsk p hp).trans (congrArg dk (sU_n (p) (by omega)))),
   (upd_n (by omega)).trans ((h.on).trans (sU_n (4) (by omega))),
   (upd_n (by omega)).trans ((h.dn).trans (sU_n (5) (by omega))),
   fun p hp => (upd_n (by omega)).trans ((h.wr p hp).trans (sU_n (p) (by omega))),
   fun r hr => (upd_n (by omega)).trans ((h.pr r hr).trans (sU_n (r) (by omega))),
   fun r hr z => (upd_n (by omega)).trans ((h.rn r hr (fun y => z ((sU_n (r) (by omega)).symm.trans y))).trans (sU_n (9 + 2 * r) (by omega))),
   fun r p hr hp z => (upd_n (by omega)).trans ((h.rc r p hr hp (fun y => z ((sU_n (r) (by omega)).symm.trans y))).trans (sU_n (p) (by omega))),
   (upd_n (by omega)).trans ((h.cr).trans (sU_n (7) (by omega))),
   (upd_n (by omega)).trans ((h.sw).trans (sU_n (8) (by omega)))⟩
theorem R_u1 {S : az_S} {f : Nat → Int32} {j : Nat} {v : Int32} (h : Rel S f) (hj : j < 24) : Rel (va_up S 1 (upd (S 1) j v)) (upd f (24 + j) v) :=
  ⟨fun i hi => (upd_n (by omega)).trans ((h.c0 i hi).trans (sU_n (i) (by omega))),
   fun i hi => by
    by_cases q : i = j
    · subst q
      exact upd_e.trans (((congrFun (sU_eq (S := S)) _).trans upd_e).symm)
    · exact (upd_n (by omega)).trans ((h.c1 i hi).trans (((congrFun (sU_eq (S := S)) _).trans (upd_n q)).symm)),
   fun i hi => (upd_n (by omega)).trans ((h.c2 i hi).trans (sU_n (i) (by omega))),
   (upd_n (by omega)).trans ((h.n0).trans (sU_n (0) (by omega))),
   (upd_n (by omega)).trans ((h.t0).trans (sU_n (1) (by omega))),
   (upd_n (by omega)).trans ((h.n1).trans (sU_n (2) (by omega))),
   (upd_n (by omega)).trans ((h.t1).trans (sU_n (3) (by omega))),
   fun p hp => (upd_n (by omega)).trans ((h.a0 p hp).trans (sU_n (p) (by omega))),
   fun p hp => (upd_n (by omega)).trans ((h.a1 p hp).trans (sU_n (p) (by omega))),
   (upd_n (by omega)).trans ((h.mk).trans (sU_n (6) (by omega))),
   fun p hp => (upd_n (by omega)).trans ((h.dsk p hp).trans (congrArg dk (sU_n (p) (by omega)))),
   (upd_n (by omega)).trans ((h.on).trans (sU_n (4) (by omega))),
   (upd_n (by omega)).trans ((h.dn).trans (sU_n (5) (by omega))),
   fun p hp => (upd_n (by omega)).trans ((h.wr p hp).trans (sU_n (p) (by omega))),
   fun r hr => (upd_n (by omega)).trans ((h.pr r hr).trans (sU_n (r) (by omega))),
   fun r hr z => (upd_n (by omega)).trans ((h.rn r hr (fun y => z ((sU_n (r) (by omega)).symm.trans y))).trans (sU_n (9 + 2 * r) (by omega))),
   fun r p hr hp z => (upd_n (by omega)).trans ((h.rc r p hr hp (fun y => z ((sU_n (r) (by omega)).symm.trans y))).trans (sU_n (p) (by omega))),
   (upd_n (by omega)).trans ((h.cr).trans (sU_n (7) (by omega))),
   (upd_n (by omega)).trans ((h.sw).trans (sU_n (8) (by omega)))⟩
theorem R_u2 {S : az_S} {f : Nat → Int32} {j : Nat} {v : Int32} (h : Rel S f) (hj : j < 24) : Rel (va_up S 2 (upd (S 2) j v)) (upd f (48 + j) v) :=
  ⟨fun i hi => (upd_n (by omega)).trans ((h.c0 i hi).trans (sU_n (i) (by omega))),
   fun i hi => (upd_n (by omega)).trans ((h.c1 i hi).trans (sU_n (i) (by omega))),
   fun i hi => by
    by_cases q : i = j
    · subst q
      exact upd_e.trans (((congrFun (sU_eq (S := S)) _).trans upd_e).symm)
    · exact (upd_n (by omega)).trans ((h.c2 i hi).trans (((congrFun (sU_eq (S := S)) _).trans (upd_n q)).symm)),
   (upd_n (by omega)).trans ((h.n0).trans (sU_n (0) (by omega))),
   (upd_n (by omega)).trans ((h.t0).trans (sU_n (1) (by omega))),
   (upd_n (by omega)).trans ((h.n1).trans (sU_n (2) (by omega))),
   (upd_n (by omega)).trans ((h.t1).trans (sU_n (3) (by omega))),
   fun p hp => (upd_n (by omega)).trans ((h.a0 p hp).trans (sU_n (p) (by omega))),
   fun p hp => (upd_n (by omega)).trans ((h.a1 p hp).trans (sU_n (p) (by omega))),
   (upd_n (by omega)).trans ((h.mk).trans (sU_n (6) (by omega))),
   fun p hp => (upd_n (by omega)).trans ((h.dsk p hp).trans (congrArg dk (sU_n (p) (by omega)))),
   (upd_n (by omega)).trans ((h.on).trans (sU_n (4) (by omega))),
   (upd_n (by omega)).trans ((h.dn).trans (sU_n (5) (by omega))),
   fun p hp => (upd_n (by omega)).trans ((h.wr p hp).trans (sU_n (p) (by omega))),
   fun r hr => (upd_n (by omega)).trans ((h.pr r hr).trans (sU_n (r) (by omega))),
   fun r hr z => (upd_n (by omega)).trans ((h.rn r hr (fun y => z ((sU_n (r) (by omega)).symm.trans y))).trans (sU_n (9 + 2 * r) (by omega))),
   fun r p hr hp z => (upd_n (by omega)).trans ((h.rc r p hr hp (fun y => z ((sU_n (r) (by omega)).symm.trans y))).trans (sU_n (p) (by omega))),
   (upd_n (by omega)).trans ((h.cr).trans (sU_n (7) (by omega))),
   (upd_n (by omega)).trans ((h.sw).trans (sU_n (8) (by omega)))⟩
theorem R_u5 {S : az_S} {f : Nat → Int32} {j : Nat} {v : Int32} (h : Rel S f) (hj : j < 8) : Rel (va_up S 5 (upd (S 5) j v)) (upd f (93 + j) (dk v)) :=
  ⟨fun i hi => (upd_n (by omega)).trans ((h.c0 i hi).trans (sU_n (i) (by omega))),
   fun i hi => (upd_n (by omega)).trans ((h.c1 i hi).trans (sU_n (i) (by omega))),
   fun i hi => (upd_n (by omega)).trans ((h.c2 i hi).trans (sU_n (i) (by omega))),
   (upd_n (by omega)).trans ((h.n0).trans (sU_n (0) (by omega))),
   (upd_n (by omega)).trans ((h.t0).trans (sU_n (1) (by omega))),
   (upd_n (by omega)).trans ((h.n1).trans (sU_n (2) (by omega))),
   (upd_n (by omega)).trans ((h.t1).trans (sU_n (3) (by omega))),
   fun p hp => (upd_n (by omega)).trans ((h.a0 p hp).trans (sU_n (p) (by omega))),
   fun p hp => (upd_n (by omega)).trans ((h.a1 p hp).trans (sU_n (p) (by omega))),
   (upd_n (by omega)).trans ((h.mk).trans (sU_n (6) (by omega))),
   fun p hp => by
    by_cases q : p = j
    · subst q
      exact upd_e.trans (congrArg dk (((congrFun (sU_eq (S := S)) _).trans upd_e).symm))
    · exact (upd_n (by omega)).trans ((h.dsk p hp).trans (congrArg dk (((congrFun (sU_eq (S := S)) _).trans (upd_n q)).symm))),
   (upd_n (by omega)).trans ((h.on).trans (sU_n (4) (by omega))),
   (upd_n (by omega)).trans ((h.dn).trans (sU_n (5) (by omega))),
   fun p hp => (upd_n (by omega)).trans ((h.wr p hp).trans (sU_n (p) (by omega))),
   fun r hr => (upd_n (by omega)).trans ((h.pr r hr).trans (sU_n (r) (by omega))),
   fun r hr z => (upd_n (by omega)).trans ((h.rn r hr (fun y => z ((sU_n (r) (by omega)).symm.trans y))).trans (sU_n (9 + 2 * r) (by omega))),
   fun r p hr hp z => (upd_n (by omega)).trans ((h.rc r p hr hp (fun y => z ((sU_n (r) (by omega)).symm.trans y))).trans (sU_n (p) (by omega))),
   (upd_n (by omega)).trans ((h.cr).trans (sU_n (7) (by omega))),
   (upd_n (by omega)).trans ((h.sw).trans (sU_n (8) (by omega)))⟩
theorem R_u6 {S : az_S} {f : Nat → Int32} {j : Nat} {v : Int32} (h : Rel S f) (hj : j < 8) : Rel (va_up S 6 (upd (S 6) j v)) (upd f (103 + j) v) :=
  ⟨fun i hi => (upd_n (by omega)).trans ((h.c0 i hi).trans (sU_n (i) (by omega))),
   fun i hi => (upd_n (by omega)).trans ((h.c1 i hi).trans (sU_n (i) (by omega))),
   fun i hi => (upd_n (by omega)).trans ((h.c2 i hi).trans (sU_n (i) (by omega))),
   (upd_n (by omega)).trans ((h.n0).trans (sU_n (0) (by omega))),
   (upd_n (by omega)).trans ((h.t0).trans (sU_n (1) (by omega))),
   (upd_n (by omega)).trans ((h.n1).trans (sU_n (2) (by omega))),
   (upd_n (by omega)).trans ((h.t1).trans (sU_n (3) (by omega))),
   fun p hp => (upd_n (by omega)).trans ((h.a0 p hp).trans (sU_n (p) (by omega))),
   fun p hp => (upd_n (by omega)).trans ((h.a1 p hp).trans (sU_n (p) (by omega))),
   (upd_n (by omega)).trans ((h.mk).trans (sU_n (6) (by omega))),
   fun p hp => (upd_n (by omega)).trans ((h.dsk p hp).trans (congrArg dk (sU_n (p) (by omega)))),
   (upd_n (by omega)).trans ((h.on).trans (sU_n (4) (by omega))),
   (upd_n (by omega)).trans ((h.dn).trans (sU_n (5) (by omega))),
   fun p hp => by
    by_cases q : p = j
    · subst q
      exact upd_e.trans (((congrFun (sU_eq (S := S)) _).trans upd_e).symm)
    · exact (upd_n (by omega)).trans ((h.wr p hp).trans (((congrFun (sU_eq (S := S)) _).trans (upd_n q)).symm)),
   fun r hr => (upd_n (by omega)).trans ((h.pr r hr).trans (sU_n (r) (by omega))),
   fun r hr z => (upd_n (by omega)).trans ((h.rn r hr (fun y => z ((sU_n (r) (by omega)).symm.trans y))).trans (sU_n (9 + 2 * r) (by omega))),
   fun r p hr hp z => (upd_n (by omega)).trans ((h.rc r p hr hp (fun y => z ((sU_n (r) (by omega)).symm.trans y))).trans (sU_n (p) (by omega))),
   (upd_n (by omega)).trans ((h.cr).trans (sU_n (7) (by omega))),
   (upd_n (by omega)).trans ((h.sw).trans (sU_n (8) (by omega)))⟩
theorem R_desk {S : az_S} {f : Nat → Int32} (h : Rel S f) : Rel (dDesk S) (fll f 93 (-5) 8) :=
  ⟨fun i hi => (fll_o (by omega)).trans ((h.c0 i hi).trans (sU_n (i) (by omega))),
   fun i hi => (fll_o (by omega)).trans ((h.c1 i hi).trans (sU_n (i) (by omega))),
   fun i hi => (fll_o (by omega)).trans ((h.c2 i hi).trans (sU_n (i) (by omega))),
   (fll_o (by omega)).trans ((h.n0).trans (sU_n (0) (by omega))),
   (fll_o (by omega)).trans ((h.t0).trans (sU_n (1) (by omega))),
   (fll_o (by omega)).trans ((h.n1).trans (sU_n (2) (by omega))),
   (fll_o (by omega)).trans ((h.t1).trans (sU_n (3) (by omega))),
   fun p hp => (fll_o (by omega)).trans ((h.a0 p hp).trans (sU_n (p) (by omega))),
   fun p hp => (fll_o (by omega)).trans ((h.a1 p hp).trans (sU_n (p) (by omega))),
   (fll_o (by omega)).trans ((h.mk).trans (sU_n (6) (by omega))),
   fun p hp => (fll_i (by omega)).trans (show (-5 : Int32) = dk (dDesk S 5 p) from by rw [dDesk, sU_eq, flf_i hp]; rfl),
   (fll_o (by omega)).trans ((h.on).trans (sU_n (4) (by omega))),
   (fll_o (by omega)).trans ((h.dn).trans (sU_n (5) (by omega))),
   fun p hp => (fll_o (by omega)).trans ((h.wr p hp).trans (sU_n (p) (by omega))),
   fun r hr => (fll_o (by omega)).trans ((h.pr r hr).trans (sU_n (r) (by omega))),
   fun r hr z => (fll_o (by omega)).trans ((h.rn r hr (fun y => z ((sU_n (r) (by omega)).symm.trans y))).trans (sU_n (9 + 2 * r) (by omega))),
   fun r p hr hp z => (fll_o (by omega)).trans ((h.rc r p hr hp (fun y => z ((sU_n (r) (by omega)).symm.trans y))).trans (sU_n (p) (by omega))),
   (fll_o (by omega)).trans ((h.cr).trans (sU_n (7) (by omega))),
   (fll_o (by omega)).trans ((h.sw).trans (sU_n (8) (by omega)))⟩
theorem R_wrF {S : az_S} {f : Nat → Int32} (h : Rel S f) : Rel (va_up S 6 (flf (S 6) (-5) 8)) (fll f 103 (-5) 8) :=
  ⟨fun i hi => (fll_o (by omega)).trans ((h.c0 i hi).trans (sU_n (i) (by omega))),
   fun i hi => (fll_o (by omega)).trans ((h.c1 i hi).trans (sU_n (i) (by omega))),
   fun i hi => (fll_o (by omega)).trans ((h.c2 i hi).trans (sU_n (i) (by omega))),
   (fll_o (by omega)).trans ((h.n0).trans (sU_n (0) (by omega))),
   (fll_o (by omega)).trans ((h.t0).trans (sU_n (1) (by omega))),
   (fll_o (by omega)).trans ((h.n1).trans (sU_n (2) (by omega))),
   (fll_o (by omega)).trans ((h.t1).trans (sU_n (3) (by omega))),
   fun p hp => (fll_o (by omega)).trans ((h.a0 p hp).trans (sU_n (p) (by omega))),
   fun p hp => (fll_o (by omega)).trans ((h.a1 p hp).trans (sU_n (p) (by omega))),
   (fll_o (by omega)).trans ((h.mk).trans (sU_n (6) (by omega))),
   fun p hp => (fll_o (by omega)).trans ((h.dsk p hp).trans (congrArg dk (sU_n (p) (by omega)))),
   (fll_o (by omega)).trans ((h.on).trans (sU_n (4) (by omega))),
   (fll_o (by omega)).trans ((h.dn).trans (sU_n (5) (by omega))),
   fun p hp => (fll_i (by omega)).trans (by rw [sU_eq, flf_i hp]),
   fun r hr => (fll_o (by omega)).trans ((h.pr r hr).trans (sU_n (r) (by omega))),
   fun r hr z => (fll_o (by omega)).trans ((h.rn r hr (fun y => z ((sU_n (r) (by omega)).symm.trans y))).trans (sU_n (9 + 2 * r) (by omega))),
   fun r p hr hp z => (fll_o (by omega)).trans ((h.rc r p hr hp (fun y => z ((sU_n (r) (by omega)).symm.trans y))).trans (sU_n (p) (by omega))),
   (fll_o (by omega)).trans ((h.cr).trans (sU_n (7) (by omega))),
   (fll_o (by omega)).trans ((h.sw).trans (sU_n (8) (by omega)))⟩
theorem R_prF {S : az_S} {f : Nat → Int32} (h : Rel S f) : Rel (va_up S 7 (flf (S 7) 0 4)) (fll f 111 0 40) :=
  ⟨fun i hi => (fll_o (by omega)).trans ((h.c0 i hi).trans (sU_n (i) (by omega))),
   fun i hi => (fll_o (by omega)).trans ((h.c1 i hi).trans (sU_n (i) (by omega))),
   fun i hi => (fll_o (by omega)).trans ((h.c2 i hi).trans (sU_n (i) (by omega))),
   (fll_o (by omega)).trans ((h.n0).trans (sU_n (0) (by omega))),
   (fll_o (by omega)).trans ((h.t0).trans (sU_n (1) (by omega))),
   (fll_o (by omega)).trans ((h.n1).trans (sU_n (2) (by omega))),
   (fll_o (by omega)).trans ((h.t1).trans (sU_n (3) (by omega))),
   fun p hp => (fll_o (by omega)).trans ((h.a0 p hp).trans (sU_n (p) (by omega))),
   fun p hp => (fll_o (by omega)).trans ((h.a1 p hp).trans (sU_n (p) (by omega))),
   (fll_o (by omega)).trans ((h.mk).trans (sU_n (6) (by omega))),
   fun p hp => (fll_o (by omega)).trans ((h.dsk p hp).trans (congrArg dk (sU_n (p) (by omega)))),
   (fll_o (by omega)).trans ((h.on).trans (sU_n (4) (by omega))),
   (fll_o (by omega)).trans ((h.dn).trans (sU_n (5) (by omega))),
   fun p hp => (fll_o (by omega)).trans ((h.wr p hp).trans (sU_n (p) (by omega))),
   fun r hr => (fll_i (by omega)).trans (by rw [sU_eq, flf_i hr]),
   fun r hr z => absurd (show va_up S 7 (flf (S 7) 0 4) 7 r = 0 from by rw [sU_eq, flf_i hr]) z,
   fun r p hr hp z => absurd (show va_up S 7 (flf (S 7) 0 4) 7 r = 0 from by rw [sU_eq, flf_i hr]) z,
   (fll_o (by omega)).trans ((h.cr).trans (sU_n (7) (by omega))),
   (fll_o (by omega)).trans ((h.sw).trans (sU_n (8) (by omega)))⟩
theorem R_pr0 {S : az_S} {f : Nat → Int32} {j : Nat} (h : Rel S f) (hj : j < 4) : Rel (va_up S 7 (upd (S 7) j 0)) (fll f (111 + 10 * j) 0 10) :=
  ⟨fun i hi => (fll_o (by omega)).trans ((h.c0 i hi).trans (sU_n (i) (by omega))),
   fun i hi => (fll_o (by omega)).trans ((h.c1 i hi).trans (sU_n (i) (by omega))),
   fun i hi => (fll_o (by omega)).trans ((h.c2 i hi).trans (sU_n (i) (by omega))),
   (fll_o (by omega)).trans ((h.n0).trans (sU_n (0) (by omega))),
   (fll_o (by omega)).trans ((h.t0).trans (sU_n (1) (by omega))),
   (fll_o (by omega)).trans ((h.n1).trans (sU_n (2) (by omega))),
   (fll_o (by omega)).trans ((h.t1).trans (sU_n (3) (by omega))),
   fun p hp => (fll_o (by omega)).trans ((h.a0 p hp).trans (sU_n (p) (by omega))),
   fun p hp => (fll_o (by omega)).trans ((h.a1 p hp).trans (sU_n (p) (by omega))),
   (fll_o (by omega)).trans ((h.mk).trans (sU_n (6) (by omega))),
   fun p hp => (fll_o (by omega)).trans ((h.dsk p hp).trans (congrArg dk (sU_n (p) (by omega)))),
   (fll_o (by omega)).trans ((h.on).trans (sU_n (4) (by omega))),
   (fll_o (by omega)).trans ((h.dn).trans (sU_n (5) (by omega))),
   fun p hp => (fll_o (by omega)).trans ((h.wr p hp).trans (sU_n (p) (by omega))),
   fun r hr => by
    rw [sU_eq]
    by_cases q : r = j
    · rw [q, upd_e, fll_i (by omega)]
    · rw [upd_n q, fll_o (by omega)]
      exact h.pr r hr,
   fun r hr z => by
    by_cases q : r = j
    · exact absurd (show va_up S 7 (upd (S 7) j 0) 7 r = 0 from by rw [sU_eq, q, upd_e]) z
    · exact (fll_o (by omega)).trans ((h.rn r hr (fun y => z (by rw [sU_eq, upd_n q]; exact y))).trans (sU_n (9 + 2 * r) (by omega))),
   fun r p hr hp z => by
    by_cases q : r = j
    · exact absurd (show va_up S 7 (upd (S 7) j 0) 7 r = 0 from by rw [sU_eq, q, upd_e]) z
    · exact (fll_o (by omega)).trans ((h.rc r p hr hp (fun y => z (by rw [sU_eq, upd_n q]; exact y))).trans (sU_n (p) (by omega))),
   (fll_o (by omega)).trans ((h.cr).trans (sU_n (7) (by omega))),
   (fll_o (by omega)).trans ((h.sw).trans (sU_n (8) (by omega)))⟩
theorem R_end {S : az_S} {f : Nat → Int32} (h : Rel S f) : Rel (dEnd S) (fll (upd (upd f 101 0) 102 0) 103 (-5) 8) := R_wrF (R_n5 (R_n4 h))
theorem R_mark {S : az_S} {f : Nat → Int32} {x y : Int32} (h : Rel S f) : Rel (dEnd (dDesk (sN (sN S 6 x) 8 y))) (fll (upd (upd (fll (upd (upd f 92 x) 152 y) 93 (-5) 8) 101 0) 102 0) 103 (-5) 8) := R_end (R_desk (R_n8 (R_n6 h)))
theorem lyf_o {f g : Nat → Int32} {o1 o2 n k : Nat} (h : k < o2 ∨ o2 + n ≤ k) : lyf f o1 g o2 n k = g k := if_neg (by omega)
theorem lyf_i {f g : Nat → Int32} {o2 n p : Nat} (h : p < n) : lyf f 0 g o2 n (o2 + p) = f p := by
  unfold lyf
  rw [if_pos (by omega), show 0 + (o2 + p - o2) = p by omega]
theorem R_tb0 {S : az_S} {f : Nat → Int32} {g g2 : Nat → Int32} (h : Rel S f) : Rel (va_up S 3 (cpf g g2 8)) (lyf g 0 f 74 8) :=
  ⟨fun i hi => (lyf_o (by omega)).trans ((h.c0 i hi).trans (sU_n (i) (by omega))),
   fun i hi => (lyf_o (by omega)).trans ((h.c1 i hi).trans (sU_n (i) (by omega))),
   fun i hi => (lyf_o (by omega)).trans ((h.c2 i hi).trans (sU_n (i) (by omega))),
   (lyf_o (by omega)).trans ((h.n0).trans (sU_n (0) (by omega))),
   (lyf_o (by omega)).trans ((h.t0).trans (sU_n (1) (by omega))),
   (lyf_o (by omega)).trans ((h.n1).trans (sU_n (2) (by omega))),
   (lyf_o (by omega)).trans ((h.t1).trans (sU_n (3) (by omega))),
   fun p hp => (lyf_i hp).trans (by rw [sU_eq, cpf_i hp]),
   fun p hp => (lyf_o (by omega)).trans ((h.a1 p hp).trans (sU_n (p) (by omega))),
   (lyf_o (by omega)).trans ((h.mk).trans (sU_n (6) (by omega))),
   fun p hp => (lyf_o (by omega)).trans ((h.dsk p hp).trans (congrArg dk (sU_n (p) (by omega)))),
   (lyf_o (by omega)).trans ((h.on).trans (sU_n (4) (by omega))),
   (lyf_o (by omega)).trans ((h.dn).trans (sU_n (5) (by omega))),
   fun p hp => (lyf_o (by omega)).trans ((h.wr p hp).trans (sU_n (p) (by omega))),
   fun r hr => (lyf_o (by omega)).trans ((h.pr r hr).trans (sU_n (r) (by omega))),
   fun r hr z => (lyf_o (by omega)).trans ((h.rn r hr (fun y => z ((sU_n (r) (by omega)).symm.trans y))).trans (sU_n (9 + 2 * r) (by omega))),
   fun r p hr hp z => (lyf_o (by omega)).trans ((h.rc r p hr hp (fun y => z ((sU_n (r) (by omega)).symm.trans y))).trans (sU_n (p) (by omega))),
   (lyf_o (by omega)).trans ((h.cr).trans (sU_n (7) (by omega))),
   (lyf_o (by omega)).trans ((h.sw).trans (sU_n (8) (by omega)))⟩
theorem R_tb1 {S : az_S} {f : Nat → Int32} {g g2 : Nat → Int32} (h : Rel S f) : Rel (va_up S 4 (cpf g g2 8)) (lyf g 0 f 84 8) :=
  ⟨fun i hi => (lyf_o (by omega)).trans ((h.c0 i hi).trans (sU_n (i) (by omega))),
   fun i hi => (lyf_o (by omega)).trans ((h.c1 i hi).trans (sU_n (i) (by omega))),
   fun i hi => (lyf_o (by omega)).trans ((h.c2 i hi).trans (sU_n (i) (by omega))),
   (lyf_o (by omega)).trans ((h.n0).trans (sU_n (0) (by omega))),
   (lyf_o (by omega)).trans ((h.t0).trans (sU_n (1) (by omega))),
   (lyf_o (by omega)).trans ((h.n1).trans (sU_n (2) (by omega))),
   (lyf_o (by omega)).trans ((h.t1).trans (sU_n (3) (by omega))),
   fun p hp => (lyf_o (by omega)).trans ((h.a0 p hp).trans (sU_n (p) (by omega))),
   fun p hp => (lyf_i hp).trans (by rw [sU_eq, cpf_i hp]),
   (lyf_o (by omega)).trans ((h.mk).trans (sU_n (6) (by omega))),
   fun p hp => (lyf_o (by omega)).trans ((h.dsk p hp).trans (congrArg dk (sU_n (p) (by omega)))),
   (lyf_o (by omega)).trans ((h.on).trans (sU_n (4) (by omega))),
   (lyf_o (by omega)).trans ((h.dn).trans (sU_n (5) (by omega))),
   fun p hp => (lyf_o (by omega)).trans ((h.wr p hp).trans (sU_n (p) (by omega))),
   fun r hr => (lyf_o (by omega)).trans ((h.pr r hr).trans (sU_n (r) (by omega))),
   fun r hr z => (lyf_o (by omega)).trans ((h.rn r hr (fun y => z ((sU_n (r) (by omega)).symm.trans y))).trans (sU_n (9 + 2 * r) (by omega))),
   fun r p hr hp z => (lyf_o (by omega)).trans ((h.rc r p hr hp (fun y => z ((sU_n (r) (by omega)).symm.trans y))).trans (sU_n (p) (by omega))),
   (lyf_o (by omega)).trans ((h.cr).trans (sU_n (7) (by omega))),
   (lyf_o (by omega)).trans ((h.sw).trans (sU_n (8) (by omega)))⟩
theorem dAdm_c {S : az_S} {j d : Nat} (hd : d < 7) : dAdm S j d = S d := by
  unfold dAdm
  show va_up (sN (sN (va_up S 7 (upd (S 7) j 1)) (9 + 2 * j) _) (10 + 2 * j) _) (8 + j) _ d = S d
  rw [sU_ne (by omega), sN_ne (by omega), sN_ne (by omega), sU_ne (by omega)]
theorem dAdm_12 {S : az_S} {j k : Nat} (hj : j < 4) (hk : k < 9) : dAdm S j 12 k = S 12 k := by
  unfold dAdm
  show va_up (sN (sN (va_up S 7 (upd (S 7) j 1)) (9 + 2 * j) _) (10 + 2 * j) _) (8 + j) _ 12 k = S 12 k
  rw [sU_ne (show 12 ≠ 8 + j by omega), sN_n (by omega), sN_n (by omega), sU_ne (show 12 ≠ 7 by decide)]
theorem tb_7 {S : az_S} {g : Nat → Int32} {m : Int32} : tb (va_up S 7 g) m = tb S m := by
  unfold tb
  rw [sU_ne (show 3 ≠ 7 by decide), sU_ne (show 4 ≠ 7 by decide)]
theorem tN_7 {S : az_S} {g : Nat → Int32} {m : Int32} : tN (va_up S 7 g) m = tN S m := by
  unfold tN
  rw [sU_ne (show 12 ≠ 7 by decide)]
theorem dAdm_7 {S : az_S} {j : Nat} (hj : j < 4) : dAdm S j 7 = upd (S 7) j 1 := by
  unfold dAdm
  show va_up (sN (sN (va_up S 7 (upd (S 7) j 1)) (9 + 2 * j) _) (10 + 2 * j) _) (8 + j) _ 7 = _
  rw [sU_ne (by omega), sN_ne (by decide), sN_ne (by decide), sU_eq]
theorem dAdm_n {S : az_S} {j : Nat} (hj : j < 4) : dAdm S j 12 (9 + 2 * j) = tN S (S 12 6) := by
  unfold dAdm
  show va_up (sN (sN (va_up S 7 (upd (S 7) j 1)) (9 + 2 * j) _) (10 + 2 * j) _) (8 + j) _ 12 (9 + 2 * j) = _
  rw [sU_ne (show 12 ≠ 8 + j by omega), sN_n (by omega), sN_e, tN_7]
theorem dAdm_n' {S : az_S} {j r : Nat} (hj : j < 4) (h : r ≠ j) : dAdm S j 12 (9 + 2 * r) = S 12 (9 + 2 * r) := by
  unfold dAdm
  show va_up (sN (sN (va_up S 7 (upd (S 7) j 1)) (9 + 2 * j) _) (10 + 2 * j) _) (8 + j) _ 12 (9 + 2 * r) = _
  rw [sU_ne (show 12 ≠ 8 + j by omega), sN_n (by omega), sN_n (by omega), sU_ne (show 12 ≠ 7 by decide)]
theorem dAdm_g {S : az_S} {j p : Nat} (hp : p < 8) : dAdm S j (8 + j) p = cO S p := by
  unfold dAdm
  show va_up (sN (sN (va_up S 7 (upd (S 7) j 1)) (9 + 2 * j) _) (10 + 2 * j) _) (8 + j) (cpf (tb (va_up S 7 (upd (S 7) j 1)) (S 12 6)) _ 8) (8 + j) p = _
  rw [sU_eq, cpf_i hp, tb_7]
  rfl
theorem dAdm_g' {S : az_S} {j r : Nat} (hr : r < 4) (h : r ≠ j) : dAdm S j (8 + r) = S (8 + r) := by
  unfold dAdm
  show va_up (sN (sN (va_up S 7 (upd (S 7) j 1)) (9 + 2 * j) _) (10 + 2 * j) _) (8 + j) _ (8 + r) = _
  rw [sU_ne (by omega), sN_ne (by omega), sN_ne (by omega), sU_ne (by omega)]
theorem opF_n {f : Nat → Int32} {mk b k : Nat} (h : k < b ∨ b + 10 ≤ k) : opF f mk b 8 k = f k := by
  unfold opF
  rw [if_neg (by omega), upd_n (by omega), upd_n (by omega)]
theorem opF_b {f : Nat → Int32} {mk b : Nat} : opF f mk b 8 b = 1 := by
  unfold opF
  rw [if_neg (by omega), upd_n (by omega), upd_e]
theorem opF_1 {f : Nat → Int32} {mk b : Nat} : opF f mk b 8 (b + 1) = f (72 + 10 * mk + 0) := by
  unfold opF
  rw [if_neg (by omega), upd_e]
theorem opF_g {f : Nat → Int32} {mk b p : Nat} (hp : p < 8) : opF f mk b 8 (b + 2 + p) = f (72 + 10 * mk + (2 + p)) := by
  unfold opF
  rw [if_pos (by omega), show b + 2 + p - (b + 2) = p by omega]
theorem rel_num {S : az_S} {f : Nat → Int32} {mk : Nat} (h : Rel S f) (hm : f 92 = nI mk) (hk : mk ≤ 1) : f (72 + 10 * mk + 0) = tN S (S 12 6) := by
  have e : S 12 6 = nI mk := h.mk.symm.trans hm
  unfold tN
  have q : mk = 0 ∨ mk = 1 := by omega
  rcases q with q | q <;> subst q
  · rw [e, if_pos (show nI 0 = 0 from rfl)]; exact h.n0
  · rw [e, if_neg (show ¬ nI 1 = 0 by decide)]; exact h.n1
theorem R_adm {S : az_S} {f : Nat → Int32} {mk j : Nat} (h : Rel S f) (hm : f 92 = nI mk) (hk : mk ≤ 1) (hj : j < 4) : Rel (dAdm S j) (opF f mk (111 + 10 * j) 8) :=
  ⟨fun i hi => (opF_n (by omega)).trans ((h.c0 i hi).trans ((congrFun (dAdm_c (S := S) (j := j) (by decide)) (i)).symm)),
   fun i hi => (opF_n (by omega)).trans ((h.c1 i hi).trans ((congrFun (dAdm_c (S := S) (j := j) (by decide)) (i)).symm)),
   fun i hi => (opF_n (by omega)).trans ((h.c2 i hi).trans ((congrFun (dAdm_c (S := S) (j := j) (by decide)) (i)).symm)),
   (opF_n (by omega)).trans ((h.n0).trans ((dAdm_12 hj (by omega)).symm)),
   (opF_n (by omega)).trans ((h.t0).trans ((dAdm_12 hj (by omega)).symm)),
   (opF_n (by omega)).trans ((h.n1).trans ((dAdm_12 hj (by omega)).symm)),
   (opF_n (by omega)).trans ((h.t1).trans ((dAdm_12 hj (by omega)).symm)),
   fun p hp => (opF_n (by omega)).trans ((h.a0 p hp).trans ((congrFun (dAdm_c (S := S) (j := j) (by decide)) (p)).symm)),
   fun p hp => (opF_n (by omega)).trans ((h.a1 p hp).trans ((congrFun (dAdm_c (S := S) (j := j) (by decide)) (p)).symm)),
   (opF_n (by omega)).trans ((h.mk).trans ((dAdm_12 hj (by omega)).symm)),
   fun p hp => (opF_n (by omega)).trans ((h.dsk p hp).trans (congrArg dk ((congrFun (dAdm_c (S := S) (j := j) (by decide)) (p)).symm))),
   (opF_n (by omega)).trans ((h.on).trans ((dAdm_12 hj (by omega)).symm)),
   (opF_n (by omega)).trans ((h.dn).trans ((dAdm_12 hj (by omega)).symm)),
   fun p hp => (opF_n (by omega)).trans ((h.wr p hp).trans ((congrFun (dAdm_c (S := S) (j := j) (by decide)) (p)).symm)),
   fun r hr => by
    rw [dAdm_7 hj]
    by_cases q : r = j
    · rw [q, upd_e, opF_b]
    · rw [upd_n q, opF_n (by omega)]
      exact h.pr r hr,
   fun r hr z => by
    by_cases q : r = j
    · rw [q, opF_1, dAdm_n hj]
      exact rel_num h hm hk
    · rw [dAdm_7 hj, upd_n q] at z
      rw [opF_n (by omega), dAdm_n' hj q]
      exact h.rn r hr z,
   fun r p hr hp z => by
    by_cases q : r = j
    · rw [q, opF_g hp, dAdm_g hp]
      exact rel_old h hm hk hp
    · rw [dAdm_7 hj, upd_n q] at z
      rw [opF_n (by omega), dAdm_g' hr q]
      exact h.rc r p hr hp z,
   (opF_n (by omega)).trans ((h.cr).trans ((dAdm_12 hj (by omega)).symm)),
   (opF_n (by omega)).trans ((h.sw).trans ((dAdm_12 hj (by omega)).symm))⟩
