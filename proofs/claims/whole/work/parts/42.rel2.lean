/-! a state of the class, and a row of the reference -/
/-- the reference's number for what the desk tells -/
def dk (x : Int32) : Int32 := if x = -1 then -5 else if x = -5 then -6 else x
def Rel (S : az_S) (f : Nat → Int32) : Prop :=
  (∀ i, i < 24 → f (0 + i) = S 0 i) ∧
  (∀ i, i < 24 → f (24 + i) = S 1 i) ∧
  (∀ i, i < 24 → f (48 + i) = S 2 i) ∧
  (f 72 = S 12 0) ∧
  (f 73 = S 12 1) ∧
  (f 82 = S 12 2) ∧
  (f 83 = S 12 3) ∧
  (∀ p, p < 8 → f (74 + p) = S 3 p) ∧
  (∀ p, p < 8 → f (84 + p) = S 4 p) ∧
  (f 92 = S 12 6) ∧
  (∀ p, p < 8 → f (93 + p) = dk (S 5 p)) ∧
  (f 101 = S 12 4) ∧
  (f 102 = S 12 5) ∧
  (∀ p, p < 8 → f (103 + p) = S 6 p) ∧
  (∀ r, r < 4 → f (111 + 10 * r) = S 7 r) ∧
  (∀ r, r < 4 → ¬ S 7 r = 0 → f (111 + 10 * r + 1) = S 12 (9 + 2 * r)) ∧
  (∀ r p, r < 4 → p < 8 → ¬ S 7 r = 0 → f (111 + 10 * r + 2 + p) = S (8 + r) p) ∧
  (f 151 = S 12 7) ∧
  (f 152 = S 12 8)
theorem Rel.c0 {S : az_S} {f : Nat → Int32} (h : Rel S f) : ∀ i, i < 24 → f (0 + i) = S 0 i := h.1
theorem Rel.c1 {S : az_S} {f : Nat → Int32} (h : Rel S f) : ∀ i, i < 24 → f (24 + i) = S 1 i := h.2.1
theorem Rel.c2 {S : az_S} {f : Nat → Int32} (h : Rel S f) : ∀ i, i < 24 → f (48 + i) = S 2 i := h.2.2.1
theorem Rel.n0 {S : az_S} {f : Nat → Int32} (h : Rel S f) : f 72 = S 12 0 := h.2.2.2.1
theorem Rel.t0 {S : az_S} {f : Nat → Int32} (h : Rel S f) : f 73 = S 12 1 := h.2.2.2.2.1
theorem Rel.n1 {S : az_S} {f : Nat → Int32} (h : Rel S f) : f 82 = S 12 2 := h.2.2.2.2.2.1
theorem Rel.t1 {S : az_S} {f : Nat → Int32} (h : Rel S f) : f 83 = S 12 3 := h.2.2.2.2.2.2.1
theorem Rel.a0 {S : az_S} {f : Nat → Int32} (h : Rel S f) : ∀ p, p < 8 → f (74 + p) = S 3 p := h.2.2.2.2.2.2.2.1
theorem Rel.a1 {S : az_S} {f : Nat → Int32} (h : Rel S f) : ∀ p, p < 8 → f (84 + p) = S 4 p := h.2.2.2.2.2.2.2.2.1
theorem Rel.mk {S : az_S} {f : Nat → Int32} (h : Rel S f) : f 92 = S 12 6 := h.2.2.2.2.2.2.2.2.2.1
theorem Rel.dsk {S : az_S} {f : Nat → Int32} (h : Rel S f) : ∀ p, p < 8 → f (93 + p) = dk (S 5 p) := h.2.2.2.2.2.2.2.2.2.2.1
theorem Rel.on {S : az_S} {f : Nat → Int32} (h : Rel S f) : f 101 = S 12 4 := h.2.2.2.2.2.2.2.2.2.2.2.1
theorem Rel.dn {S : az_S} {f : Nat → Int32} (h : Rel S f) : f 102 = S 12 5 := h.2.2.2.2.2.2.2.2.2.2.2.2.1
theorem Rel.wr {S : az_S} {f : Nat → Int32} (h : Rel S f) : ∀ p, p < 8 → f (103 + p) = S 6 p := h.2.2.2.2.2.2.2.2.2.2.2.2.2.1
theorem Rel.pr {S : az_S} {f : Nat → Int32} (h : Rel S f) : ∀ r, r < 4 → f (111 + 10 * r) = S 7 r := h.2.2.2.2.2.2.2.2.2.2.2.2.2.2.1
theorem Rel.rn {S : az_S} {f : Nat → Int32} (h : Rel S f) : ∀ r, r < 4 → ¬ S 7 r = 0 → f (111 + 10 * r + 1) = S 12 (9 + 2 * r) := h.2.2.2.2.2.2.2.2.2.2.2.2.2.2.2.1
theorem Rel.rc {S : az_S} {f : Nat → Int32} (h : Rel S f) : ∀ r p, r < 4 → p < 8 → ¬ S 7 r = 0 → f (111 + 10 * r + 2 + p) = S (8 + r) p := h.2.2.2.2.2.2.2.2.2.2.2.2.2.2.2.2.1
theorem Rel.cr {S : az_S} {f : Nat → Int32} (h : Rel S f) : f 151 = S 12 7 := h.2.2.2.2.2.2.2.2.2.2.2.2.2.2.2.2.2.1
theorem Rel.sw {S : az_S} {f : Nat → Int32} (h : Rel S f) : f 152 = S 12 8 := h.2.2.2.2.2.2.2.2.2.2.2.2.2.2.2.2.2.2
theorem Rel_SE {S S' : az_S} {f : Nat → Int32} (h : Rel S f) (e : SE S' S) : Rel S' f := by
  have e12 : ∀ i, i < 17 → S' 12 i = S 12 i := e 12 (by decide)
  have e7 : ∀ i, i < 4 → S' 7 i = S 7 i := e 7 (by decide)
  exact ⟨fun i hi => (h.c0 i hi).trans (e 0 (by decide) i hi).symm, fun i hi => (h.c1 i hi).trans (e 1 (by decide) i hi).symm, fun i hi => (h.c2 i hi).trans (e 2 (by decide) i hi).symm,
    h.n0.trans (e12 0 (by decide)).symm, h.t0.trans (e12 1 (by decide)).symm, h.n1.trans (e12 2 (by decide)).symm, h.t1.trans (e12 3 (by decide)).symm,
    fun p hp => (h.a0 p hp).trans (e 3 (by decide) p hp).symm, fun p hp => (h.a1 p hp).trans (e 4 (by decide) p hp).symm, h.mk.trans (e12 6 (by decide)).symm,
    fun p hp => by rw [h.dsk p hp, e 5 (by decide) p hp], h.on.trans (e12 4 (by decide)).symm, h.dn.trans (e12 5 (by decide)).symm, fun p hp => (h.wr p hp).trans (e 6 (by decide) p hp).symm,
    fun r hr => (h.pr r hr).trans (e7 r hr).symm, fun r hr z => (h.rn r hr (by rw [← e7 r hr]; exact z)).trans (e12 _ (by omega)).symm,
    fun r p hr hp z => (h.rc r p hr hp (by rw [← e7 r hr]; exact z)).trans (e (8 + r) (by omega) p (by unfold dl; rw [if_neg (by omega), if_neg (by omega), if_neg (by omega)]; exact hp)).symm,
    h.cr.trans (e12 7 (by decide)).symm, h.sw.trans (e12 8 (by decide)).symm⟩
