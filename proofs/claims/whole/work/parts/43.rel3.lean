/-! the first answers that agree -/
theorem rel_old {S : az_S} {f : Nat → Int32} {mk p : Nat} (h : Rel S f) (hm : f 92 = nI mk) (hk : mk ≤ 1) (hp : p < 8) : f (72 + 10 * mk + (2 + p)) = cO S p := by
  have e : S 12 6 = nI mk := h.mk.symm.trans hm
  unfold cO tb
  by_cases q : mk = 0
  · subst q
    rw [e, if_pos (show nI 0 = 0 from rfl), ← h.a0 p hp]
    exact congrArg f (by omega)
  · have q1 : mk = 1 := by omega
    subst q1
    rw [e, if_neg (show ¬ nI 1 = 0 by decide), ← h.a1 p hp]
    exact congrArg f (by omega)
/-- one page at most for a cell, among the pages of a generation -/
def IJ (g : Nat → Int32) : Prop := ∀ i j, i < 8 → j < 8 → ¬ g i = -5 → g i = g j → i = j
theorem rel_pOl {S : az_S} {f : Nat → Int32} {mk : Nat} {c : Int32} (h : Rel S f) (hm : f 92 = nI mk) (hk : mk ≤ 1) (hi : IJ (cO S)) (hc : ¬ c = -5) : pOl f mk c = fc (cO S) c := by
  have e : ∀ i, i < 8 → (fun p => decide (f (72 + 10 * mk + (2 + p)) = c)) i = (fun i => decide (cO S i = c)) i := fun i hi2 => by
    show decide (f (72 + 10 * mk + (2 + i)) = c) = decide (cO S i = c)
    rw [rel_old h hm hk hi2]
  unfold pOl fc
  rw [← fi_cong e]
  refine la_fi (fun i j hi2 hj2 h1 h2 => ?_)
  have h1' := of_decide_eq_true ((e i hi2).symm.trans h1)
  have h2' := of_decide_eq_true ((e j hj2).symm.trans h2)
  exact hi i j hi2 hj2 (by rw [h1']; exact hc) (h1'.trans h2'.symm)
theorem rel_pWr {S : az_S} {f : Nat → Int32} {c : Int32} (h : Rel S f) (hi : IJ (S 6)) (hc : ¬ c = -5) : pWr f c = fc (S 6) c := by
  have e : ∀ i, i < 8 → (fun p => decide (f (103 + p) = c)) i = (fun i => decide (S 6 i = c)) i := fun i hi2 => by
    show decide (f (103 + i) = c) = decide (S 6 i = c)
    rw [h.wr i hi2]
  unfold pWr fc
  rw [← fi_cong e]
  refine la_fi (fun i j hi2 hj2 h1 h2 => ?_)
  have h1' := of_decide_eq_true ((e i hi2).symm.trans h1)
  have h2' := of_decide_eq_true ((e j hj2).symm.trans h2)
  exact hi i j hi2 hj2 (by rw [h1']; exact hc) (h1'.trans h2'.symm)
