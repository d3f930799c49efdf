/-! the first answers that agree -/
theorem rel_old {S : az_S} {f : Nat → Int32} {mk p : Nat} (h : Rel S f) (hm : f 92 = nI mk) (hk : mk ≤ 1) (hp : p < 8) : f (72 + 10 * mk + (2 + p)) = cO S p := by
  have e : S 12 6 = nI mk := h.mk.symm.trans hm
  unfold cO tb
  by_cases q : mk = 0
  · subst q
    rw [e, if_pos (show nI 0 = 0 from rfl), ← h.a0 p hp]
    exact congrArg f (by omega)
  · have q1 : mk = 1 := by omega
    subst q1
    rw [e, if_neg (show ¬ nI 1 = 0 by decide), ← h.a1 p hp]
    exact congrArg f (by omega)
/-- one page at most for a cell, among the pages of a generation -/
def IJ (g : Nat → Int32) : Prop := ∀ i j, i < 8 → j < 8 → ¬ g i = -5 → g i = g j → i = j
theorem rel_pOl {S : az_S} {f : Nat → Int32} {mk : Nat} {c : Int32} (h : Rel S f) (hm : f 92 = nI mk) (hk : mk ≤ 1) (hi : IJ (cO S)) (hc : ¬ c = -5) : pOl f mk c = fc (cO S) c := by
  have e : ∀ i, i < 8 → (fun p => decide (f (72 + 10 * mk + (2 + p)) = c)) i = (fun i => decide (cO S i = c)) i := fun i hi2 => by
    show decide (f (72 + 10 * mk + (2 + i)) = c) = decide (cO S i = c)
    rw [rel_old h hm hk hi2]
  unfold pOl fc
  rw [← fi_cong e]
  refine la_fi (fun i j hi2 hj2 h1 h2 => ?_)
  have h1' := of_decide_eq_true ((e i hi2).symm.trans h1)
  have h2' := of_decide_eq_true ((e j hj2).symm.trans h2)
  exact hi i j hi2 hj2 (by rw [h1']; exact hc) (h1'.trans h2'.symm)
theorem rel_pWr {S : az_S} {f : Nat → Int32} {c : Int32} (h : Rel S f) (hi : IJ (S 6)) (hc : ¬ c = -5) : pWr f c = fc (S 6) c := by
  have e : ∀ i, i < 8 → (fun p => decide (f (103 + p) = c)) i = (fun i => decide (S 6 i = c)) i := fun i hi2 => by
    show decide (f (103 + i) = c) = decide (S 6 i = c)
    rw [h.wr i hi2]
  unfold pWr fc
  rw [← fi_cong e]
  refine la_fi (fun i j hi2 hj2 h1 h2 => ?_)
  have h1' := of_decide_eq_true ((e i hi2).symm.trans h1)
  have h2' := of_decide_eq_true ((e j hj2).symm.trans h2)
  exact hi i j hi2 hj2 (by rw [h1']; exact hc) (h1'.trans h2'.symm)
theorem rel_isR {S : az_S} {f : Nat → Int32} {r : Nat} (h : Rel S f) (ho : OKS S) (hr : r < 4) : isR f (nI r) = decide (¬ S 7 r = 0) := by
  unfold isR
  rw [pgn_of hr (by decide), nI_clamp (by omega), h.pr r hr, Bool.true_and]
  rcases ho.1.1 r hr with q | q <;> rw [q] <;> rfl
theorem rel_hI {S : az_S} {f : Nat → Int32} {r : Nat} {c : Int32} (h : Rel S f) (ho : OKS S) (hr : r < 4) : hI f (nI r) c = hmB S c r := by
  unfold hI
  by_cases q : S 7 r = 0
  · rw [hmB_1 q]
    refine an_n (fun i hi => ?_)
    rw [rel_isR h ho hr, decide_eq_false (p := ¬ S 7 r = 0) (fun z => z q)]
    rfl
  · rw [an_fi (by decide), hmB, decide_eq_true q, Bool.true_and]
    have e : ∀ i, i < 8 → (isR f (nI r) && decide (f (111 + 10 * (nI r).toNatClampNeg + 2 + i) = c)) = decide (S (8 + r) i = c) := fun i hi => by
      rw [rel_isR h ho hr, decide_eq_true q, Bool.true_and, nI_clamp (by omega), h.rc r i hr hi q]
    rw [fi_cong e]
    rfl
theorem rel_rOf {S : az_S} {f : Nat → Int32} {c : Int32} (h : Rel S f) (ho : OKS S) : rOf f c = hm S c := cnt_cong (fun _ hr => rel_hI h ho hr)
theorem rel_isF {S : az_S} {f : Nat → Int32} {mk : Nat} {c : Int32} (h : Rel S f) (ho : OKS S) (hm' : f 92 = nI mk) (hk : mk ≤ 1) (h1 : IJ (cO S)) (h2 : IJ (S 6)) (hc : ¬ c = -5) : isF f mk c = frB S c := by
  unfold isF frB
  rw [rel_pOl h hm' hk h1 hc, rel_rOf h ho, rel_pWr h h2 hc, Bool.and_assoc]
