/-! the next cell, the contents, the steps owed: on both sides -/
theorem rel_nF {S : az_S} {f : Nat → Int32} {mk : Nat} (h : Rel S f) (ho : OKS S) (hm' : f 92 = nI mk) (hk : mk ≤ 1) (h1 : IJ (cO S)) (h2 : IJ (S 6)) : ∀ n, n ≤ 24 → nF f mk n = cw S n
  | 0, _ => rfl
  | n + 1, hn => by
    have ih := rel_nF h ho hm' hk h1 h2 n (by omega)
    have e1 : isF f mk (nI n) = frB S (nI n) := rel_isF h ho hm' hk h1 h2 (nI_ne5 (by omega))
    have e2 : ix 24 0 (S 2) (nI n) = f (48 + n) := by rw [ix_in (by omega) (by decide), h.c2 n (by omega)]
    unfold nF cw
    rw [e1, ih]
    by_cases q : cw S n = -5
    · rw [if_pos q, if_pos q]
    · have hc := nF_c (f := f) (mk := mk) (n := n) (by omega) (by rw [ih]; exact q)
      rw [ih] at hc
      have e3 : ix 24 0 (S 2) (cw S n) = f (48 + (cw S n).toNatClampNeg) := by
        rw [h.c2 _ (by omega)]
        conv => lhs; rw [hc.1]
        exact ix_in (by omega) (by decide)
      rw [if_neg q, if_neg q, e2, e3]
theorem rel_cR {S : az_S} {f : Nat → Int32} (h : Rel S f) : cR f = cnt (fun i => decide (¬ dk (S 5 i) < 0)) 8 := cnt_cong (fun i hi => by rw [h.dsk i hi])
