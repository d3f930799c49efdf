/-! the counts on both sides -/
theorem or_bit {n m : Nat} (hn : n < 8) (h : m < 2 ^ n) : nI m ||| ((1 : Int32) <<< (nI n &&& 31)) = nI (m + 2 ^ n) := by
  have := (by decide +kernel : ∀ n : Fin 8, ∀ m : Fin 128, m.1 < 2 ^ n.1 → nI m.1 ||| ((1 : Int32) <<< (nI n.1 &&& 31)) = nI (m.1 + 2 ^ n.1))
  have h2 : 2 ^ n ≤ 2 ^ 7 := Nat.pow_le_pow_right (by decide) (by omega)
  exact this ⟨n, hn⟩ ⟨m, by omega⟩ h
theorem psf_r {f : Nat → Int32} : ∀ {n : Nat}, n ≤ 8 → ∃ m, m < 2 ^ n ∧ psf f n = nI m
  | 0, _ => ⟨0, by decide, rfl⟩
  | n + 1, hn => by
    obtain ⟨m, h1, h2⟩ := psf_r (f := f) (n := n) (by omega)
    have h3 : 2 ^ (n + 1) = 2 ^ n + 2 ^ n := by rw [Nat.pow_succ]; omega
    unfold psf
    rw [h2]
    split
    · exact ⟨m, by omega, rfl⟩
    · exact ⟨m + 2 ^ n, by omega, or_bit (by omega) h1⟩
theorem bc_on {m : Nat} (h : m < 256) : onR (nI m) 8 = bcI (nI m) := by
  have := (by decide +kernel : ∀ m : Fin 256, onR (nI m.1) 8 = bcI (nI m.1))
  exact this ⟨m, h⟩
theorem cnt_below {k : Nat} : ∀ {n : Nat}, cnt (fun i => decide (i < k)) n = if n ≤ k then n else k
  | 0 => by rw [if_pos (Nat.zero_le _)]; rfl
  | n + 1 => by
    unfold cnt
    rw [cnt_below (n := n)]
    by_cases q : n < k
    · rw [if_pos (by simpa using q), if_pos (by omega), if_pos (by omega)]
    · rw [if_neg (by simpa using q), if_neg (show ¬ n + 1 ≤ k by omega)]
      split <;> omega
theorem rel_kR {B mk : Nat} {S : az_S} {f : Nat → Int32} {c : Int32} (h : Rel S f) (hv : Inv B S) (hm' : f 92 = nI mk) (hk : mk ≤ 1) (hc : ¬ c = -5) : kR f mk c = roB S c := by
  unfold kR roB
  rw [rel_pOl h hm' hk hv.1.2.2.1 hc, rel_rOf h hv.1.1, rel_pWr h hv.2.2.1 hc]
  congr 1
  by_cases q : hm S c = 0
  · rw [decide_eq_false (Classical.not_not.mpr q), decide_eq_true ((nI_le0 (hm_lt S c)).mpr q)]; rfl
  · rw [decide_eq_true q, decide_eq_false (fun z => q ((nI_le0 (hm_lt S c)).mp z))]; rfl
theorem q_count {B mk n m : Nat} {S : az_S} {f : Nat → Int32} {q : Int32} (h : Rel S f) (hv : Inv B S) (hm : f 92 = nI mk) (hk : mk ≤ 1) : rCount f mk (nI n) (nI m) q = fCount S n m q := by
  have e6 : S 12 6 = nI mk := h.mk.symm.trans hm
  have k2 : onR (psf (fun i => f (72 + 10 * mk + 2 + i)) 8) 8 = bcI (psf (cO S) 8) := by
    have e : psf (fun i => f (72 + 10 * mk + 2 + i)) 8 = psf (cO S) 8 := psf_cong (fun i hi => by
      have := (rel_tab h (t := mk) (by omega)).2.2 i hi
      show f (72 + 10 * mk + 2 + i) = tb S (S 12 6) i
      rw [e6]
      exact this)
    rw [e]
    obtain ⟨x, h1, h2⟩ := psf_r (f := cO S) (n := 8) (Nat.le_refl _)
    rw [h2]
    exact bc_on (by omega)
  have k6 : cnt (ctP f mk 0) 24 = cnt (fun i => frB S (nI i)) 24 := cnt_cong (fun i hi => by
    rw [ct_0 (by decide)]
    exact rel_isF h hv.1.1 hm hk hv.1.2.2.1 hv.2.2.1 (nI_ne5 (by omega)))
  have k7 : cnt (ctP f mk 1) 24 = cnt (fun i => decide (¬ S 1 i = sealOf (S 0 i))) 24 := cnt_cong (fun i hi => by
    rw [ct_1 (by decide) (by decide)]
    exact rel_tR h hi)
  have k12 : cnt (ctP f mk 2) 24 = cnt (fun i => roB S (nI i)) 24 := cnt_cong (fun i hi => by
    rw [ct_2 (by decide) (by decide)]
    exact rel_kR h hv hm hk (nI_ne5 (by omega)))
  have k16 : nI (cnt (ocR f) (owR f).toNatClampNeg) = cOw S := by
    rw [rel_ow h hv.1.1]
    by_cases z : S 12 4 = 0
    · unfold cOw
      rw [sO_off z]
      rfl
    · obtain ⟨d, hd, hd2⟩ := hv.2.2.2.2.2.2.1
      have hc := cN_lt S
      rw [sO_on z hd hd2, cOw_on z hd hd2, nI_clamp (by omega)]
      have e : cnt (ocR f) (cN S + 2 - d) = cnt (fun i => decide (i < cN S - d)) (cN S + 2 - d) := cnt_cong (fun i hi => by
        unfold ocR
        rw [h.dn, hd, nI_add, rel_pq h]
        by_cases w : d + i < cN S
        · obtain ⟨j, hj, h6, -⟩ := pq_some w
          rw [h6, decide_eq_true (nI_ne5 (by omega)), decide_eq_true (by omega)]
        · rw [pq_none (by omega) (by omega), decide_eq_false (Classical.not_not.mpr rfl), decide_eq_false (by omega)])
      rw [e, cnt_below, if_neg (by omega)]
  have k10 : mxf (fun i => f (48 + i)) 24 = mxf (S 2) 24 := mxf_cong h.c2
  have k11 : smf (fun i => f (48 + i)) 24 = smf (S 2) 24 := smf_cong h.c2
  unfold rCount fCount
  rw [k2, k6, k7, k12, k16, k10, k11, rel_num h hm hk, h.mk, rel_td h hv, rel_ow h hv.1.1, h.dn, rel_rd h hv.1.1, h.cr, h.sw]
  rfl
