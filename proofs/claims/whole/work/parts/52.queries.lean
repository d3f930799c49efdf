/-! the queries on both sides -/
theorem rel_co {S : az_S} {f : Nat → Int32} {c : Int32} (h : Rel S f) (hc : c = -5 ∨ pgn 24 c = true) : coR f c = ix 24 (-5) (S 0) c := by
  unfold coR
  rcases hc with q | q
  · rw [if_pos q, q, ix_out (pgn_neg (by decide))]
  · obtain ⟨j, hj, rfl⟩ := pgn_nI q (by decide)
    rw [if_neg (nI_ne5 (by omega)), ix_in hj (by decide), nI_clamp (by omega), h.c0 j hj]
theorem rel_ho {B mk : Nat} {S : az_S} {f : Nat → Int32} (h : Rel S f) (hv : Inv B S) (hm : f 92 = nI mk) (hk : mk ≤ 1) : ∀ p, p < 8 → f (72 + 10 * mk + (2 + p)) = -5 ∨ pgn 24 (f (72 + 10 * mk + (2 + p))) = true := fun p hp => by
  rw [rel_old h hm hk hp]
  exact hv.1.2.1 p hp
theorem rel_hr {B : Nat} {S : az_S} {f : Nat → Int32} (h : Rel S f) (hv : Inv B S) : ∀ r p, r < 4 → p < 8 → f (111 + 10 * r) = 1 → f (111 + 10 * r + 2 + p) = -5 ∨ pgn 24 (f (111 + 10 * r + 2 + p)) = true := fun r p hr hp z => by
  have hz : ¬ S 7 r = 0 := fun y => by
    rw [h.pr r hr, y] at z
    exact absurd z (by decide)
  rw [h.rc r p hr hp hz]
  exact hv.1.2.2.2.2.1 r hr hz p hp
theorem q_read {B mk : Nat} {S : az_S} {f : Nat → Int32} {p : Int32} (h : Rel S f) (hv : Inv B S) (hm : f 92 = nI mk) (hk : mk ≤ 1) : (if pgn 8 p = true then coR f (f (72 + 10 * mk + (2 + p.toNatClampNeg))) else -1) = fRead S p := by
  unfold fRead
  cases hp : pgn 8 p
  · rfl
  · obtain ⟨j, hj, rfl⟩ := pgn_nI hp (by decide)
    rw [if_pos rfl, if_neg (by decide), nI_clamp (by omega), rel_co h (rel_ho h hv hm hk j hj), rel_old h hm hk hj]
    unfold cbo
    rw [ix_in hj (by decide)]
theorem q_readD {B mk : Nat} {S : az_S} {f : Nat → Int32} {p : Int32} (h : Rel S f) (hv : Inv B S) (hm : f 92 = nI mk) (hk : mk ≤ 1) : (if pgn 8 p = true then (if ¬ f (93 + p.toNatClampNeg) < 0 then f (93 + p.toNatClampNeg) else if f (93 + p.toNatClampNeg) = -6 then -5 else coR f (f (72 + 10 * mk + (2 + p.toNatClampNeg)))) else -1) = fReadD S p := by
  unfold fReadD
  cases hp : pgn 8 p
  · rfl
  · obtain ⟨j, hj, rfl⟩ := pgn_nI hp (by decide)
    rw [if_pos rfl, if_neg (show ¬ true = false by decide), nI_clamp (by omega), rel_co h (rel_ho h hv hm hk j hj), rel_old h hm hk hj, h.dsk j hj]
    unfold cbd cbo
    rw [ix_in hj (by decide), ix_in hj (by decide)]
    rcases hv.1.2.2.2.1 j hj with q | q | ⟨v, hv2, q⟩
    · rw [q, if_neg (by decide), if_neg (by decide), if_pos rfl]
    · rw [q, if_neg (by decide), if_pos (by decide), if_neg (by decide)]
    · rw [q, dk_nI (by omega), if_pos (nI_pos (by omega)), if_neg (nI_neg (by omega) (by decide))]
theorem q_readB {B : Nat} {S : az_S} {f : Nat → Int32} {r p : Int32} (h : Rel S f) (hv : Inv B S) : (if isR f r = true ∧ pgn 8 p = true then coR f (f (111 + 10 * r.toNatClampNeg + 2 + p.toNatClampNeg)) else -1) = fReadB S r p := by
  unfold fReadB
  rw [rel_hs h hv.1.1]
  cases hr : hsB S r
  · rw [if_neg (fun z => by cases z.1), if_pos rfl]
  · cases hp : pgn 8 p
    · rw [if_neg (fun z => by cases z.2), if_neg (by decide), if_pos rfl]
    · rw [if_pos ⟨rfl, rfl⟩, if_neg (show ¬ true = false by decide), if_neg (show ¬ true = false by decide), if_pos rfl]
      obtain ⟨i, hi, rfl⟩ := hsB_nI hr
      obtain ⟨j, hj, rfl⟩ := pgn_nI hp (by decide)
      have hz : ¬ S 7 i = 0 := by
        unfold hsB at hr
        rw [ix_in hi (by decide)] at hr
        exact of_decide_eq_true hr
      rw [nI_clamp (by omega), nI_clamp (by omega), h.rc i j hi hj hz, rel_co h (hv.1.2.2.2.2.1 i hi hz j hj), ix_in hj (by decide)]
theorem q_reader {B : Nat} {S : az_S} {f : Nat → Int32} {r : Int32} (h : Rel S f) (hv : Inv B S) : (if isR f r = true then f (111 + 10 * r.toNatClampNeg + 1) else -1) = fReader S r := by
  unfold fReader
  rw [rel_hs h hv.1.1]
  cases hr : hsB S r
  · rfl
  · rw [if_pos rfl, if_neg (by decide), if_pos rfl]
    obtain ⟨i, hi, rfl⟩ := hsB_nI hr
    have hz : ¬ S 7 i = 0 := by
      unfold hsB at hr
      rw [ix_in hi (by decide)] at hr
      exact of_decide_eq_true hr
    rw [nI_clamp (by omega), h.rn i hi hz]
theorem rel_tR {S : az_S} {f : Nat → Int32} {j : Nat} (h : Rel S f) (hj : j < 24) : tR f j = decide (¬ S 1 j = sealOf (S 0 j)) := by
  unfold tR
  rw [h.c1 j hj, h.c0 j hj]
theorem q_cell {B mk : Nat} {S : az_S} {f : Nat → Int32} {c q : Int32} (h : Rel S f) (hv : Inv B S) (hm : f 92 = nI mk) (hk : mk ≤ 1) : rCell f mk c q = fCell S c q := by
  unfold rCell fCell
  cases hc : pgn 24 c
  · rfl
  · rw [if_neg (show ¬ true = false by decide), if_neg (show ¬ true = false by decide)]
    obtain ⟨j, hj, rfl⟩ := pgn_nI hc (by decide)
    have hn5 : ¬ nI j = -5 := nI_ne5 (by omega)
    unfold tnB
    rw [hc, nI_clamp (by omega), h.c0 j hj, h.c1 j hj, h.c2 j hj, rel_tR h hj, rel_isF h hv.1.1 hm hk hv.1.2.2.1 hv.2.2.1 hn5, rel_pOl h hm hk hv.1.2.2.1 hn5, rel_rOf h hv.1.1, rel_pWr h hv.2.2.1 hn5, ix_in hj (by decide), ix_in hj (by decide), ix_in hj (by decide), Bool.true_and]
theorem rel_tab {S : az_S} {f : Nat → Int32} (h : Rel S f) {t : Nat} (ht : t < 2) : f (72 + 10 * t + 0) = tN S (nI t) ∧ f (72 + 10 * t + 1) = tT S (nI t) ∧ (∀ p, p < 8 → f (72 + 10 * t + 2 + p) = tb S (nI t) p) := by
  have q : t = 0 ∨ t = 1 := by omega
  rcases q with q | q <;> subst q
  · exact ⟨h.n0, h.t0, fun p hp => (h.a0 p hp)⟩
  · exact ⟨h.n1, h.t1, fun p hp => (h.a1 p hp)⟩
theorem psf_cong {f g : Nat → Int32} : ∀ {n : Nat}, (∀ i, i < n → f i = g i) → psf f n = psf g n
  | 0, _ => rfl
  | n + 1, h => by
    unfold psf
    rw [psf_cong (fun i hi => h i (by omega)), h n (by omega)]
theorem mxf_cong {f g : Nat → Int32} : ∀ {n : Nat}, (∀ i, i < n → f i = g i) → mxf f n = mxf g n
  | 0, _ => rfl
  | n + 1, h => by
    unfold mxf
    rw [mxf_cong (fun i hi => h i (by omega)), h n (by omega)]
theorem smf_cong {f g : Nat → Int32} : ∀ {n : Nat}, (∀ i, i < n → f i = g i) → smf f n = smf g n
  | 0, _ => rfl
  | n + 1, h => by
    unfold smf
    rw [smf_cong (fun i hi => h i (by omega)), h n (by omega)]
theorem pgn_2 {t : Int32} : pgn 2 t = decide (t = 0 ∨ t = 1) := by
  cases hp : pgn 2 t
  · refine (decide_eq_false (fun z => ?_)).symm
    rcases z with q | q <;> rw [q] at hp <;> exact absurd hp (by decide)
  · obtain ⟨j, hj, rfl⟩ := pgn_nI hp (by decide)
    have q : j = 0 ∨ j = 1 := by omega
    refine (decide_eq_true ?_).symm
    rcases q with q | q <;> subst q
    · exact Or.inl rfl
    · exact Or.inr rfl
theorem q_table {B : Nat} {S : az_S} {f : Nat → Int32} {t q : Int32} (h : Rel S f) (hv : Inv B S) : rTab f t q = fTab S t q := by
  unfold rTab fTab
  by_cases ht : t = 0 ∨ t = 1
  · have hp : pgn 2 t = true := by rw [pgn_2]; exact decide_eq_true ht
    rw [hp, if_neg (show ¬ true = false by decide), if_neg (show ¬ (¬ t = 0 ∧ ¬ t = 1) from fun z => ht.elim z.1 z.2)]
    obtain ⟨i, hi, rfl⟩ := pgn_nI hp (by decide)
    obtain ⟨e0, e1, e2⟩ := rel_tab h hi
    rw [nI_clamp (by omega)]
    by_cases hb : inB q 10 17 = true
    · rw [if_pos hb]
      obtain ⟨k1, k2, k3⟩ := inB_c hb (by decide)
      have k2' : (10 : Int) ≤ (q.toNatClampNeg : Int) := k2
      have k3' : (q.toNatClampNeg : Int) ≤ 17 := k3
      generalize hj : q.toNatClampNeg = j at *
      have n0 : ∀ z : Nat, z < 10 → ¬ q = nI z := fun z hz y => by
        rw [k1] at y
        have := (nI_eqI (by omega) (by omega)).mp y
        omega
      rw [if_neg (show ¬ q = 0 from n0 0 (by decide)), if_neg (show ¬ q = 1 from n0 1 (by decide)), if_neg (show ¬ q = 2 from n0 2 (by decide)), if_neg (show ¬ q = 3 from n0 3 (by decide)), k1]
      rw [if_neg (show ¬ nI j < 10 from fun z => by have := (nI_ltI (a := j) (b := 10) (by omega) (by decide)).mp z; omega), if_pos (show nI j < 18 from (nI_ltI (a := j) (b := 18) (by omega) (by decide)).mpr (by omega))]
      rw [ixs (x := nI j) (y := 10) (a := j) (b := 10) rfl rfl (by omega), ix_in (by omega) (by decide), show 72 + 10 * i + 2 + j - 10 = 72 + 10 * i + 2 + (j - 10) by omega]
      exact e2 _ (by omega)
    · rw [if_neg hb, e0, e1, psf_cong e2, h.mk]
      by_cases q0 : q = 0
      · rw [if_pos q0, if_pos q0]
      · rw [if_neg q0, if_neg q0]
        by_cases q1 : q = 1
        · rw [if_pos q1, if_pos q1]
        · rw [if_neg q1, if_neg q1]
          by_cases q2 : q = 2
          · rw [if_pos q2, if_pos q2]
            by_cases w : S 12 6 = nI i
            · rw [if_neg (Classical.not_not.mpr w), if_neg (Classical.not_not.mpr w.symm)]
            · rw [if_pos w, if_pos (fun y => w y.symm)]
          · rw [if_neg q2, if_neg q2]
            by_cases q3 : q = 3
            · rw [if_pos q3, if_pos q3]
            · rw [if_neg q3, if_neg q3]
              by_cases q4 : q < 10
              · rw [if_pos q4]
              · rw [if_neg q4, if_neg (fun z => hb ?_)]
                unfold inB
                rw [decide_eq_false q4, decide_eq_false (p := 17 < q) (fun y => ?_)]
                · rfl
                · rw [Int32.lt_iff_toInt_lt] at z y
                  have e18 : (18 : Int32).toInt = 18 := rfl
                  have e17 : (17 : Int32).toInt = 17 := rfl
                  omega
  · have hp : pgn 2 t = false := by rw [pgn_2]; exact decide_eq_false ht
    rw [hp, if_pos rfl, if_pos ⟨fun z => ht (Or.inl z), fun z => ht (Or.inr z)⟩]
theorem q_owed {B : Nat} {S : az_S} {f : Nat → Int32} {i q : Int32} (h : Rel S f) (hv : Inv B S) : owdR f i q = fOwed S i q := by
  unfold owdR fOwed
  rw [rel_ow h hv.1.1]
  by_cases h0 : i < 0
  · rw [if_pos h0, if_pos h0]
  · rw [if_neg h0, if_neg h0]
    have hin : inB q 0 1 = (!decide (q < 0) && decide (q ≤ 1)) := by
      unfold inB
      congr 1
      by_cases z : q ≤ 1
      · rw [decide_eq_true z, decide_eq_false (Int32.not_lt.mpr z)]; rfl
      · rw [decide_eq_false z, decide_eq_true (Int32.not_le.mp z)]; rfl
    by_cases h1 : q < 0
    · rw [if_pos h1, if_pos (by rw [hin, decide_eq_true h1]; rfl)]
    · rw [if_neg h1]
      by_cases h2 : q ≤ 1
      · rw [if_neg (Classical.not_not.mpr h2), if_neg (by rw [hin, decide_eq_false h1, decide_eq_true h2]; decide)]
        by_cases h3 : i < sO S
        · rw [if_neg (Classical.not_not.mpr h3), if_neg (Classical.not_not.mpr h3)]
          have h4 : ¬ S 12 4 = 0 := fun z => by
            rw [sO_off z] at h3
            exact h0 h3
          obtain ⟨d, hd, hd2⟩ := hv.2.2.2.2.2.2.1
          have hc := cN_lt S
          obtain ⟨p, hp, rfl⟩ := nI_of h0
          rw [sO_on h4 hd hd2] at h3
          have h5 : p < cN S + 2 - d := (nI_ltI hp (by omega)).mp h3
          have hko := kO_on h4 hd hd2 h5
          rw [rel_pq h, h.dn, hd, nI_add, rel_cN h]
          have hq : q = 0 ∨ q = 1 := by
            obtain ⟨v, hv1, rfl⟩ := nI_of2 (M := 1) (n := 1) rfl h1 h2
            have : v = 0 ∨ v = 1 := by omega
            rcases this with w | w <;> subst w
            · exact Or.inl rfl
            · exact Or.inr rfl
          rcases hq with rfl | rfl
          · rw [if_neg (by decide), if_neg (show ¬ ¬ (0 : Int32) = 0 by decide), hko]
            by_cases w : d + p < cN S
            · obtain ⟨j, hj, h6, -⟩ := pq_some w
              rw [h6, if_pos (nI_ne5 (by omega)), if_pos w]
            · rw [pq_none (by omega) (by omega), if_neg (by decide), if_neg w]
              by_cases w2 : d + p = cN S
              · rw [if_pos w2, if_pos (congrArg nI w2)]
              · rw [if_neg w2, if_neg (fun z => w2 ((nI_eqI (by omega) (by omega)).mp z))]
          · rw [if_pos rfl, if_pos (by decide)]
            unfold pO
            rw [hko, hd, nI_add]
            by_cases w : d + p < cN S
            · rw [if_pos w, if_pos rfl]
            · rw [if_neg w, pq_none (by omega) (by omega)]
              split
              · rfl
              · rfl
        · rw [if_pos h3, if_pos h3]
      · rw [if_pos h2, if_pos (by rw [hin, decide_eq_false h1, decide_eq_false h2]; rfl)]
