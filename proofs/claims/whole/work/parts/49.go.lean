/-! a step on both sides -/
theorem sealOf_k {v : Nat} (h : v < 1000) : sealOf (nI v) + 0 - (sealOf (nI v) + 0) / 101 * 101 = sealOf (nI v) := by
  have := (by decide +kernel : ∀ v : Fin 1000, sealOf (nI v.1) + 0 - (sealOf (nI v.1) + 0) / 101 * 101 = sealOf (nI v.1))
  exact this ⟨v, h⟩
theorem R_put {S : az_S} {f : Nat → Int32} {c : Nat} {x k s : Int32} (h : Rel S f) (hc : c < 24) (hs : (sealOf x + k) - (sealOf x + k) / 101 * 101 = s) : Rel (dPut S (nI c) x s) (wrR f c x k) := by
  have e : wrR f c x k = upd (upd (upd f (0 + c) x) (24 + c) s) (48 + c) (S 2 c + 1) := by
    unfold wrR
    show upd (upd (upd f (0 + c) x) (24 + c) _) (48 + c) (upd (upd f (0 + c) x) (24 + c) _ (48 + c) + 1) = _
    rw [hs, upd_n (show 48 + c ≠ 24 + c by omega), upd_n (show 48 + c ≠ 0 + c by omega), h.c2 c hc]
  rw [e, dPut_in hc]
  exact R_u2 (R_u1 (R_u0 h hc) hc) hc
theorem nv_nC {B mk p : Nat} {S : az_S} {f : Nat → Int32} (h : Rel S f) (hv : Inv B S) (hm : f 92 = nI mk) (hk : mk ≤ 1) (hp : p < 8) : nvR f mk p = nC S p := by
  unfold nvR nC
  rw [h.dsk p hp]
  rcases hv.1.2.2.2.1 p hp with q | q | ⟨v, hv2, q⟩
  · rw [q, if_pos (by decide), if_neg (by decide), if_pos rfl]
    exact rel_old h hm hk hp
  · rw [q, if_pos (by decide), if_pos (by decide), if_neg (by decide)]
    exact (hv.2.2.2.2.1 p hp (by rw [q]; decide)).symm
  · rw [q, dk_nI (by omega), if_neg (nI_pos (by omega)), if_neg (nI_neg (by omega) (by decide))]
    exact h.wr p hp
theorem R_tab {B mk : Nat} {S : az_S} {f : Nat → Int32} {tn : Int32} (h : Rel S f) (hv : Inv B S) (hm : f 92 = nI mk) (hk : mk ≤ 1) : Rel (nT S tn 8) (wtF f mk tn 8) := by
  have e6 : S 12 6 = nI mk := h.mk.symm.trans hm
  have hn := rel_num h hm hk
  have q : mk = 0 ∨ mk = 1 := by omega
  rcases q with q | q <;> subst q
  · have e : wtF f 0 tn 8 = lyf (nC S) 0 (upd (upd f 82 (tN S (S 12 6) + 1)) 83 tn) 84 8 := by
      funext k
      unfold wtF lyf
      rw [hn]
      by_cases q2 : 84 ≤ k ∧ k < 92
      · rw [if_pos (by omega), if_pos (by omega), nv_nC h hv hm hk (by omega), show 0 + (k - 84) = k - (72 + 10 * (1 - 0) + 2) by omega]
      · rw [if_neg (by omega), if_neg (by omega)]
    have e2 : nT S tn 8 = va_up (sN (sN S 2 (tN S (S 12 6) + 1)) 3 tn) 4 (cpf (nC S) (tb S (1 - S 12 6)) 8) := by
      unfold nT T0
      rw [if_neg (show ¬ 1 - S 12 6 = 0 by rw [e6]; decide), if_neg (show ¬ 1 - S 12 6 = 0 by rw [e6]; decide)]
    rw [e, e2]
    exact R_tb1 (R_n3 (R_n2 h))
  · have e : wtF f 1 tn 8 = lyf (nC S) 0 (upd (upd f 72 (tN S (S 12 6) + 1)) 73 tn) 74 8 := by
      funext k
      unfold wtF lyf
      rw [hn]
      by_cases q2 : 74 ≤ k ∧ k < 82
      · rw [if_pos (by omega), if_pos (by omega), nv_nC h hv hm hk (by omega), show 0 + (k - 74) = k - (72 + 10 * (1 - 1) + 2) by omega]
      · rw [if_neg (by omega), if_neg (by omega)]
    have e2 : nT S tn 8 = va_up (sN (sN S 0 (tN S (S 12 6) + 1)) 1 tn) 3 (cpf (nC S) (tb S (1 - S 12 6)) 8) := by
      unfold nT T0
      rw [if_pos (show 1 - S 12 6 = 0 by rw [e6]; decide), if_pos (show 1 - S 12 6 = 0 by rw [e6]; decide)]
    rw [e, e2]
    exact R_tb0 (R_n1 (R_n0 h))
def goR (f : Nat → Int32) (mk : Nat) : Nat → Int32 :=
  if ¬ pqR f (f 102) = -5 then
    let g := upd (wrR f (nF f mk 24).toNatClampNeg (f (93 + (pqR f (f 102)).toNatClampNeg)) 0) (103 + (pqR f (f 102)).toNatClampNeg) (nF f mk 24)
    upd g 102 (g 102 + 1)
  else if f 102 = nI (cR f) then upd (wtF f mk 0 8) 102 (wtF f mk 0 8 102 + 1)
  else fll (upd (upd (fll (upd (upd f 92 (1 - f 92)) 152 (upd f 92 (1 - f 92) 152 + 1)) 93 (-5) 8) 101 0) 102 0) 103 (-5) 8
theorem tGo_0 {T : az_S} {mk : Nat} : tGo T mk = va_up T 0 (goR (T 0) mk) := by
  unfold tGo goR
  split
  · rfl
  · split
    · rfl
    · unfold tG3 tEnd tDesk
      simp only [sU_sU, sU_eq]
def teR (f : Nat → Int32) (mk : Nat) : Nat → Int32 :=
  if ¬ pqR f (f 102) = -5 then (if nF f mk 24 = -5 then f else wrR f (nF f mk 24).toNatClampNeg (f (93 + (pqR f (f 102)).toNatClampNeg)) 1)
  else if f 102 = nI (cR f) then wtF f mk 1 8 else f
theorem tTe_0 {T : az_S} {mk : Nat} : tTe T mk = va_up T 0 (teR (T 0) mk) := by
  unfold tTe teR
  split
  · split
    · rw [sU_s]
    · rfl
  · split
    · rfl
    · rw [sU_s]
theorem DV_pos {x : Int32} (h : DV x) (hx : ¬ x < 0) : ∃ v : Nat, v < 1000 ∧ x = nI v := by
  rcases h with q | q | q
  · rw [q] at hx; exact absurd (by decide) hx
  · rw [q] at hx; exact absurd (by decide) hx
  · exact q
theorem R_go {B mk : Nat} {S : az_S} {f : Nat → Int32} (h : Rel S f) (hv : Inv B S) (hm : f 92 = nI mk) (hk : mk ≤ 1) (hg : cgB S = true) : Rel (dGo S) (goR f mk) ∧ Inv (B + 1) (dGo S) := by
  have h4 : ¬ S 12 4 = 0 := fun z => by rw [cgB_1 z] at hg; cases hg
  obtain ⟨d, hd, hd2⟩ := hv.2.2.2.2.2.2.1
  have hl := cN_lt S
  have hko := kO_0 h4 hd hd2
  have f102 : f 102 = nI d := h.dn.trans hd
  unfold dGo goR
  by_cases q : d < cN S
  · rw [if_pos q] at hko
    obtain ⟨p, hp, hpq, hp5⟩ := pq_some q
    obtain ⟨v, hv2, hv3⟩ := DV_pos (hv.1.2.2.2.1 p hp) hp5
    have hcw : ¬ cw S 24 = -5 := fun z => by rw [cgB_3 hko z] at hg; cases hg
    rcases cw_free (S := S) (n := 24) (Nat.le_refl _) with q2 | ⟨c, hc, hce, hcf⟩
    · exact absurd q2 hcw
    · have hwP : wP S = nI p := by unfold wP; rw [hd]; exact hpq
      have h93 : f (93 + p) = S 5 p := by rw [h.dsk p hp, hv3, dk_nI (by omega)]
      refine ⟨?_, ?_⟩
      · rw [if_pos hko, f102, rel_pq h, hpq, if_pos (nI_ne5 (by omega)), rel_nF' h hv hm hk, hce, nI_clamp (by omega), nI_clamp (by omega), h93]
        show Rel (dOwed S) (upd (upd (wrR f c (S 5 p) 0) (103 + p) (nI c)) 102 (upd (wrR f c (S 5 p) 0) (103 + p) (nI c) 102 + 1))
        have e1 : upd (wrR f c (S 5 p) 0) (103 + p) (nI c) 102 = nI d := by
          rw [upd_n (by omega)]
          unfold wrR
          show upd (upd (upd f (0 + c) _) (24 + c) _) (48 + c) _ 102 = _
          rw [upd_n (by omega), upd_n (by omega), upd_n (by omega), f102]
        have e2 : dOwed S = sN (va_up (dPut S (nI c) (S 5 p) (sealOf (S 5 p))) 6 (upd (dPut S (nI c) (S 5 p) (sealOf (S 5 p)) 6) p (nI c))) 5 (nI d + 1) := by
          unfold dOwed
          rw [hce, hwP, ix_in hp (by decide)]
          show sN (va_up (dPut S (nI c) (S 5 p) (sealOf (S 5 p))) 6 (ixu 8 (dPut S (nI c) (S 5 p) (sealOf (S 5 p)) 6) (nI p) (nI c))) 5 ((va_up (dPut S (nI c) (S 5 p) (sealOf (S 5 p))) 6 (ixu 8 (dPut S (nI c) (S 5 p) (sealOf (S 5 p)) 6) (nI p) (nI c))) 12 5 + 1) = _
          rw [ixu_in hp (by decide), sU_ne (show 12 ≠ 6 by decide)]
          rw [show dPut S (nI c) (S 5 p) (sealOf (S 5 p)) 12 = S 12 from by rw [dPut_in hc, sU_ne (by decide), sU_ne (by decide), sU_ne (by decide)], hd]
        rw [e1, e2]
        exact R_n5 (R_u6 (R_put h hc (by rw [hv3]; exact sealOf_k hv2)) hp)
      · rw [if_pos hko]
        exact Inv_owed hv h4 hd q hc hcf hp hwP hp5 hce
  · rw [if_neg q] at hko
    have hpq : pqR f (f 102) = -5 := by rw [f102, rel_pq h]; exact pq_none (by omega) (by omega)
    rw [if_neg (show ¬ ¬ pqR f (f 102) = -5 from fun z => z hpq)]
    by_cases q2 : d = cN S
    · rw [if_pos q2] at hko
      rw [if_neg (by rw [hko]; decide), if_pos hko, if_pos (by rw [f102, rel_cN h, q2])]
      refine ⟨?_, Inv_mono (Inv_table hv h4 (by rw [hd, q2])) (by omega)⟩
      have e1 : wtF f mk 0 8 102 = nT S 0 8 12 5 := by
        rw [wt_o (by omega) (by omega), nT_12 (by decide), h.dn]
      rw [e1]
      exact R_n5 (R_tab h hv hm hk)
    · rw [if_neg q2] at hko
      rw [if_neg (by rw [hko]; decide), if_neg (by rw [hko]; decide), if_neg (by rw [f102, rel_cN h]; exact fun z => q2 ((nI_eqI (by omega) (by omega)).mp z))]
      refine ⟨?_, Inv_mono (Inv_mark hv h4 (by rw [hd]; exact congrArg nI (by omega))) (by omega)⟩
      rw [upd_n (show 152 ≠ 92 by decide), h.sw, h.mk]
      exact R_mark h
theorem R_te {B mk : Nat} {S : az_S} {f : Nat → Int32} (h : Rel S f) (hv : Inv B S) (hm : f 92 = nI mk) (hk : mk ≤ 1) (h4 : ¬ S 12 4 = 0) : Rel (dTear S) (teR f mk) ∧ Cor (B + 1) (dTear S) := by
  obtain ⟨d, hd, hd2⟩ := hv.2.2.2.2.2.2.1
  have hl := cN_lt S
  have hko := kO_0 h4 hd hd2
  have f102 : f 102 = nI d := h.dn.trans hd
  unfold dTear teR
  rw [if_neg h4]
  by_cases q : d < cN S
  · rw [if_pos q] at hko
    obtain ⟨p, hp, hpq, hp5⟩ := pq_some q
    have hwP : wP S = nI p := by unfold wP; rw [hd]; exact hpq
    obtain ⟨v, hv2, hv3⟩ := DV_pos (hv.1.2.2.2.1 p hp) hp5
    have h93 : f (93 + p) = S 5 p := by rw [h.dsk p hp, hv3, dk_nI (by omega)]
    rw [if_pos hko, f102, rel_pq h, hpq, if_pos (nI_ne5 (by omega)), rel_nF' h hv hm hk]
    rcases cw_free (S := S) (n := 24) (Nat.le_refl _) with q2 | ⟨c, hc, hce, -⟩
    · rw [if_pos q2, q2, dPut_out (pgn_neg (by decide))]
      exact ⟨h, Cor_mono hv.1 (by omega)⟩
    · rw [hce, if_neg (nI_ne5 (by omega)), hwP, ix_in hp (by decide), nI_clamp (by omega), nI_clamp (by omega), h93]
      exact ⟨R_put h hc rfl, Cor_put hv.1 hc⟩
  · rw [if_neg q] at hko
    have hpq : pqR f (f 102) = -5 := by rw [f102, rel_pq h]; exact pq_none (by omega) (by omega)
    rw [if_neg (show ¬ ¬ pqR f (f 102) = -5 from fun z => z hpq)]
    by_cases q2 : d = cN S
    · rw [if_pos q2] at hko
      rw [if_neg (by rw [hko]; decide), if_pos hko, if_pos (by rw [f102, rel_cN h, q2])]
      exact ⟨R_tab h hv hm hk, Cor_mono (Cor_nT hv.1 (Or.inr rfl)) (by omega)⟩
    · rw [if_neg q2] at hko
      rw [if_neg (by rw [hko]; decide), if_neg (by rw [hko]; decide), if_neg (by rw [f102, rel_cN h]; exact fun z => q2 ((nI_eqI (by omega) (by omega)).mp z))]
      exact ⟨h, Cor_mono hv.1 (by omega)⟩
