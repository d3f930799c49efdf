/-! finish, on both sides -/
theorem dPut_d {S : az_S} {c x s : Int32} {d : Nat} (h0 : d ≠ 0) (h1 : d ≠ 1) (h2 : d ≠ 2) : dPut S c x s d = S d := by
  unfold dPut
  split
  · rw [sU_ne h2, sU_ne h1, sU_ne h0]
  · rfl
theorem dOwed_4 {S : az_S} : dOwed S 12 4 = S 12 4 := by
  unfold dOwed
  show sN (va_up (dPut S (cw S 24) _ _) 6 _) 5 _ 12 4 = S 12 4
  rw [sN_n (by decide), sU_ne (show 12 ≠ 6 by decide), dPut_d (by decide) (by decide) (by decide)]
theorem dOwed_5 {S : az_S} : dOwed S 12 5 = S 12 5 + 1 := by
  unfold dOwed
  show sN (va_up (dPut S (cw S 24) _ _) 6 _) 5 (va_up (dPut S (cw S 24) _ _) 6 _ 12 5 + 1) 12 5 = S 12 5 + 1
  rw [sN_e, sU_ne (show 12 ≠ 6 by decide), dPut_d (by decide) (by decide) (by decide)]
theorem dOwed_d {S : az_S} : dOwed S 5 = S 5 := by
  unfold dOwed
  show sN (va_up (dPut S (cw S 24) _ _) 6 _) 5 _ 5 = S 5
  rw [sN_ne (by decide), sU_ne (by decide), dPut_d (by decide) (by decide) (by decide)]
theorem dMark_4 {S : az_S} : dMark S 12 4 = 0 := by
  unfold dMark dEnd
  rw [sU_ne (show 12 ≠ 6 by decide), sN_n (by decide), sN_e]
theorem sO_off {S : az_S} (h : S 12 4 = 0) : sO S = 0 := by
  unfold sO
  rw [if_pos h]
theorem sO_go {B s : Nat} {S : az_S} (hv : Inv B S) (h4 : ¬ S 12 4 = 0) (hs : sO S = nI (s + 1)) (hl : s ≤ 10) : sO (dGo S) = nI s := by
  obtain ⟨d, hd, hd2⟩ := hv.2.2.2.2.2.2.1
  have hc := cN_lt S
  rw [sO_on h4 hd hd2] at hs
  have hs2 : cN S + 2 - d = s + 1 := (nI_eqI (by omega) (by omega)).mp hs
  have hko := kO_0 h4 hd hd2
  unfold dGo
  by_cases q : d < cN S
  · rw [if_pos q] at hko
    rw [if_pos hko]
    have e : cN (dOwed S) = cN S := cN_cong (fun p _ => by rw [dOwed_d])
    rw [sO_on (d := d + 1) (by rw [dOwed_4]; exact h4) (by rw [dOwed_5, hd, nI_1]) (by omega), e]
    exact congrArg nI (by omega)
  · rw [if_neg q] at hko
    by_cases q2 : d = cN S
    · rw [if_pos q2] at hko
      rw [if_neg (by rw [hko]; decide), if_pos hko]
      have e : cN (sN (nT S 0 8) 5 (nT S 0 8 12 5 + 1)) = cN S := cN_cong (fun p _ => by rw [sN_ne (by decide), nT_c (by decide) (by decide) (by decide)])
      rw [sO_on (d := d + 1) (by rw [sN_n (by decide), nT_12 (by decide)]; exact h4) (by rw [sN_e, nT_12 (by decide), hd, nI_1]) (by omega), e]
      exact congrArg nI (by omega)
    · rw [if_neg q2] at hko
      rw [if_neg (by rw [hko]; decide), if_neg (by rw [hko]; decide), sO_off dMark_4, show s = 0 by omega]
      rfl
theorem rel_mk {S : az_S} {f : Nat → Int32} (h : Rel S f) (ho : OKS S) : ∃ mk : Nat, mk ≤ 1 ∧ f 92 = nI mk := by
  rcases ho.2 with q | q
  · exact ⟨0, by decide, h.mk.trans q⟩
  · exact ⟨1, by decide, h.mk.trans q⟩
theorem mkT_of {T : az_S} {mk : Nat} (hm : T 0 92 = nI mk) (hk : mk ≤ 1) : mkT T = mk := by
  unfold mkT
  rw [hm, nI_clamp (by omega)]
theorem fin_both : ∀ (s : Nat) {B : Nat} {S T : az_S}, Rel S (T 0) → Inv B S → sO S = nI s → s ≤ 10 → ∃ f', tLo s T = va_up T 0 f' ∧ Rel (fnS s S) f' ∧ Inv (B + s) (fnS s S) ∧ lc (tLo s T) = false
  | 0, B, S, T, h, hv, hs, _ => by
    have h4 : S 12 4 = 0 := by
      by_cases q : S 12 4 = 0
      · exact q
      · obtain ⟨d, hd, hd2⟩ := hv.2.2.2.2.2.2.1
        have hc := cN_lt S
        rw [sO_on q hd hd2] at hs
        have := (nI_eqI (by omega) (by omega)).mp hs
        omega
    exact ⟨T 0, (sU_s (c := 0)).symm, h, hv, lc_1 (fun z => (rel_on h hv.1.1).mp z h4)⟩
  | s + 1, B, S, T, h, hv, hs, hl => by
    have h4 : ¬ S 12 4 = 0 := fun q => by
      rw [sO_off q] at hs
      exact nI_ne0 (by omega) (by omega) hs.symm
    obtain ⟨d, hd, hd2⟩ := hv.2.2.2.2.2.2.1
    obtain ⟨mk, hk, hm⟩ := rel_mk h hv.1.1
    have hcs := rel_cs h hv hm hk h4 hd hd2
    have hmk := mkT_of hm hk
    cases hg : cgB S
    · have hlc : lc T = false := lc_2 (by rw [hmk, hcs, hg])
      refine ⟨T 0, ?_, ?_, ?_, ?_⟩
      · rw [tLo_stop hlc]
        exact (sU_s (c := 0)).symm
      · rw [fnS_stop hg]; exact h
      · rw [fnS_stop hg]; exact Inv_mono hv (by omega)
      · rw [tLo_stop hlc]; exact hlc
    · have hlc : lc T = true := lc_t (Classical.not_not.mpr ((rel_on h hv.1.1).mpr h4)) (by rw [hmk, hcs, hg])
      obtain ⟨h2, hv2⟩ := R_go h hv hm hk hg
      obtain ⟨f', e1, e2, e3, e4⟩ := fin_both s (T := va_up T 0 (goR (T 0) mk)) (by rw [sU_eq]; exact h2) hv2 (sO_go hv h4 hs (by omega)) (by omega)
      have e5 : tLo (s + 1) T = tLo s (va_up T 0 (goR (T 0) mk)) := by rw [tLo, if_pos hlc, hmk, tGo_0]
      have e6 : fnS (s + 1) S = fnS s (dGo S) := by rw [fnS, if_pos hg]
      refine ⟨f', ?_, ?_, ?_, ?_⟩
      · rw [e5, e1, sU_sU]
      · rw [e6]; exact e2
      · rw [e6]; exact Inv_mono e3 (by omega)
      · rw [e5]; exact e4
theorem ac_fin {B k mk : Nat} {N T : az_S} (h : Rel N (T 0)) (hv : Inv B N) (hm : T 0 92 = nI mk) (hk : mk ≤ 1) : Ac (B + 10) (fFin N) (tFi T k (sO N).toNatClampNeg) T k ∧ lc (tLo (sO N).toNatClampNeg (tRec T k)) = false := by
  have hs : ∃ s, s ≤ 10 ∧ sO N = nI s := by
    by_cases q : N 12 4 = 0
    · exact ⟨0, by decide, sO_off q⟩
    · obtain ⟨d, hd, hd2⟩ := hv.2.2.2.2.2.2.1
      have hc := cN_lt N
      exact ⟨_, by omega, sO_on q hd hd2⟩
  obtain ⟨s, hs1, hs2⟩ := hs
  obtain ⟨f', e1, e2, e3, e4⟩ := fin_both s (T := tRec T k) (by rw [tRec_0]; exact h) hv hs2 hs1
  rw [hs2, nI_clamp (by omega)]
  refine ⟨?_, e4⟩
  unfold fFin tFi
  rw [hs2, nI_clamp (by omega), h.on, mkT_of hm hk]
  by_cases q : N 12 4 = 0
  · rw [if_pos q, if_pos q]
    exact Ac_n
  · obtain ⟨d, hd, hd2⟩ := hv.2.2.2.2.2.2.1
    rw [if_neg q, if_neg q, rel_cs h hv hm hk q hd hd2]
    cases hg : cgB N
    · rw [if_pos rfl, if_pos rfl]
      exact Ac_n
    · rw [if_neg (by decide), if_neg (by decide), e1, sU_eq]
      exact Ac_s (by rw [rel_ow e2 e3.1.1]) e2 (Inv_mono e3 (by omega))
