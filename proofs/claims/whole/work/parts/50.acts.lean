/-! the acts on both sides -/
/-- the same answer; nothing done on either side, or the state recorded and a new one that agrees -/
def Ac (B : Nat) (r : Int32 × Option az_S) (t : Int32 × az_S) (T : az_S) (k : Nat) : Prop :=
  r.1 = t.1 ∧ ((r.2 = none ∧ t.2 = T) ∨ ∃ N' f', r.2 = some N' ∧ t.2 = va_up (tRec T k) 0 f' ∧ Rel N' f' ∧ Inv B N')
theorem Ac_n {B k : Nat} {T : az_S} {x : Int32} : Ac B (x, none) (x, T) T k := ⟨rfl, Or.inl ⟨rfl, rfl⟩⟩
theorem Ac_s {B k : Nat} {T N' : az_S} {f' : Nat → Int32} {x y : Int32} (e : x = y) (h : Rel N' f') (hv : Inv B N') : Ac B (x, some N') (y, va_up (tRec T k) 0 f') T k := ⟨e, Or.inr ⟨N', f', rfl, rfl, h, hv⟩⟩
theorem ac_tell {B k j : Nat} {N T : az_S} {v : Int32} (h : Rel N (T 0)) (hv : Inv B N) (hj : j < 8) (hw : DV v) : Ac B (fTell N (nI j) v) (if T 0 101 = 1 then (-4, T) else tBe T k j (dk v)) T k := by
  unfold fTell tBe
  by_cases q : N 12 4 = 0
  · rw [if_neg (Classical.not_not.mpr q), if_neg (fun z => (rel_on h hv.1.1).mp z q), ix_in hj (by decide), h.dsk j hj]
    by_cases q2 : N 5 j = v
    · rw [if_pos q2, if_pos (by rw [q2])]
      exact Ac_n
    · rw [if_neg q2, if_neg (fun z => q2 ((dk_inj (hv.1.2.2.2.1 j hj) hw).mp z)), ixu_in hj (by decide)]
      have h2 : Rel (va_up N 5 (upd (N 5) j v)) (upd (T 0) (93 + j) (dk v)) := R_u5 h hj
      have hv2 : Inv B (va_up N 5 (upd (N 5) j v)) := Inv_tell hv q (fun p hp => by
        by_cases w : p = j
        · rw [w, upd_e]; exact hw
        · rw [upd_n w]; exact hv.1.2.2.2.1 p hp)
      exact Ac_s (by rw [rel_td h2 hv2]) h2 hv2
  · rw [if_pos q, if_pos ((rel_on h hv.1.1).mpr q)]
    exact Ac_n
theorem ac_write {B k : Nat} {N T : az_S} {p c : Int32} (h : Rel N (T 0)) (hv : Inv B N) : Ac B (fWrite N p c) (tWr T k p c) T k := by
  unfold fWrite tWr
  cases hp : pgn 8 p
  · rw [if_pos rfl, if_pos rfl]
    exact Ac_n
  · rw [if_neg (show ¬ true = false by decide), if_neg (show ¬ true = false by decide)]
    by_cases q1 : c < 0
    · rw [if_pos q1, if_pos (by unfold inB; rw [decide_eq_true q1]; rfl)]
      exact Ac_n
    · rw [if_neg q1]
      by_cases q2 : c ≤ 999
      · rw [if_neg (Classical.not_not.mpr q2), if_neg (by unfold inB; rw [decide_eq_false q1, decide_eq_false (Int32.not_lt.mpr q2)]; decide)]
        obtain ⟨j, hj, rfl⟩ := pgn_nI hp (by decide)
        obtain ⟨v, hv2, rfl⟩ := nI_of2 (M := 999) (n := 999) rfl q1 q2
        have := ac_tell (k := k) h hv hj (v := nI v) (Or.inr (Or.inr ⟨v, by omega, rfl⟩))
        rw [dk_nI (by omega)] at this
        rw [nI_clamp (by omega)]
        exact this
      · rw [if_pos q2, if_pos (by unfold inB; rw [decide_eq_false q1, decide_eq_true (Int32.not_le.mp q2)]; decide)]
        exact Ac_n
theorem ac_drop {B k : Nat} {N T : az_S} {p : Int32} (h : Rel N (T 0)) (hv : Inv B N) : Ac B (fDrop N p) (tDr T k p) T k := by
  unfold fDrop tDr
  cases hp : pgn 8 p
  · rw [if_pos rfl, if_pos rfl]
    exact Ac_n
  · rw [if_neg (by decide), if_neg (by decide)]
    obtain ⟨j, hj, rfl⟩ := pgn_nI hp (by decide)
    rw [nI_clamp (by omega)]
    exact ac_tell (k := k) h hv hj (v := -5) (Or.inr (Or.inl rfl))
theorem ac_clear {B k : Nat} {N T : az_S} (h : Rel N (T 0)) (hv : Inv B N) : Ac B (fClear N) (tCl T k) T k := by
  unfold fClear tCl
  by_cases q : N 12 4 = 0
  · rw [if_neg (Classical.not_not.mpr q), if_neg (fun z => (rel_on h hv.1.1).mp z q), rel_td h hv]
    by_cases q2 : pT N = 0
    · rw [if_pos q2, if_pos q2]
      exact Ac_n
    · rw [if_neg q2, if_neg q2]
      unfold tDesk
      rw [tRec_0]
      exact Ac_s rfl (R_desk h) (Inv_tell hv q (fun p hp => by rw [flf_i hp]; exact Or.inl rfl))
  · rw [if_pos q, if_pos ((rel_on h hv.1.1).mpr q)]
    exact Ac_n
theorem ac_begin {B k : Nat} {N T : az_S} (h : Rel N (T 0)) (hv : Inv B N) : Ac B (fBegin N) (tBg T k) T k := by
  unfold fBegin tBg
  by_cases q : N 12 4 = 0
  · rw [if_neg (Classical.not_not.mpr q), if_neg (fun z => (rel_on h hv.1.1).mp z q), rel_td h hv]
    by_cases q2 : pT N = 0
    · rw [if_pos q2, if_pos q2]
      exact Ac_n
    · rw [if_neg q2, if_neg q2]
      have h2 : Rel (sN N 4 1) (upd (T 0) 101 1) := R_n4 h
      have hv2 := Inv_begin hv q
      exact Ac_s (by rw [rel_ow h2 hv2.1.1]) h2 hv2
  · rw [if_pos q, if_pos ((rel_on h hv.1.1).mpr q)]
    exact Ac_n
theorem ac_give {B k : Nat} {N T : az_S} (h : Rel N (T 0)) (hv : Inv B N) : Ac B (fGive N) (tGi T k) T k := by
  unfold fGive tGi
  rw [h.on]
  by_cases q : N 12 4 = 0
  · rw [if_pos q, if_pos q]
    exact Ac_n
  · rw [if_neg q, if_neg q]
    unfold tEnd
    rw [tRec_0]
    exact Ac_s h.dn.symm (R_end h) (Inv_end hv.1)
theorem ac_step {B k mk : Nat} {N T : az_S} (h : Rel N (T 0)) (hv : Inv B N) (hm : T 0 92 = nI mk) (hk : mk ≤ 1) : Ac (B + 1) (fStep N) (tSt T k mk) T k := by
  unfold fStep tSt
  rw [h.on]
  by_cases q : N 12 4 = 0
  · rw [if_pos q, if_pos q]
    exact Ac_n
  · obtain ⟨d, hd, hd2⟩ := hv.2.2.2.2.2.2.1
    rw [if_neg q, if_neg q, rel_cs h hv hm hk q hd hd2]
    cases hg : cgB N
    · rw [if_pos rfl, if_pos rfl]
      exact Ac_n
    · rw [if_neg (by decide), if_neg (by decide)]
      obtain ⟨h2, hv2⟩ := R_go h hv hm hk hg
      rw [tGo_0, tRec_0, sU_eq]
      exact Ac_s (by rw [rel_ow h2 hv2.1.1]) h2 hv2
theorem Rel_f {S : az_S} {f g : Nat → Int32} (h : Rel S f) (e : ∀ k, k < 153 → g k = f k) : Rel S g :=
  ⟨fun i hi => (e _ (by omega)).trans (h.c0 i hi), fun i hi => (e _ (by omega)).trans (h.c1 i hi), fun i hi => (e _ (by omega)).trans (h.c2 i hi),
   (e _ (by decide)).trans h.n0, (e _ (by decide)).trans h.t0, (e _ (by decide)).trans h.n1, (e _ (by decide)).trans h.t1,
   fun i hi => (e _ (by omega)).trans (h.a0 i hi), fun i hi => (e _ (by omega)).trans (h.a1 i hi), (e _ (by decide)).trans h.mk, fun i hi => (e _ (by omega)).trans (h.dsk i hi),
   (e _ (by decide)).trans h.on, (e _ (by decide)).trans h.dn, fun i hi => (e _ (by omega)).trans (h.wr i hi), fun r hr => (e _ (by omega)).trans (h.pr r hr),
   fun r hr z => (e _ (by omega)).trans (h.rn r hr z), fun r p hr hp z => (e _ (by omega)).trans (h.rc r p hr hp z), (e _ (by decide)).trans h.cr, (e _ (by decide)).trans h.sw⟩
theorem ac_rest {B k sk : Nat} {N P T : az_S} {kp : Int32} (hkp : T 5 1 = kp) (h2 : ¬ kp = 0 → Rel P (T 2) ∧ Inv B P ∧ T 2 92 = nI sk ∧ sk ≤ 1) : Ac B (fRest N P kp) (tRe T k sk) T k := by
  unfold fRest tRe
  rw [hkp]
  by_cases q : kp = 0
  · rw [if_pos q, if_pos q]
    exact Ac_n
  · rw [if_neg q, if_neg q]
    obtain ⟨h, hv, hm, hs⟩ := h2 q
    have e : ∀ k, k < 153 → lyf (T 2) 0 (T 0) 0 153 k = T 2 k := fun k hk => by
      have := lyf_i (f := T 2) (g := T 0) (o2 := 0) hk
      rwa [Nat.zero_add] at this
    have h3 : Rel (dCp P N) (lyf (T 2) 0 (T 0) 0 153) := Rel_f (Rel_SE h (dCp_SE P N)) e
    refine Ac_s ?_ h3 (Inv_SE hv (dCp_SE P N))
    rw [rel_num h3 ((e 92 (by decide)).trans hm) hs]
    rfl
theorem ac_crash {B k mk : Nat} {N T : az_S} {b : Bool} (h : Rel N (T 0)) (hv : Inv B N) (hm : T 0 92 = nI mk) (hk : mk ≤ 1) : Ac (B + 1) (fCrash N b) (tCr (tCs T k mk b) mk) T k := by
  have hX : ∃ S f, (if b = true then dTear N else N) = S ∧ tCs T k mk b = va_up (tRec T k) 0 f ∧ Rel S f ∧ Cor (B + 1) S ∧ f 92 = nI mk := by
    have e0 : tRec T k = va_up (tRec T k) 0 (T 0) := by
      have := sU_s (T := tRec T k) (c := 0)
      rw [tRec_0] at this
      exact this.symm
    cases b
    · refine ⟨N, T 0, rfl, ?_, h, Cor_mono hv.1 (by omega), hm⟩
      unfold tCs
      rw [if_neg (fun z => by cases z.1)]
      exact e0
    · by_cases q : N 12 4 = 0
      · refine ⟨N, T 0, ?_, ?_, h, Cor_mono hv.1 (by omega), hm⟩
        · rw [if_pos rfl]
          unfold dTear
          rw [if_pos q]
        · unfold tCs
          rw [if_neg (fun z => (rel_on h hv.1.1).mp z.2 q)]
          exact e0
      · obtain ⟨h2, hv2⟩ := R_te h hv hm hk q
        refine ⟨dTear N, teR (T 0) mk, if_pos rfl, ?_, h2, hv2, ?_⟩
        · unfold tCs
          rw [if_pos ⟨rfl, (rel_on h hv.1.1).mpr q⟩, tTe_0, tRec_0]
        · rw [h2.mk]
          have e6 : dTear N 12 6 = N 12 6 := by
            unfold dTear
            rw [if_neg q]
            split
            · rcases cw_free (S := N) (n := 24) (Nat.le_refl _) with q2 | ⟨c, hc, hce, -⟩
              · rw [q2, dPut_out (pgn_neg (by decide))]
              · rw [hce, dPut_in hc, sU_ne (by decide), sU_ne (by decide), sU_ne (by decide)]
            · split
              · exact nT_12 (by decide)
              · rfl
          rw [e6, ← h.mk, hm]
  obtain ⟨S, f, e1, e2, h2, hv2, hm2⟩ := hX
  unfold fCrash tCr
  rw [e1, e2]
  show Ac (B + 1) (gN (dLose S), some (dLose S)) (tC2 (va_up (tRec T k) 0 f) 0 (72 + 10 * mk + 0), tC2 (va_up (tRec T k) 0 f)) T k
  have e3 : tC2 (va_up (tRec T k) 0 f) = va_up (tRec T k) 0 (upd (fll (fll (upd (upd (fll f 93 (-5) 8) 101 0) 102 0) 103 (-5) 8) 111 0 40) 151 (f 151 + 1)) := by
    unfold tC2 tC1 tEnd tDesk
    simp only [sU_sU, sU_eq]
    rw [fll_o (by omega), fll_o (by omega), upd_n (by decide), upd_n (by decide), fll_o (by omega)]
  have e4 : dLose S = sN (va_up (dEnd (dDesk S)) 7 (flf (dEnd (dDesk S) 7) 0 4)) 7 (S 12 7 + 1) := by
    unfold dLose
    show sN (va_up (dEnd (dDesk S)) 7 (flf (S 7) 0 4)) 7 (va_up (dEnd (dDesk S)) 7 (flf (S 7) 0 4) 12 7 + 1) = _
    have e5 : dEnd (dDesk S) 7 = S 7 := by
      unfold dEnd dDesk
      rw [sU_ne (by decide), sN_ne (by decide), sN_ne (by decide), sU_ne (by decide)]
    have e6 : va_up (dEnd (dDesk S)) 7 (flf (S 7) 0 4) 12 7 = S 12 7 := by
      rw [sU_ne (show 12 ≠ 7 by decide)]
      unfold dEnd dDesk
      rw [sU_ne (show 12 ≠ 6 by decide), sN_n (by decide), sN_n (by decide), sU_ne (show 12 ≠ 5 by decide)]
    rw [e5, e6]
  have h3 : Rel (dLose S) (upd (fll (fll (upd (upd (fll f 93 (-5) 8) 101 0) 102 0) 103 (-5) 8) 111 0 40) 151 (f 151 + 1)) := by
    rw [e4, h2.cr]
    exact R_n7 (R_prF (R_end (R_desk h2)))
  have hv3 : Inv (B + 1) (dLose S) := Inv_lose hv2
  rw [e3, sU_eq]
  refine Ac_s ?_ h3 hv3
  rw [rel_num h3 ?_ hk]
  · rfl
  · rw [upd_n (by decide), fll_o (by omega), fll_o (by omega), upd_n (by decide), upd_n (by decide), fll_o (by omega), hm2]
theorem rel_hs {N : az_S} {f : Nat → Int32} {r : Int32} (h : Rel N f) (ho : OKS N) : isR f r = hsB N r := by
  cases hp : pgn 4 r
  · unfold isR hsB
    rw [hp, ix_out hp]
    rfl
  · obtain ⟨j, hj, rfl⟩ := pgn_nI hp (by decide)
    rw [rel_isR h ho hj]
    unfold hsB
    rw [ix_in hj (by decide)]
theorem rel_rd {N : az_S} {f : Nat → Int32} (h : Rel N f) (ho : OKS N) : rdR f = cnt (fun i => decide (¬ N 7 i = 0)) 4 := cnt_cong (fun _ hr => rel_isR h ho hr)
theorem ac_close {B k : Nat} {N T : az_S} {r : Int32} (h : Rel N (T 0)) (hv : Inv B N) : Ac B (fClose N r) (tClo T k r) T k := by
  unfold fClose tClo
  rw [rel_hs h hv.1.1]
  cases hr : hsB N r
  · rw [if_pos rfl, if_pos rfl]
    exact Ac_n
  · rw [if_neg (by decide), if_neg (by decide)]
    obtain ⟨j, hj, rfl⟩ := hsB_nI hr
    rw [nI_clamp (by omega)]
    have h2 : Rel (va_up N 7 (upd (N 7) j 0)) (fll (T 0) (111 + 10 * j) 0 10) := R_pr0 h hj
    have hv2 : Inv B (va_up N 7 (upd (N 7) j 0)) := Inv_dismiss hv
    exact Ac_s (by rw [rel_rd h2 hv2.1.1]) h2 hv2
theorem cnt_all {P : Nat → Bool} : ∀ {n : Nat}, cnt P n = n → ∀ i, i < n → P i = true
  | 0, _, i, hi => absurd hi (by omega)
  | n + 1, h, i, hi => by
    cases q : P n
    · rw [cnt_f q] at h
      have := cnt_le P n
      omega
    · rw [cnt_t q] at h
      by_cases q2 : i = n
      · rw [q2]; exact q
      · exact cnt_all (n := n) (by omega) i (by omega)
theorem cnt_full {P : Nat → Bool} : ∀ {n : Nat}, (∀ i, i < n → P i = true) → cnt P n = n
  | 0, _ => rfl
  | n + 1, h => by rw [cnt_t (h n (by omega)), cnt_full (fun i hi => h i (by omega))]
theorem ac_open {B k mk : Nat} {N T : az_S} (h : Rel N (T 0)) (hv : Inv B N) (hm : T 0 92 = nI mk) (hk : mk ≤ 1) :
    (nI (rdR (T 0)) = 4 ∧ fOpen N = (-3, none)) ∨ (¬ nI (rdR (T 0)) = 4 ∧ ∃ r, r < 4 ∧ isR (T 0) (nI r) = false ∧ (∀ i, i < r → isR (T 0) (nI i) = true) ∧ Ac B (fOpen N) (nI r, tOp T k mk r) T k) := by
  have hrd := rel_rd h hv.1.1
  have hz : ∀ i, decide (N 7 i = 0) = !decide (¬ N 7 i = 0) := fun i => by
    by_cases q : N 7 i = 0
    · rw [decide_eq_true q, decide_eq_false (Classical.not_not.mpr q)]; rfl
    · rw [decide_eq_false q, decide_eq_true q]; rfl
  unfold fOpen
  rcases fi_cases (fun i => decide (N 7 i = 0)) 4 with ⟨j, hj, h1, hmin, h2⟩ | ⟨h1, h2⟩
  · right
    have hnf : isR (T 0) (nI j) = false := by
      rw [rel_isR h hv.1.1 hj]
      have := of_decide_eq_true h1
      exact decide_eq_false (Classical.not_not.mpr this)
    refine ⟨fun z => ?_, j, hj, hnf, fun i hi => ?_, ?_⟩
    · have h4 : rdR (T 0) = 4 := (nI_eqI (by have := cnt_le (fun r => isR (T 0) (nI r)) 4; unfold rdR; omega) (by decide)).mp (z.trans (show (4 : Int32) = nI 4 from rfl))
      have := cnt_all h4 j hj
      change isR (T 0) (nI j) = true at this
      rw [hnf] at this
      cases this
    · rw [rel_isR h hv.1.1 (by omega)]
      exact decide_eq_true (of_decide_eq_false (hmin i hi))
    · rw [h2, if_neg (nI_ne5 (by omega)), nI_clamp (by omega)]
      exact Ac_s rfl (R_adm h hm hk hj) (Inv_adm hv hj)
  · left
    rw [h2, if_pos rfl]
    refine ⟨?_, rfl⟩
    rw [hrd, cnt_full (fun i hi => decide_eq_true (of_decide_eq_false (h1 i hi)))]
    rfl
