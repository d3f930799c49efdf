/-! a new table; readers; crashes -/
theorem T0_k {S : az_S} {tn : Int32} {k : Nat} (h : 4 ≤ k) : T0 S tn 12 k = S 12 k := by
  unfold T0
  split
  · rw [sN_n (by omega), sN_n (by omega)]
  · rw [sN_n (by omega), sN_n (by omega)]
theorem nT_12 {S : az_S} {tn : Int32} {j k : Nat} (h : 4 ≤ k) : nT S tn j 12 k = S 12 k := by
  rw [nT_d (by decide) (by decide), T0_k h]
theorem nT_c {S : az_S} {tn : Int32} {j d : Nat} (h3 : d ≠ 3) (h4 : d ≠ 4) (h12 : d ≠ 12) : nT S tn j d = S d := by
  rw [nT_d h3 h4, T0_ne h12]
theorem nT_cO {S : az_S} {tn : Int32} {j : Nat} (hm : S 12 6 = 0 ∨ S 12 6 = 1) : cO (nT S tn j) = cO S := by
  unfold cO
  rw [nT_12 (by decide), nT_old hm]
theorem Cor_nT {B : Nat} {S : az_S} {tn : Int32} (h : Cor B S) (ht : tn = 0 ∨ tn = 1) : Cor B (nT S tn 8) := by
  obtain ⟨a1, a2, a3, a4, a5, a6⟩ := h
  refine ⟨nT_OK a1 ht, ?_, ?_, ?_, fun r hr z => ?_, ?_⟩
  · rw [nT_cO a1.2]; exact a2
  · rw [nT_cO a1.2]; exact a3
  · rw [nT_c (by decide) (by decide) (by decide)]; exact a4
  · rw [nT_c (by omega) (by omega) (by omega)]
    rw [nT_c (by decide) (by decide) (by decide)] at z
    exact a5 r hr z
  · rw [nT_c (by decide) (by decide) (by decide)]; exact a6
theorem nC_RG {S : az_S} (h2 : RG (cO S)) (h1 : RG (S 6)) : RG (nC S) := fun p hp => by
  unfold nC
  split
  · exact h2 p hp
  · exact h1 p hp
theorem nC_IJ {S : az_S} (h2 : IJ (cO S)) (h1 : IJ (S 6)) (ha : AP (S 6) (cO S)) : IJ (nC S) := fun i j hi hj z1 z2 => by
  unfold nC at z1 z2
  by_cases q1 : S 5 i = -1
  · rw [if_pos q1] at z1 z2
    by_cases q2 : S 5 j = -1
    · rw [if_pos q2] at z2
      exact h2 i j hi hj z1 z2
    · rw [if_neg q2] at z2
      exact absurd z2.symm (ha j i hj hi (by rw [← z2]; exact z1))
  · rw [if_neg q1] at z1 z2
    by_cases q2 : S 5 j = -1
    · rw [if_pos q2] at z2
      exact absurd z2 (ha i j hi hj z1)
    · rw [if_neg q2] at z2
      exact h1 i j hi hj z1 z2
theorem Inv_table {B : Nat} {S : az_S} (h : Inv B S) (h4 : ¬ S 12 4 = 0) (hd : S 12 5 = nI (cN S)) : Inv B (sN (nT S 0 8) 5 (nT S 0 8 12 5 + 1)) := by
  obtain ⟨hC, h1, h2, h3, h6, h7, h8, h9⟩ := h
  have hm := hC.1.2
  obtain ⟨c1, c2, c3, c4, c5, c6⟩ := Cor_nT (tn := 0) hC (Or.inl rfl)
  rw [nT_12 (by decide), hd, nI_1]
  have eo : ∀ e, e ≠ 3 → e ≠ 4 → e ≠ 12 → sN (nT S 0 8) 5 (nI (cN S + 1)) e = S e := fun e q3 q4 q12 => by rw [sN_ne q12, nT_c q3 q4 q12]
  have ec : cO (sN (nT S 0 8) 5 (nI (cN S + 1))) = cO S := by rw [cO_sN (by decide), nT_cO hm]
  have e4 : sN (nT S 0 8) 5 (nI (cN S + 1)) 12 4 = S 12 4 := by rw [sN_n (by decide), nT_12 (by decide)]
  have e6 : sN (nT S 0 8) 5 (nI (cN S + 1)) 12 6 = S 12 6 := by rw [sN_n (by decide), nT_12 (by decide)]
  have e5 : sN (nT S 0 8) 5 (nI (cN S + 1)) 12 5 = nI (cN S + 1) := sN_e
  have eN : cN (sN (nT S 0 8) 5 (nI (cN S + 1))) = cN S := cN_cong (fun q _ => by rw [eo 5 (by decide) (by decide) (by decide)])
  have hok : OKS (sN (nT S 0 8) 5 (nI (cN S + 1))) := sN_OK c1 (by decide) (by decide) (by decide) (by decide) (fun r hr => by omega)
  have et : ∀ p, p < 8 → tb (sN (nT S 0 8) 5 (nI (cN S + 1))) (1 - S 12 6) p = nC S p := fun p hp => by
    have : tb (sN (nT S 0 8) 5 (nI (cN S + 1))) (1 - S 12 6) = tb (nT S 0 8) (1 - S 12 6) := by
      unfold tb
      rw [sN_ne (show 3 ≠ 12 by decide), sN_ne (show 4 ≠ 12 by decide)]
    rw [this, nT_new, cpf_i hp]
  refine ⟨⟨hok, by rw [ec]; exact hC.2.1, by rw [ec]; exact hC.2.2.1, by rw [eo 5 (by decide) (by decide) (by decide)]; exact hC.2.2.2.1, fun r hr z => ?_, by rw [eo 2 (by decide) (by decide) (by decide)]; exact hC.2.2.2.2.2⟩, ?_⟩
  · rw [eo (8 + r) (by omega) (by omega) (by omega)]
    rw [eo 7 (by decide) (by decide) (by decide)] at z
    exact hC.2.2.2.2.1 r hr z
  · unfold Swp
    rw [ec, e4, e5, e6, eN, eo 6 (by decide) (by decide) (by decide), eo 5 (by decide) (by decide) (by decide)]
    exact ⟨h1, h2, h3, h6, fun z => absurd z h4, ⟨cN S + 1, rfl, Nat.le_refl _⟩, fun _ _ => ⟨RG_cong (nC_RG hC.2.1 h1) et, IJ_cong (nC_IJ hC.2.2.1 h2 h3) et⟩⟩
/-- a change that the swap does not see -/
theorem Swp_of {S T : az_S} (h : Swp S) (e : ∀ d, d < 7 → 3 ≤ d → T d = S d) (e12 : ∀ k, k < 9 → 4 ≤ k → k < 7 → T 12 k = S 12 k) : Swp T := by
  have e6 : T 12 6 = S 12 6 := e12 6 (by decide) (by decide) (by decide)
  have e4 : T 12 4 = S 12 4 := e12 4 (by decide) (by decide) (by decide)
  have e5 : T 12 5 = S 12 5 := e12 5 (by decide) (by decide) (by decide)
  have et : ∀ m, tb T m = tb S m := fun m => by
    unfold tb
    rw [e 3 (by decide) (by decide), e 4 (by decide) (by decide)]
  have ec : cO T = cO S := by
    unfold cO
    rw [e6, et]
  have eN : cN T = cN S := cN_cong (fun p _ => by rw [e 5 (by decide) (by decide)])
  unfold Swp at h ⊢
  rw [ec, e6, e4, e5, et, eN, e 5 (by decide) (by decide), e 6 (by decide) (by decide)]
  exact h
theorem Cor_rd {B : Nat} {S T : az_S} (h : Cor B S) (hok : OKS T) (e : ∀ d, d < 7 → T d = S d) (e6 : T 12 6 = S 12 6) (hr : ∀ r, r < 4 → ¬ T 7 r = 0 → RG (T (8 + r))) : Cor B T := by
  have ec : cO T = cO S := by
    unfold cO tb
    rw [e6, e 3 (by decide), e 4 (by decide)]
  exact ⟨hok, by rw [ec]; exact h.2.1, by rw [ec]; exact h.2.2.1, by rw [e 5 (by decide)]; exact h.2.2.2.1, hr, by rw [e 2 (by decide)]; exact h.2.2.2.2.2⟩
theorem Inv_dismiss {B j : Nat} {S : az_S} (h : Inv B S) : Inv B (va_up S 7 (upd (S 7) j 0)) := by
  refine ⟨Cor_rd h.1 (sP_OK h.1.1 (Or.inl rfl)) (fun d hd => sU_ne (by omega)) (by rw [sU_ne (show 12 ≠ 7 by decide)]) (fun r hr z => ?_), Swp_of h.2 (fun d hd _ => sU_ne (by omega)) (fun k _ _ _ => by rw [sU_ne (show 12 ≠ 7 by decide)])⟩
  rw [sU_ne (show 8 + r ≠ 7 by omega)]
  rw [sU_eq] at z
  by_cases q : r = j
  · rw [q, upd_e] at z
    exact absurd rfl z
  · rw [upd_n q] at z
    exact h.1.2.2.2.2.1 r hr z
theorem Inv_adm {B j : Nat} {S : az_S} (h : Inv B S) (hj : j < 4) : Inv B (dAdm S j) := by
  refine ⟨Cor_rd h.1 (dAdm_OK h.1.1 hj) (fun d hd => dAdm_c hd) (dAdm_12 hj (by decide)) (fun r hr z => ?_), Swp_of h.2 (fun d hd _ => dAdm_c hd) (fun k hk _ _ => dAdm_12 hj hk)⟩
  unfold dAdm at z ⊢
  change ¬ va_up (sN (sN (va_up S 7 (upd (S 7) j 1)) (9 + 2 * j) _) (10 + 2 * j) _) (8 + j) _ 7 r = 0 at z
  show RG (va_up (sN (sN (va_up S 7 (upd (S 7) j 1)) (9 + 2 * j) _) (10 + 2 * j) _) (8 + j) (cpf (tb (va_up S 7 (upd (S 7) j 1)) (S 12 6)) (va_up S 7 (upd (S 7) j 1) (8 + j)) 8) (8 + r))
  by_cases q : r = j
  · rw [q, sU_eq, tb_7]
    exact RG_cong h.1.2.1 (fun p hp => by rw [cpf_i hp]; rfl)
  · rw [sU_ne (by omega), sN_ne (by omega), sN_ne (by omega), sU_ne (by omega)]
    rw [sU_ne (by omega), sN_ne (by omega), sN_ne (by omega), sU_eq, upd_n q] at z
    exact h.1.2.2.2.2.1 r hr z
theorem Inv_lose {B : Nat} {S : az_S} (h : Cor B S) : Inv B (dLose S) := by
  have h1 := Inv_end (Cor_desk h)
  have hok := dLose_OK h.1
  have e : ∀ d, d < 7 → dLose S d = dEnd (dDesk S) d := fun d hd => by
    unfold dLose
    show sN (va_up (dEnd (dDesk S)) 7 (flf (S 7) 0 4)) 7 _ d = _
    rw [sN_ne (by omega), sU_ne (by omega)]
  have e12 : ∀ k, k < 7 → dLose S 12 k = dEnd (dDesk S) 12 k := fun k hk => by
    unfold dLose
    show sN (va_up (dEnd (dDesk S)) 7 (flf (S 7) 0 4)) 7 _ 12 k = _
    rw [sN_n (by omega), sU_ne (show 12 ≠ 7 by decide)]
  refine ⟨Cor_rd h1.1 hok e (e12 6 (by decide)) (fun r hr z => ?_), Swp_of h1.2 (fun d hd _ => e d hd) (fun k _ _ hk => e12 k hk)⟩
  unfold dLose at z
  change ¬ sN (va_up (dEnd (dDesk S)) 7 (flf (S 7) 0 4)) 7 _ 7 r = 0 at z
  rw [sN_ne (by decide), sU_eq, flf_i hr] at z
  exact absurd rfl z
