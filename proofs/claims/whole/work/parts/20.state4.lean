/-! methods' runs, laid by wip/whole/walk.py out of wip/whole/specs6.py -/
/-! steps, torn steps, readers that come -/
theorem az_lk_0 {x : Int32} (h : x = 0) : az_lk [(0, 27), (1, 34)] [4, 7] x.toInt 14 = 4 := by subst h; rfl
theorem az_lk_1 {x : Int32} (h : x = 1) : az_lk [(0, 27), (1, 34)] [4, 7] x.toInt 14 = 7 := by subst h; rfl
theorem az_lk_2 {x : Int32} (h : ¬ x = 0) (h1 : ¬ x = 1) : az_lk [(0, 27), (1, 34)] [4, 7] x.toInt 14 = 14 := by
  have e0 : ¬ x.toInt = 0 := fun q => h (Int32.toInt_inj.mp q)
  have e1 : ¬ x.toInt = 1 := fun q => h1 (Int32.toInt_inj.mp q)
  simp only [az_lk, if_neg e0, if_neg e1]
def dGo (S : az_S) : az_S := if kO S 0 = 0 then dOwed S else if kO S 0 = 1 then sN (nT S 0 8) 5 (nT S 0 8 12 5 + 1) else dMark S
def dTear (S : az_S) : az_S := if S 12 4 = 0 then S else if kO S 0 = 0 then dPut S (cw S 24) (ix 8 (-1) (S 5) (wP S)) (sealT (ix 8 (-1) (S 5) (wP S))) else if kO S 0 = 1 then nT S 1 8 else S
def dAdm (S : az_S) (j : Nat) : az_S := let T := va_up S 7 (upd (S 7) j 1); va_up (sN (sN T (9 + 2 * j) (tN T (S 12 6))) (10 + 2 * j) (tT T (S 12 6))) (8 + j) (cpf (tb T (S 12 6)) (T (8 + j)) 8)
theorem tA_lt (a : Nat) (m : Int32) : a < tA a m ∧ tA a m < a + 9 := by unfold tA; split <;> omega
theorem tB_lt (a : Nat) (m : Int32) : a < tB a m ∧ tB a m < a + 9 := by unfold tB; split <;> omega
theorem SV_tT {S : az_S} (h : SV S) (m : Int32) : tT S m = 0 ∨ tT S m = 1 := by unfold tT; split; exact h.2.1; exact h.2.2.1
def rwf (r0 : Nat) : Nat → Option Nat := fun i => if i < 4 then some (r0 + 24 * i) else none
theorem rwf_at (r0 : Nat) {i : Nat} (h : i < 4) : rwf r0 i = some (r0 + 24 * i) := if_pos h

set_option maxRecDepth 20000 in
theorem s_goOn {X : az_X} {w : az_W} {sz sl : Nat} {a : Nat} {S : az_S} (hv : SV S) (hm : S 12 6 = 0 ∨ S 12 6 = 1) : az_M X 76 [.ref a] (bw w a S) sz sl (none, bw w a (dGo S), sz, sl) := by
  refine az_Mof hd76 ?_
  show az_Ev X 76 0 [.ref a] [] (bw w a S) sz sl _
  refine E_al0 k76_0 ?_
  refine E_iconst k76_1 ?_
  refine E_cv1 k76_2 (Or.inl rfl) bw_0 cl73 rfl rfl (s_kindOwedAt hv.2.2.2.1) ?_
  refine E_lk k76_3 ?_
  show az_Ev X 76 (az_lk [(0, 27), (1, 34)] [4, 7] (kO S 0).toInt 14) _ _ _ _ _ _
  by_cases g0 : kO S 0 = 0
  · rw [az_lk_0 g0]
    refine E_al0 k76_4 ?_
    refine E_cv0 k76_5 (Or.inl rfl) bw_0 cl77 rfl rfl s_writeOwed ?_
    refine E_goto k76_6 ?_
    exact E_vret k76_16 hd76 rfl (by first | rw [dGo, if_pos g0] | rw [dGo, if_neg g0, if_pos g1] | rw [dGo, if_neg g0, if_neg g1])
  · by_cases g1 : kO S 0 = 1
    · rw [az_lk_1 g1]
      refine E_al0 k76_7 ?_
      refine E_iconst k76_8 ?_
      refine E_cv1 k76_9 (Or.inl rfl) bw_0 cl78 rfl rfl (s_newTable hm (Or.inl rfl)) ?_
      refine E_al0 k76_10 ?_
      refine E_get k76_11 bw_0 rfl ?_
      refine E_cv0 k76_12 (Or.inl rfl) bw_11 cl88 rfl rfl s_countStep ?_
      refine E_goto k76_13 ?_
      exact E_vret k76_16 hd76 rfl (by first | rw [dGo, if_pos g0] | rw [dGo, if_neg g0, if_pos g1] | rw [dGo, if_neg g0, if_neg g1])
    · rw [az_lk_2 g0 g1]
      refine E_al0 k76_14 ?_
      refine E_cv0 k76_15 (Or.inl rfl) bw_0 cl79 rfl rfl s_setMark ?_
      exact E_vret k76_16 hd76 rfl (by first | rw [dGo, if_pos g0] | rw [dGo, if_neg g0, if_pos g1] | rw [dGo, if_neg g0, if_neg g1])
set_option maxRecDepth 20000 in
theorem s_tear {X : az_X} {w : az_W} {sz sl : Nat} {a : Nat} {S : az_S} (hv : SV S) (hm : S 12 6 = 0 ∨ S 12 6 = 1) : az_M X 80 [.ref a] (bw w a S) sz sl (none, bw w a (dTear S), sz, sl) := by
  refine az_Mof hd80 ?_
  show az_Ev X 80 0 [.ref a, .null, .null] [] (bw w a S) sz sl _
  refine E_al0 k80_0 ?_
  refine E_get k80_1 bw_0 rfl ?_
  refine E_cv0 k80_2 (Or.inl rfl) bw_11 cl84 rfl rfl (s_goesOn hv.2.2.2.1) ?_
  refine E_ifne k80_3 (fun c3 => ?_) (fun d3 => ?_)
  · skip
    refine E_al0 k80_5 ?_
    refine E_iconst k80_6 ?_
    refine E_cv1 k80_7 (Or.inl rfl) bw_0 cl73 rfl rfl (s_kindOwedAt hv.2.2.2.1) ?_
    refine E_is1 k80_8 rfl ?_
    refine E_il1 k80_9 ?_
    refine E_ifne k80_10 (fun c10 => ?_) (fun d10 => ?_)
    · skip
      refine E_il1 k80_29 ?_
      refine E_iconst k80_30 ?_
      refine E_icne k80_31 (fun c31 => ?_) (fun d31 => ?_)
      · skip
        exact E_vret k80_35 hd80 rfl (by first | (rw [dTear, if_neg c3, if_neg c10, if_neg c31]; done) | (rw [dTear, if_neg c3, if_neg c10, if_pos (Classical.not_not.mp d31)]; done) | (rw [dTear, if_neg c3, if_pos (Classical.not_not.mp d10)]; rfl))
      · skip
        refine E_al0 k80_32 ?_
        refine E_iconst k80_33 ?_
        refine E_cv1 k80_34 (Or.inl rfl) bw_0 cl78 rfl rfl (s_newTable hm (Or.inr rfl)) ?_
        exact E_vret k80_35 hd80 rfl (by first | (rw [dTear, if_neg c3, if_neg c10, if_neg c31]; done) | (rw [dTear, if_neg c3, if_neg c10, if_pos (Classical.not_not.mp d31)]; done) | (rw [dTear, if_neg c3, if_pos (Classical.not_not.mp d10)]; rfl))
    · skip
      refine E_al0 k80_11 ?_
      refine E_get k80_12 bw_0 rfl ?_
      refine E_al0 k80_13 ?_
      refine E_get k80_14 bw_0 rfl ?_
      refine E_cv0 k80_15 (Or.inl rfl) bw_11 cl85 rfl rfl s_stepsDone ?_
      refine E_cv1 k80_16 (Or.inl rfl) bw_9 cl19 rfl rfl (s_pageOfContent bw_9 bw_10) ?_
      refine E_is2 k80_17 rfl ?_
      refine E_al0 k80_18 ?_
      refine E_get k80_19 bw_0 rfl ?_
      refine E_al0 k80_20 ?_
      refine E_cv0 k80_21 (Or.inl rfl) bw_0 cl70 rfl rfl s_cellToWrite ?_
      refine E_al0 k80_22 ?_
      refine E_get k80_23 bw_0 rfl ?_
      refine E_il2 k80_24 ?_
      refine E_cv1 k80_25 (Or.inl rfl) bw_9 cl13 rfl rfl (s_toldOf bw_9 bw_10) ?_
      refine E_iconst k80_26 ?_
      refine E_cv3 k80_27 (Or.inl rfl) bw_1 cl3 rfl rfl s_put1 ?_
      refine E_goto k80_28 ?_
      exact E_vret k80_35 hd80 rfl (by first | (rw [dTear, if_neg c3, if_neg c10, if_neg c31]; done) | (rw [dTear, if_neg c3, if_neg c10, if_pos (Classical.not_not.mp d31)]; done) | (rw [dTear, if_neg c3, if_pos (Classical.not_not.mp d10)]; rfl))
  · skip
    exact E_vret k80_4 hd80 rfl (by rw [dTear, if_pos (Classical.not_not.mp d3)])
set_option maxRecDepth 20000 in
theorem s_adm {X : az_X} {w : az_W} {sz sl : Nat} {a j : Nat} {S : az_S} (hj : j < 4) (hv : SV S) : az_M X 53 [.ref (a + 13), .int (nI j), .ref (tA a (S 12 6))] (bw w a S) sz sl (none, bw w a (dAdm S j), sz, sl) := by
  refine az_Mof hd53 ?_
  show az_Ev X 53 0 [.ref (a + 13), .int (nI j), .ref (tA a (S 12 6))] [] (bw w a S) sz sl _
  refine E_il1 k53_0 ?_
  refine E_iflt k53_1 (fun c1 => ?_) (fun d1 => ?_)
  · skip
    exact absurd c1 (nI_pos (by omega))
  · skip
    refine E_il1 k53_2 ?_
    refine E_iconst k53_3 ?_
    refine E_icge k53_4 (fun c4 => ?_) (fun d4 => ?_)
    · skip
      exact absurd (lp_t (by omega) (by decide) (show (4 : Int32) = nI 4 from rfl) c4) (by omega)
    · skip
      refine E_al0 k53_5 ?_
      refine E_get k53_6 bw_13 rfl ?_
      refine E_il1 k53_7 ?_
      refine E_iconst k53_8 ?_
      refine E_bast k53_9 bw_14 hj (by decide) (Or.inr rfl) ?_
      rw [bu_14]
      have hA := tA_lt a (S 12 6)
      have hB := tB_lt a (S 12 6)
      refine E_al0 k53_10 ?_
      refine E_get k53_11 bw_13 rfl ?_
      refine E_il1 k53_12 ?_
      refine E_aald k53_13 bw_15 (Or.inl rfl) hj (by decide) (kfn_at a hj) ?_
      refine E_al2 k53_14 ?_
      refine E_cv1 k53_15 (Or.inl rfl) (bw_G hj) cl30 rfl rfl (s_genCopy (bw_G hj) (bw_H hj) (bw_tA (S 12 6)) (bw_tB (S 12 6)) (by omega) (by omega) (by omega) (by omega) (by simpa [tT, va_up] using SV_tT hv (S 12 6))) ?_
      rw [bw_gen hj]
      exact E_vret k53_16 hd53 rfl rfl
set_option maxRecDepth 20000 in
theorem s_states {X : az_X} {w : az_W} {sz sl : Nat} {h : Nat} {y0 y1 : Value} {n : Int32} (h0 : w h = .inr (3, [y0, y1, .int n])) : az_M X 32 [.ref h] w sz sl (some (.int (n)), w, sz, sl) := by
  refine az_Mof hd32 ?_
  show az_Ev X 32 0 [.ref h] [] w sz sl _
  refine E_al0 k32_0 ?_
  refine E_get k32_1 h0 rfl ?_
  exact E_iret k32_2 hd32 rfl rfl
set_option maxRecDepth 20000 in
theorem s_record {X : az_X} {w : az_W} {sz sl : Nat} {h q c r0 o n : Nat} {S T : az_S} (h0 : w h = .inr (3, [.ref q, .int (nI o), .int (nI n)])) (h1 : w q = .inl (4, 4, .inr (.inr (.inr (.inr (rwf r0)))))) (ho : o < 4) (hn : n ≤ 4) (hb : BK w (r0 + 24 * ((o + n) % 4)) T) (hc : BK w c S) (hd : c + 24 ≤ r0 ∨ r0 + 96 ≤ c) (hh : h < r0 ∨ r0 + 96 ≤ h) (hv : SV S) : az_M X 33 [.ref h, .ref c] w sz sl (none, va_up (bw w (r0 + 24 * ((o + n) % 4)) (dCp S T)) h (.inr (3, [.ref q, .int (nI (if n < 4 then o else (o + 1) % 4)), .int (nI (if n < 4 then n + 1 else n))])), sz, sl) := by
  refine az_Mof hd33 ?_
  show az_Ev X 33 0 [.ref h, .ref c] [] w sz sl _
  refine E_al0 k33_0 ?_
  refine E_get k33_1 h0 rfl ?_
  refine E_al0 k33_2 ?_
  refine E_get k33_3 h0 rfl ?_
  refine E_al0 k33_4 ?_
  refine E_get k33_5 h0 rfl ?_
  refine E_iadd k33_6 ?_
  rw [nI_add]
  refine E_iconst k33_7 ?_
  refine E_cs2 k33_8 (Or.inl rfl) rfl rfl (s_floorMod4 (by omega)) ?_
  have hx : (o + n) % 4 < 4 := Nat.mod_lt _ (by decide)
  have hcopy := s_stateCopy (X := X) (sz := sz) (sl := sl) (w := w) (a := r0 + 24 * ((o + n) % 4)) (S := T) hc (by omega) hv
  rw [bw_in hb] at hcopy
  refine E_aald k33_9 h1 (Or.inr rfl) hx (by decide) (rwf_at r0 hx) ?_
  refine E_al1 k33_10 ?_
  refine E_cv1 k33_11 (Or.inl rfl) (hb 0 (by decide)) cl82 rfl rfl (hcopy) ?_
  have hw0 : bw w (r0 + 24 * ((o + n) % 4)) (dCp S T) h = .inr (3, [.ref q, .int (nI o), .int (nI n)]) := (bw_out (by omega)).trans h0
  refine E_al0 k33_12 ?_
  refine E_get k33_13 hw0 rfl ?_
  refine E_iconst k33_14 ?_
  refine E_icge k33_15 (fun c15 => ?_) (fun d15 => ?_)
  · skip
    have hn4 : ¬ n < 4 := fun q => absurd ((nI_leI (by decide) (by omega)).mp (show nI 4 ≤ nI n from c15)) (by omega)
    refine E_al0 k33_23 ?_
    refine E_al0 k33_24 ?_
    refine E_get k33_25 hw0 rfl ?_
    refine E_iconst k33_26 ?_
    refine E_iadd k33_27 ?_
    rw [nI_1]
    refine E_iconst k33_28 ?_
    refine E_cs2 k33_29 (Or.inl rfl) rfl rfl (s_floorMod4 (by omega)) ?_
    refine E_put k33_30 hw0 (Nat.le_of_ble_eq_true rfl) (az_fiti rfl) ?_
    exact E_vret k33_31 hd33 rfl (by first | (simp only [if_pos hn4]; rw [nI_1]; rfl) | (simp only [if_neg hn4]; rfl))
  · skip
    have hn4 : n < 4 := lp_f (by omega) (by decide) (show (4 : Int32) = nI 4 from rfl) d15
    refine E_al0 k33_16 ?_
    refine E_dupR k33_17 ?_
    refine E_get k33_18 hw0 rfl ?_
    refine E_iconst k33_19 ?_
    refine E_iadd k33_20 ?_
    refine E_put k33_21 hw0 (Nat.le_of_ble_eq_true rfl) (az_fiti rfl) ?_
    refine E_goto k33_22 ?_
    exact E_vret k33_31 hd33 rfl (by first | (simp only [if_pos hn4]; rw [nI_1]; rfl) | (simp only [if_neg hn4]; rfl))
set_option maxRecDepth 20000 in
theorem s_takeLatest {X : az_X} {w : az_W} {sz sl : Nat} {h q c r0 o n : Nat} {S T : az_S} (h0 : w h = .inr (3, [.ref q, .int (nI o), .int (nI (n + 1))])) (h1 : w q = .inl (4, 4, .inr (.inr (.inr (.inr (rwf r0)))))) (ho : o < 4) (hn : n < 4) (hb : BK w (r0 + 24 * ((o + n) % 4)) T) (hc : BK w c S) (hd : c + 24 ≤ r0 ∨ r0 + 96 ≤ c) (hh : h < r0 ∨ r0 + 96 ≤ h) (hh2 : h < c ∨ c + 24 ≤ h) (hqh : q ≠ h) (hv : SV T) : az_M X 34 [.ref h, .ref c] w sz sl (none, bw (va_up w h (.inr (3, [.ref q, .int (nI o), .int (nI n)]))) c (dCp T S), sz, sl) := by
  refine az_Mof hd34 ?_
  show az_Ev X 34 0 [.ref h, .ref c] [] w sz sl _
  refine E_al0 k34_0 ?_
  refine E_get k34_1 h0 rfl ?_
  refine E_ifle k34_2 (fun c2 => ?_) (fun d2 => ?_)
  · skip
    exact absurd c2 (nI_nle (Nat.succ_pos n) (by omega))
  · skip
    refine E_al0 k34_3 ?_
    refine E_dupR k34_4 ?_
    refine E_get k34_5 h0 rfl ?_
    refine E_iconst k34_6 ?_
    refine E_isub k34_7 ?_
    rw [nI_pred]
    refine E_put k34_8 h0 (Nat.le_of_ble_eq_true rfl) (az_fiti rfl) ?_
    refine E_al1 k34_9 ?_
    refine E_al0 k34_10 ?_
    refine E_get k34_11 up_eq rfl ?_
    refine E_al0 k34_12 ?_
    refine E_get k34_13 up_eq rfl ?_
    refine E_al0 k34_14 ?_
    refine E_get k34_15 up_eq rfl ?_
    refine E_iadd k34_16 ?_
    rw [nI_add]
    refine E_iconst k34_17 ?_
    refine E_cs2 k34_18 (Or.inl rfl) rfl rfl (s_floorMod4 (by omega)) ?_
    have hx : (o + n) % 4 < 4 := Nat.mod_lt _ (by decide)
    have hb2 : BK (va_up w h (.inr (3, [.ref q, .int (nI o), .int (nI n)]))) (r0 + 24 * ((o + n) % 4)) T := fun k hk => up_ne (hb k hk) (by omega)
    have hc2 : BK (va_up w h (.inr (3, [.ref q, .int (nI o), .int (nI n)]))) c S := fun k hk => up_ne (hc k hk) (by omega)
    have hcopy := s_stateCopy (X := X) (sz := sz) (sl := sl) (a := c) (S := S) hb2 (by omega) hv
    rw [bw_in hc2] at hcopy
    refine E_aald k34_19 (up_ne h1 hqh) (Or.inr rfl) hx (by decide) (rwf_at r0 hx) ?_
    refine E_cv1 k34_20 (Or.inl rfl) (hc2 0 (by decide)) cl82 rfl rfl hcopy ?_
    exact E_vret k34_21 hd34 rfl rfl
