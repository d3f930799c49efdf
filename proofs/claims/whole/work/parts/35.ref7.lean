/-! methods' runs, laid by wip/whole/walk.py out of wip/whole/specs20.py -/
/-! the reference's crash, finish, open -/
def tC1 (U : az_S) : az_S := va_up (tEnd (tDesk U)) 0 (fll (tEnd (tDesk U) 0) 111 0 40)
def tC2 (U : az_S) : az_S := va_up (tC1 U) 0 (upd (tC1 U 0) 151 (tC1 U 0 151 + 1))
theorem tC2_row {U : az_S} {k : Nat} (h : k < 93) : tC2 U 0 k = U 0 k := by
  unfold tC2 tC1 tEnd tDesk
  simp only [sU_eq, upd, fll]
  rw [if_neg (by omega), if_neg (by omega), if_neg (by omega), if_neg (by omega), if_neg (by omega), if_neg (by omega)]
def tCr (U : az_S) (mk : Nat) : Int32 × az_S := (tC2 U 0 (72 + 10 * mk + 0), tC2 U)
def tCs (T : az_S) (k mk : Nat) (b : Bool) : az_S := if b = true ∧ T 0 101 = 1 then tTe (tRec T k) mk else tRec T k
theorem tTe_92 {T : az_S} {mk : Nat} (hmk : mk ≤ 1) (hn : ¬ nF (T 0) mk 24 = -5 → (nF (T 0) mk 24).toNatClampNeg < 24) : tTe T mk 0 92 = T 0 92 := by
  unfold tTe
  split
  · split
    · rfl
    · rename_i h
      have := hn h
      rw [sU_eq]
      unfold wrR upd
      rw [if_neg (by omega), if_neg (by omega), if_neg (by omega)]
  · split
    · unfold tWt
      rw [sU_eq, wt_o (by omega) (by omega)]
    · rfl

set_option maxRecDepth 20000 in
theorem rf_crash12 {X : az_X} {w : az_W} {sz sl : Nat} {T : az_S} {mk : Nat} {x1 : Int32} {v2 : Value} (hm : T 0 92 = nI mk) (hk : mk ≤ 1) : az_Ev X 162 12 [.ref 151, .int x1, v2] [] (mw w T) sz sl (some (.int (tCr T mk).1), mw w (tCr T mk).2, sz, sl) := by
  refine E_al0 k162_12 ?_
  refine E_cv0 k162_13 (Or.inl rfl) mw_0 cl144 rfl rfl rf_clearsDesk ?_
  refine E_al0 k162_14 ?_
  refine E_cv0 k162_15 (Or.inl rfl) mw_0 cl153 rfl rfl rf_endsSwap ?_
  refine E_bipush k162_16 ?_
  refine E_is2 k162_17 rfl ?_
  have loop18 : ∀ j : Nat, j ≤ 40 → az_Ev X 162 18 [.ref 151, .int x1, .int (nI (111 + j))] [] (mw w (va_up (tEnd (tDesk T)) 0 (fll (tEnd (tDesk T) 0) 111 0 j))) sz sl (some (.int (tCr T mk).1), mw w (tCr T mk).2, sz, sl) := by
    refine az_ind 40 _ (fun j hj18 ih18 => ?_)
    refine E_il2 k162_18 ?_
    refine E_sipush k162_19 ?_
    refine E_icge k162_20 (fun c20 => ?_) (fun d20 => ?_)
    · skip
      have he := lp_t (j := 111 + j) (by omega) (by decide) (show (151 : Int32) = nI 151 from rfl) c20
      have he2 : j = 40 := by omega
      subst he2
      refine E_al0 k162_28 ?_
      refine E_get k162_29 mw_0 rfl ?_
      refine E_sipush k162_30 ?_
      refine E_dup2 k162_31 ?_
      refine E_alx k162_32 (show (151 : Int32) = nI 151 from rfl) rfl mw_1 (by omega) (by decide) ?_
      refine E_iconst k162_33 ?_
      refine E_iadd k162_34 ?_
      refine E_asx k162_35 (show (151 : Int32) = nI 151 from rfl) mw_1 (by omega) (by decide) ?_
      rw [mu_1]
      show az_Ev X 162 36 _ _ (mw w (tC2 T)) _ _ _
      refine E_al0 k162_36 ?_
      refine E_iconst k162_37 ?_
      refine E_cv1 k162_38 (Or.inl rfl) mw_0 cl133 rfl rfl (r_old mw_0 mw_1 ((tC2_row (by omega)).trans hm) hk (show (0 : Int32) = nI 0 from rfl) (by omega)) ?_
      exact E_iret k162_39 hd162 rfl rfl
    · skip
      have hl := lp_f (j := 111 + j) (by omega) (by decide) (show (151 : Int32) = nI 151 from rfl) d20
      have hlt18 : j < 40 := by omega
      refine E_al0 k162_21 ?_
      refine E_get k162_22 mw_0 rfl ?_
      refine E_il2 k162_23 ?_
      refine E_iconst k162_24 ?_
      refine E_asx k162_25 rfl mw_1 (by omega) (by decide) ?_
      rw [mu_1]
      refine E_inc2 k162_26 rfl ?_
      refine E_goto k162_27 ?_
      exact ev_cong (ih18 hlt18) (by rw [nI_1]; rfl) rfl mf_s
  exact ev_cong (loop18 0 (Nat.zero_le _)) rfl rfl mf_0
set_option maxRecDepth 20000 in
theorem rf_crash {X : az_X} {w : az_W} {sz sl : Nat} {T : az_S} {k mk : Nat} {b : Bool} (hp : T 5 0 = nI k) (hk : k ≤ 4) (hm : T 0 92 = nI mk) (hmk : mk ≤ 1) : az_M X 162 [.ref 151, .int (zb b)] (mw w T) sz sl (some (.int (tCr (tCs T k mk b) mk).1), mw w (tCr (tCs T k mk b) mk).2, sz, sl) := by
  refine az_Mof hd162 ?_
  show az_Ev X 162 0 [.ref 151, .int (zb b), .null] [] (mw w T) sz sl _
  refine E_al0 k162_0 ?_
  refine E_cv0 k162_1 (Or.inl rfl) mw_0 cl131 rfl rfl (rf_records hp hk) ?_
  refine E_il1 k162_2 ?_
  refine E_zeq k162_3 (fun c3 => ?_) (fun d3 => ?_)
  · skip
    first | (subst c3; rw [show tCs T k mk false = tRec T k from if_neg (fun z => nomatch z.1)]; exact rf_crash12 (by rw [tRec_0]; exact hm) hmk) | (have h9 := c9; rw [tRec_0] at h9; rw [show tCs T k mk b = tRec T k from if_neg (fun z => h9 z.2)]; exact rf_crash12 (by rw [tRec_0]; exact hm) hmk) | (have h9 := Classical.not_not.mp d9; rw [tRec_0] at h9; rw [show tCs T k mk b = tTe (tRec T k) mk from if_pos ⟨d3, h9⟩]; exact rf_crash12 ((tTe_92 hmk (fun z => (nF_c (by omega) z).2)).trans (by rw [tRec_0]; exact hm)) hmk)
  · skip
    refine E_al0 k162_4 ?_
    refine E_get k162_5 mw_0 rfl ?_
    refine E_bipush k162_6 ?_
    refine E_alx k162_7 (show (101 : Int32) = nI 101 from rfl) rfl mw_1 (by omega) (by decide) ?_
    refine E_iconst k162_8 ?_
    refine E_icne k162_9 (fun c9 => ?_) (fun d9 => ?_)
    · skip
      first | (subst c3; rw [show tCs T k mk false = tRec T k from if_neg (fun z => nomatch z.1)]; exact rf_crash12 (by rw [tRec_0]; exact hm) hmk) | (have h9 := c9; rw [tRec_0] at h9; rw [show tCs T k mk b = tRec T k from if_neg (fun z => h9 z.2)]; exact rf_crash12 (by rw [tRec_0]; exact hm) hmk) | (have h9 := Classical.not_not.mp d9; rw [tRec_0] at h9; rw [show tCs T k mk b = tTe (tRec T k) mk from if_pos ⟨d3, h9⟩]; exact rf_crash12 ((tTe_92 hmk (fun z => (nF_c (by omega) z).2)).trans (by rw [tRec_0]; exact hm)) hmk)
    · skip
      refine E_al0 k162_10 ?_
      refine E_cv0 k162_11 (Or.inl rfl) mw_0 cl161 rfl rfl (rf_tears (by rw [tRec_0]; exact hm) hmk) ?_
      first | (subst c3; rw [show tCs T k mk false = tRec T k from if_neg (fun z => nomatch z.1)]; exact rf_crash12 (by rw [tRec_0]; exact hm) hmk) | (have h9 := c9; rw [tRec_0] at h9; rw [show tCs T k mk b = tRec T k from if_neg (fun z => h9 z.2)]; exact rf_crash12 (by rw [tRec_0]; exact hm) hmk) | (have h9 := Classical.not_not.mp d9; rw [tRec_0] at h9; rw [show tCs T k mk b = tTe (tRec T k) mk from if_pos ⟨d3, h9⟩]; exact rf_crash12 ((tTe_92 hmk (fun z => (nF_c (by omega) z).2)).trans (by rw [tRec_0]; exact hm)) hmk)
