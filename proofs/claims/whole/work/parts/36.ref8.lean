/-! methods' runs, laid by wip/whole/walk.py out of wip/whole/specs21.py -/
/-! the reference opens a reader -/
def opF (f : Nat → Int32) (mk b j : Nat) : Nat → Int32 := fun k => if b + 2 ≤ k ∧ k < b + 2 + j then f (72 + 10 * mk + (2 + (k - (b + 2)))) else upd (upd f b 1) (b + 1) (f (72 + 10 * mk + 0)) k
theorem opF_o {f : Nat → Int32} {mk b j k : Nat} (h : k < b) : opF f mk b j k = f k := by
  unfold opF upd
  rw [if_neg (by omega), if_neg (by omega), if_neg (by omega)]
theorem opF_0 {f : Nat → Int32} {mk b : Nat} : opF f mk b 0 = upd (upd f b 1) (b + 1) (f (72 + 10 * mk + 0)) := by
  funext k
  unfold opF
  rw [if_neg (by omega)]
theorem opF_s {f : Nat → Int32} {mk b j : Nat} : upd (opF f mk b j) (b + 2 + j) (f (72 + 10 * mk + (2 + j))) = opF f mk b (j + 1) := by
  funext k
  by_cases h : k = b + 2 + j
  · subst h
    unfold opF
    rw [if_pos (by omega), show b + 2 + j - (b + 2) = j by omega]
    simp [upd]
  · have h0 : upd (opF f mk b j) (b + 2 + j) (f (72 + 10 * mk + (2 + j))) k = opF f mk b j k := by simp [upd, h]
    rw [h0]
    unfold opF
    by_cases h2 : b + 2 ≤ k ∧ k < b + 2 + j
    · rw [if_pos h2, if_pos (by omega)]
    · rw [if_neg h2, if_neg (by omega)]
def tOp (T : az_S) (k mk r : Nat) : az_S := va_up (tRec T k) 0 (opF (T 0) mk (111 + 10 * r) 8)

set_option maxRecDepth 20000 in
theorem rf_open0 {X : az_X} {w : az_W} {sz sl : Nat} {T : az_S}  (hn : nI (rdR (T 0)) = 4) : az_M X 164 [.ref 151] (mw w T) sz sl (some (.int (-3)), mw w T, sz, sl) := by
  refine az_Mof hd164 ?_
  show az_Ev X 164 0 [.ref 151, .null, .null, .null] [] (mw w T) sz sl _
  refine E_al0 k164_0 ?_
  refine E_cv0 k164_1 (Or.inl rfl) mw_0 cl163 rfl rfl (r_readers mw_0 mw_1) ?_
  refine E_iconst k164_2 ?_
  refine E_icne k164_3 (fun c3 => ?_) (fun d3 => ?_)
  · skip
    exact absurd hn c3
  · skip
    refine E_bipush k164_4 ?_
    exact E_iret k164_5 hd164 rfl rfl
set_option maxRecDepth 20000 in
theorem rf_open1 {X : az_X} {w : az_W} {sz sl : Nat} {T : az_S} {k mk r : Nat} (hp : T 5 0 = nI k) (hk : k ≤ 4) (hm : T 0 92 = nI mk) (hmk : mk ≤ 1) (hn : ¬ nI (rdR (T 0)) = 4) (hr : r < 4) (hf : isR (T 0) (nI r) = false) (hmin : ∀ i, i < r → isR (T 0) (nI i) = true) : az_M X 164 [.ref 151] (mw w T) sz sl (some (.int (nI r)), mw w (tOp T k mk r), sz, sl) := by
  refine az_Mof hd164 ?_
  show az_Ev X 164 0 [.ref 151, .null, .null, .null] [] (mw w T) sz sl _
  refine E_al0 k164_0 ?_
  refine E_cv0 k164_1 (Or.inl rfl) mw_0 cl163 rfl rfl (r_readers mw_0 mw_1) ?_
  refine E_iconst k164_2 ?_
  refine E_icne k164_3 (fun c3 => ?_) (fun d3 => ?_)
  · skip
    refine E_al0 k164_6 ?_
    refine E_cv0 k164_7 (Or.inl rfl) mw_0 cl131 rfl rfl (rf_records hp hk) ?_
    refine E_iconst k164_8 ?_
    refine E_is1 k164_9 rfl ?_
    have loop10 : ∀ j : Nat, j ≤ r → az_Ev X 164 10 [.ref 151, .int (nI j), .null, .null] [] (mw w (tRec T k)) sz sl (some (.int (nI r)), mw w (tOp T k mk r), sz, sl) := by
      refine az_ind r _ (fun j hj10 ih10 => ?_)
      refine E_al0 k164_10 ?_
      refine E_il1 k164_11 ?_
      refine E_cv1 k164_12 (Or.inl rfl) mw_0 cl134 rfl rfl (r_isReader mw_0 mw_1) ?_
      rw [tRec_0]
      refine E_zeq k164_13 (fun c13 => ?_) (fun d13 => ?_)
      · skip
        have he : r = j := by
          rcases Nat.lt_or_ge j r with z | z
          · rw [hmin j z] at c13; cases c13
          · omega
        subst he
        refine E_bipush k164_16 ?_
        refine E_bipush k164_17 ?_
        refine E_il1 k164_18 ?_
        refine E_imul k164_19 ?_
        refine E_iadd k164_20 ?_
        refine E_is2 k164_21 rfl ?_
        refine E_al0 k164_22 ?_
        refine E_get k164_23 mw_0 rfl ?_
        refine E_il2 k164_24 ?_
        refine E_iconst k164_25 ?_
        refine E_asx k164_26 (ixa (show (111 : Int32) = nI 111 from rfl) (ixm (show (10 : Int32) = nI 10 from rfl) rfl)) mw_1 (by omega) (by decide) ?_
        rw [mu_1]
        have hm1 : va_up (tRec T k) 0 (upd (tRec T k 0) (111 + 10 * r) 1) 0 92 = nI mk := by
          rw [sU_eq, tRec_0]
          unfold upd
          rw [if_neg (by omega)]
          exact hm
        have rd0 : va_up (tRec T k) 0 (upd (tRec T k 0) (111 + 10 * r) 1) 0 (72 + 10 * mk + 0) = T 0 (72 + 10 * mk + 0) := by
          rw [sU_eq, tRec_0]
          unfold upd
          rw [if_neg (by omega)]
        refine E_al0 k164_27 ?_
        refine E_get k164_28 mw_0 rfl ?_
        refine E_il2 k164_29 ?_
        refine E_iconst k164_30 ?_
        refine E_iadd k164_31 ?_
        refine E_al0 k164_32 ?_
        refine E_iconst k164_33 ?_
        refine E_cv1 k164_34 (Or.inl rfl) mw_0 cl133 rfl rfl (r_old mw_0 mw_1 hm1 hmk (show (0 : Int32) = nI 0 from rfl) (by omega)) ?_
        rw [rd0]
        refine E_asx k164_35 (ixa (ixa (show (111 : Int32) = nI 111 from rfl) (ixm (show (10 : Int32) = nI 10 from rfl) rfl)) (show (1 : Int32) = nI 1 from rfl)) mw_1 (by omega) (by decide) ?_
        rw [mu_1]
        refine E_iconst k164_36 ?_
        refine E_is3 k164_37 rfl ?_
        have loop38 : ∀ j : Nat, j ≤ 8 → az_Ev X 164 38 [.ref 151, .int (nI r), .int (111 + 10 * nI r), .int (nI j)] [] (mw w (va_up (tRec T k) 0 (opF (T 0) mk (111 + 10 * r) j))) sz sl (some (.int (nI r)), mw w (tOp T k mk r), sz, sl) := by
          refine az_ind 8 _ (fun j hj38 ih38 => ?_)
          refine E_il3 k164_38 ?_
          refine E_bipush k164_39 ?_
          refine E_icge k164_40 (fun c40 => ?_) (fun d40 => ?_)
          · skip
            have he38 := lp_t hj38 (by decide) rfl c40
            subst he38
            refine E_il1 k164_56 ?_
            exact E_iret k164_57 hd164 rfl rfl
          · skip
            have hlt38 : j < 8 := lp_f (by omega) (by decide) rfl d40
            have hmj : va_up (tRec T k) 0 (opF (T 0) mk (111 + 10 * r) j) 0 92 = nI mk := by rw [sU_eq, opF_o (by omega)]; exact hm
            have rdj : va_up (tRec T k) 0 (opF (T 0) mk (111 + 10 * r) j) 0 (72 + 10 * mk + (2 + j)) = T 0 (72 + 10 * mk + (2 + j)) := by rw [sU_eq, opF_o (by omega)]
            refine E_al0 k164_41 ?_
            refine E_get k164_42 mw_0 rfl ?_
            refine E_il2 k164_43 ?_
            refine E_iconst k164_44 ?_
            refine E_iadd k164_45 ?_
            refine E_il3 k164_46 ?_
            refine E_iadd k164_47 ?_
            refine E_al0 k164_48 ?_
            refine E_iconst k164_49 ?_
            refine E_il3 k164_50 ?_
            refine E_iadd k164_51 ?_
            refine E_cv1 k164_52 (Or.inl rfl) mw_0 cl133 rfl rfl (r_old mw_0 mw_1 hmj hmk (ixa (show (2 : Int32) = nI 2 from rfl) rfl) (by omega)) ?_
            rw [rdj]
            refine E_asx k164_53 (ixa (ixa (ixa (show (111 : Int32) = nI 111 from rfl) (ixm (show (10 : Int32) = nI 10 from rfl) rfl)) (show (2 : Int32) = nI 2 from rfl)) rfl) mw_1 (by omega) (by decide) ?_
            rw [mu_1]
            refine E_inc3 k164_54 rfl ?_
            refine E_goto k164_55 ?_
            exact ev_cong (ih38 hlt38) (by rw [nI_1]) rfl (by rw [sU_sU, sU_eq, opF_s])
        exact ev_cong (loop38 0 (Nat.zero_le _)) rfl rfl (by rw [opF_0, sU_sU, sU_eq, tRec_0])
      · skip
        have hlt10 : j < r := by
          rcases Nat.lt_or_ge j r with z | z
          · exact z
          · rw [show j = r by omega, hf] at d13; cases d13
        refine E_inc1 k164_14 rfl ?_
        refine E_goto k164_15 ?_
        exact ev_cong (ih10 hlt10) (by rw [nI_1]) rfl rfl
    exact ev_cong (loop10 0 (Nat.zero_le _)) rfl rfl rfl
  · skip
    exact absurd (Classical.not_not.mp d3) hn
