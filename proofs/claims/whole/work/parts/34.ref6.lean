/-! methods' runs, laid by wip/whole/walk.py out of wip/whole/specs19.py -/
/-! the reference's steps -/
/-- what the new table gets for a page -/
def nvR (f : Nat → Int32) (mk p : Nat) : Int32 := if f (93 + p) < 0 then (if f (93 + p) = -6 then -5 else f (72 + 10 * mk + (2 + p))) else f (103 + p)
def wtF (f : Nat → Int32) (mk : Nat) (x : Int32) (j : Nat) : Nat → Int32 := fun k => if 72 + 10 * (1 - mk) + 2 ≤ k ∧ k < 72 + 10 * (1 - mk) + 2 + j then nvR f mk (k - (72 + 10 * (1 - mk) + 2)) else upd (upd f (72 + 10 * (1 - mk) + 0) (f (72 + 10 * mk + 0) + 1)) (72 + 10 * (1 - mk) + 1) x k
theorem wt_o {f : Nat → Int32} {mk j k : Nat} {x : Int32} (hj : j ≤ 8) (hk : k < 72 + 10 * (1 - mk) ∨ 72 + 10 * (1 - mk) + 10 ≤ k) : wtF f mk x j k = f k := by
  unfold wtF upd
  rw [if_neg (by omega), if_neg (by omega), if_neg (by omega)]
theorem wt_0 {f : Nat → Int32} {mk : Nat} {x : Int32} : wtF f mk x 0 = upd (upd f (72 + 10 * (1 - mk) + 0) (f (72 + 10 * mk + 0) + 1)) (72 + 10 * (1 - mk) + 1) x := by
  funext k
  unfold wtF
  rw [if_neg (by omega)]
theorem wt_s {f : Nat → Int32} {mk j : Nat} {x v : Int32} (hv : v = nvR f mk j) : upd (wtF f mk x j) (72 + 10 * (1 - mk) + 2 + j) v = wtF f mk x (j + 1) := by
  subst hv
  funext k
  by_cases h : k = 72 + 10 * (1 - mk) + 2 + j
  · subst h
    unfold wtF
    rw [if_pos (by omega), show 72 + 10 * (1 - mk) + 2 + j - (72 + 10 * (1 - mk) + 2) = j by omega]
    simp [upd]
  · have h0 : upd (wtF f mk x j) (72 + 10 * (1 - mk) + 2 + j) (nvR f mk j) k = wtF f mk x j k := by simp [upd, h]
    rw [h0]
    unfold wtF
    by_cases h2 : 72 + 10 * (1 - mk) + 2 ≤ k ∧ k < 72 + 10 * (1 - mk) + 2 + j
    · rw [if_pos h2, if_pos (by omega)]
    · rw [if_neg h2, if_neg (by omega)]
def tWt (T : az_S) (mk : Nat) (x : Int32) : az_S := va_up T 0 (wtF (T 0) mk x 8)
theorem stK {a b c : Value} {y y' : Int32} {l : List Value} (h2 : y = y') : a :: b :: c :: .int y :: l = a :: b :: c :: .int y' :: l := by rw [h2]
theorem pq_c {f : Nat → Int32} {x : Int32} (h : ¬ pqR f x = -5) : pqR f x = nI (pqR f x).toNatClampNeg ∧ (pqR f x).toNatClampNeg < 8 := by
  rcases fi_cases (qR f x) 8 with ⟨j, hj, -, -, h2⟩ | ⟨-, h2⟩
  · have e : pqR f x = nI j := h2
    rw [e, nI_clamp (by omega)]
    exact ⟨rfl, hj⟩
  · exact absurd h2 h
theorem cs_2 {f : Nat → Int32} {mk : Nat} (h : csR f mk = true) (h2 : ¬ pqR f (f 102) = -5) : ¬ nF f mk 24 = -5 := by
  intro z
  rw [csR, decide_eq_false h2, decide_eq_false (fun q => q z)] at h
  cases h
def tG1 (T : az_S) (g : Nat → Int32) : az_S := va_up T 0 (upd g 102 (g 102 + 1))
def tG3 (T : az_S) (g : Nat → Int32) : az_S := tEnd (tDesk (va_up T 0 (upd g 152 (g 152 + 1))))
def tGo (T : az_S) (mk : Nat) : az_S := if ¬ pqR (T 0) (T 0 102) = -5 then tG1 T (upd (wrR (T 0) (nF (T 0) mk 24).toNatClampNeg (T 0 (93 + (pqR (T 0) (T 0 102)).toNatClampNeg)) 0) (103 + (pqR (T 0) (T 0 102)).toNatClampNeg) (nF (T 0) mk 24)) else if T 0 102 = nI (cR (T 0)) then tG1 T (wtF (T 0) mk 0 8) else tG3 T (upd (T 0) 92 (1 - T 0 92))
def tTe (T : az_S) (mk : Nat) : az_S := if ¬ pqR (T 0) (T 0 102) = -5 then (if nF (T 0) mk 24 = -5 then T else va_up T 0 (wrR (T 0) (nF (T 0) mk 24).toNatClampNeg (T 0 (93 + (pqR (T 0) (T 0 102)).toNatClampNeg)) 1)) else if T 0 102 = nI (cR (T 0)) then tWt T mk 1 else T
def tSt (T : az_S) (k mk : Nat) : Int32 × az_S := if T 0 101 = 0 then (-5, T) else if csR (T 0) mk = false then (-3, T) else (owR (tGo (tRec T k) mk 0), tGo (tRec T k) mk)
def tClo (T : az_S) (k : Nat) (r : Int32) : Int32 × az_S := if isR (T 0) r = false then (-1, T) else (nI (rdR (fll (T 0) (111 + 10 * r.toNatClampNeg) 0 10)), va_up (tRec T k) 0 (fll (T 0) (111 + 10 * r.toNatClampNeg) 0 10))

set_option maxRecDepth 20000 in
theorem rf_writesTable {X : az_X} {w : az_W} {sz sl : Nat} {T : az_S} {mk : Nat} {x : Int32} (hm : T 0 92 = nI mk) (hk : mk ≤ 1) : az_M X 154 [.ref 151, .int x] (mw w T) sz sl (none, mw w (tWt T mk x), sz, sl) := by
  refine az_Mof hd154 ?_
  show az_Ev X 154 0 [.ref 151, .int x, .null, .null, .null] [] (mw w T) sz sl _
  refine E_bipush k154_0 ?_
  refine E_bipush k154_1 ?_
  refine E_iconst k154_2 ?_
  refine E_al0 k154_3 ?_
  refine E_get k154_4 mw_0 rfl ?_
  refine E_bipush k154_5 ?_
  refine E_alx k154_6 (show (92 : Int32) = nI 92 from rfl) rfl mw_1 (by omega) (by decide) ?_
  refine E_isub k154_7 ?_
  refine E_imul k154_8 ?_
  refine E_iadd k154_9 ?_
  refine E_is2 k154_10 rfl ?_
  refine E_al0 k154_11 ?_
  refine E_get k154_12 mw_0 rfl ?_
  refine E_il2 k154_13 ?_
  refine E_iconst k154_14 ?_
  refine E_iadd k154_15 ?_
  refine E_al0 k154_16 ?_
  refine E_iconst k154_17 ?_
  refine E_cv1 k154_18 (Or.inl rfl) mw_0 cl133 rfl rfl (r_old mw_0 mw_1 hm hk (show (0 : Int32) = nI 0 from rfl) (by omega)) ?_
  refine E_iconst k154_19 ?_
  refine E_iadd k154_20 ?_
  refine E_asx k154_21 (ixa (ixa (show (72 : Int32) = nI 72 from rfl) (ixm (show (10 : Int32) = nI 10 from rfl) (ixs (show (1 : Int32) = nI 1 from rfl) hm hk))) (show (0 : Int32) = nI 0 from rfl)) mw_1 (by omega) (by decide) ?_
  rw [mu_1]
  refine E_al0 k154_22 ?_
  refine E_get k154_23 mw_0 rfl ?_
  refine E_il2 k154_24 ?_
  refine E_iconst k154_25 ?_
  refine E_iadd k154_26 ?_
  refine E_il1 k154_27 ?_
  refine E_asx k154_28 (ixa (ixa (show (72 : Int32) = nI 72 from rfl) (ixm (show (10 : Int32) = nI 10 from rfl) (ixs (show (1 : Int32) = nI 1 from rfl) hm hk))) (show (1 : Int32) = nI 1 from rfl)) mw_1 (by omega) (by decide) ?_
  rw [mu_1]
  refine E_iconst k154_29 ?_
  refine E_is3 k154_30 rfl ?_
  have loop31 : ∀ j : Nat, j ≤ 8 → ∀ v4 : Value, az_Ev X 154 31 [.ref 151, .int x, .int (72 + 10 * (1 - T 0 92)), .int (nI j), v4] [] (mw w (va_up T 0 (wtF (T 0) mk x j))) sz sl (none, mw w (tWt T mk x), sz, sl) := by
    refine az_ind 8 _ (fun j hj31 ih31 => ?_)
    intro v4
    refine E_il3 k154_31 ?_
    refine E_bipush k154_32 ?_
    refine E_icge k154_33 (fun c33 => ?_) (fun d33 => ?_)
    · skip
      have he31 := lp_t hj31 (by decide) rfl c33
      subst he31
      exact E_vret k154_70 hd154 rfl rfl
    · skip
      have hlt31 : j < 8 := lp_f (by omega) (by decide) rfl d33
      have rd1 : va_up T 0 (wtF (T 0) mk x j) 0 (93 + j) = T 0 (93 + j) := by rw [sU_eq]; exact wt_o (by omega) (by omega)
      have rd2 : va_up T 0 (wtF (T 0) mk x j) 0 (103 + j) = T 0 (103 + j) := by rw [sU_eq]; exact wt_o (by omega) (by omega)
      have rd3 : va_up T 0 (wtF (T 0) mk x j) 0 (72 + 10 * mk + (2 + j)) = T 0 (72 + 10 * mk + (2 + j)) := by rw [sU_eq]; exact wt_o (by omega) (by omega)
      have hmj : va_up T 0 (wtF (T 0) mk x j) 0 92 = nI mk := by rw [sU_eq, wt_o (by omega) (by omega)]; exact hm
      refine E_al0 k154_34 ?_
      refine E_get k154_35 mw_0 rfl ?_
      refine E_bipush k154_36 ?_
      refine E_il3 k154_37 ?_
      refine E_iadd k154_38 ?_
      refine E_alx k154_39 (ixa (show (93 : Int32) = nI 93 from rfl) rfl) rfl mw_1 (by omega) (by decide) ?_
      rw [rd1]
      refine E_is4 k154_40 rfl ?_
      refine E_al0 k154_41 ?_
      refine E_get k154_42 mw_0 rfl ?_
      refine E_il2 k154_43 ?_
      refine E_iconst k154_44 ?_
      refine E_iadd k154_45 ?_
      refine E_il3 k154_46 ?_
      refine E_iadd k154_47 ?_
      refine E_il4 k154_48 ?_
      refine E_iflt k154_49 (fun c49 => ?_) (fun d49 => ?_)
      · skip
        refine E_il4 k154_57 ?_
        refine E_bipush k154_58 ?_
        refine E_icne k154_59 (fun c59 => ?_) (fun d59 => ?_)
        · skip
          refine E_al0 k154_62 ?_
          refine E_iconst k154_63 ?_
          refine E_il3 k154_64 ?_
          refine E_iadd k154_65 ?_
          refine E_cv1 k154_66 (Or.inl rfl) mw_0 cl133 rfl rfl (r_old mw_0 mw_1 hmj hk (ixa (show (2 : Int32) = nI 2 from rfl) rfl) (by omega)) ?_
          try rw [rd3]
          refine E_asx k154_67 (ixa (ixa (ixa (show (72 : Int32) = nI 72 from rfl) (ixm (show (10 : Int32) = nI 10 from rfl) (ixs (show (1 : Int32) = nI 1 from rfl) hm hk))) (show (2 : Int32) = nI 2 from rfl)) rfl) mw_1 (by omega) (by decide) ?_
          rw [mu_1]
          refine E_inc3 k154_68 rfl ?_
          refine E_goto k154_69 ?_
          exact ev_cong (ih31 hlt31 _) (stK (nI_1 _)) rfl (by rw [sU_sU, sU_eq]; exact congrArg (fun g => mw w (va_up T 0 g)) (wt_s (by first | (rw [nvR, if_neg d49] <;> rfl) | (rw [nvR, if_pos c49, if_pos (Classical.not_not.mp d59)] <;> rfl) | (rw [nvR, if_pos c49, if_neg c59] <;> rfl))))
        · skip
          refine E_bipush k154_60 ?_
          refine E_goto k154_61 ?_
          try rw [rd3]
          refine E_asx k154_67 (ixa (ixa (ixa (show (72 : Int32) = nI 72 from rfl) (ixm (show (10 : Int32) = nI 10 from rfl) (ixs (show (1 : Int32) = nI 1 from rfl) hm hk))) (show (2 : Int32) = nI 2 from rfl)) rfl) mw_1 (by omega) (by decide) ?_
          rw [mu_1]
          refine E_inc3 k154_68 rfl ?_
          refine E_goto k154_69 ?_
          exact ev_cong (ih31 hlt31 _) (stK (nI_1 _)) rfl (by rw [sU_sU, sU_eq]; exact congrArg (fun g => mw w (va_up T 0 g)) (wt_s (by first | (rw [nvR, if_neg d49] <;> rfl) | (rw [nvR, if_pos c49, if_pos (Classical.not_not.mp d59)] <;> rfl) | (rw [nvR, if_pos c49, if_neg c59] <;> rfl))))
      · skip
        refine E_al0 k154_50 ?_
        refine E_get k154_51 mw_0 rfl ?_
        refine E_bipush k154_52 ?_
        refine E_il3 k154_53 ?_
        refine E_iadd k154_54 ?_
        refine E_alx k154_55 (ixa (show (103 : Int32) = nI 103 from rfl) rfl) rfl mw_1 (by omega) (by decide) ?_
        rw [rd2]
        refine E_goto k154_56 ?_
        try rw [rd3]
        refine E_asx k154_67 (ixa (ixa (ixa (show (72 : Int32) = nI 72 from rfl) (ixm (show (10 : Int32) = nI 10 from rfl) (ixs (show (1 : Int32) = nI 1 from rfl) hm hk))) (show (2 : Int32) = nI 2 from rfl)) rfl) mw_1 (by omega) (by decide) ?_
        rw [mu_1]
        refine E_inc3 k154_68 rfl ?_
        refine E_goto k154_69 ?_
        exact ev_cong (ih31 hlt31 _) (stK (nI_1 _)) rfl (by rw [sU_sU, sU_eq]; exact congrArg (fun g => mw w (va_up T 0 g)) (wt_s (by first | (rw [nvR, if_neg d49] <;> rfl) | (rw [nvR, if_pos c49, if_pos (Classical.not_not.mp d59)] <;> rfl) | (rw [nvR, if_pos c49, if_neg c59] <;> rfl))))
  exact ev_cong (loop31 0 (Nat.zero_le _) _) rfl rfl (by rw [wt_0, sU_sU, sU_eq])
set_option maxRecDepth 20000 in
theorem rf_steps {X : az_X} {w : az_W} {sz sl : Nat} {T : az_S} {mk : Nat} (hm : T 0 92 = nI mk) (hk : mk ≤ 1) (hcs : csR (T 0) mk = true) : az_M X 156 [.ref 151] (mw w T) sz sl (none, mw w (tGo T mk), sz, sl) := by
  refine az_Mof hd156 ?_
  show az_Ev X 156 0 [.ref 151, .null, .null] [] (mw w T) sz sl _
  refine E_al0 k156_0 ?_
  refine E_al0 k156_1 ?_
  refine E_get k156_2 mw_0 rfl ?_
  refine E_bipush k156_3 ?_
  refine E_alx k156_4 (show (102 : Int32) = nI 102 from rfl) rfl mw_1 (by omega) (by decide) ?_
  refine E_cv1 k156_5 (Or.inl rfl) mw_0 cl152 rfl rfl (r_pageOf mw_0 mw_1) ?_
  refine E_is1 k156_6 rfl ?_
  refine E_il1 k156_7 ?_
  refine E_bipush k156_8 ?_
  refine E_iceq k156_9 (fun c9 => ?_) (fun d9 => ?_)
  · skip
    refine E_al0 k156_39 ?_
    refine E_get k156_40 mw_0 rfl ?_
    refine E_bipush k156_41 ?_
    refine E_alx k156_42 (show (102 : Int32) = nI 102 from rfl) rfl mw_1 (by omega) (by decide) ?_
    refine E_al0 k156_43 ?_
    refine E_cv0 k156_44 (Or.inl rfl) mw_0 cl150 rfl rfl (r_contents mw_0 mw_1) ?_
    refine E_icne k156_45 (fun c45 => ?_) (fun d45 => ?_)
    · skip
      refine E_al0 k156_58 ?_
      refine E_get k156_59 mw_0 rfl ?_
      refine E_bipush k156_60 ?_
      refine E_iconst k156_61 ?_
      refine E_al0 k156_62 ?_
      refine E_get k156_63 mw_0 rfl ?_
      refine E_bipush k156_64 ?_
      refine E_alx k156_65 (show (92 : Int32) = nI 92 from rfl) rfl mw_1 (by omega) (by decide) ?_
      refine E_isub k156_66 ?_
      refine E_asx k156_67 (show (92 : Int32) = nI 92 from rfl) mw_1 (by omega) (by decide) ?_
      rw [mu_1]
      refine E_al0 k156_68 ?_
      refine E_get k156_69 mw_0 rfl ?_
      refine E_sipush k156_70 ?_
      refine E_dup2 k156_71 ?_
      refine E_alx k156_72 (show (152 : Int32) = nI 152 from rfl) rfl mw_1 (by omega) (by decide) ?_
      refine E_iconst k156_73 ?_
      refine E_iadd k156_74 ?_
      refine E_asx k156_75 (show (152 : Int32) = nI 152 from rfl) mw_1 (by omega) (by decide) ?_
      rw [mu_1]
      refine E_al0 k156_76 ?_
      refine E_cv0 k156_77 (Or.inl rfl) mw_0 cl144 rfl rfl rf_clearsDesk ?_
      refine E_al0 k156_78 ?_
      refine E_cv0 k156_79 (Or.inl rfl) mw_0 cl153 rfl rfl rf_endsSwap ?_
      exact E_vret k156_80 hd156 rfl (by first | (rw [tGo, if_pos d9] <;> (simp only [sU_sU, sU_eq] <;> rfl)) | (rw [tGo, if_neg (fun z => z c9), if_pos (Classical.not_not.mp d45)] <;> (simp only [tWt, sU_sU, sU_eq] <;> rfl)) | (rw [tGo, if_neg (fun z => z c9), if_neg c45] <;> (simp only [sU_sU, sU_eq] <;> rfl)))
    · skip
      refine E_al0 k156_46 ?_
      refine E_iconst k156_47 ?_
      refine E_cv1 k156_48 (Or.inl rfl) mw_0 cl154 rfl rfl (rf_writesTable hm hk) ?_
      refine E_al0 k156_49 ?_
      refine E_get k156_50 mw_0 rfl ?_
      refine E_bipush k156_51 ?_
      refine E_dup2 k156_52 ?_
      refine E_alx k156_53 (show (102 : Int32) = nI 102 from rfl) rfl mw_1 (by omega) (by decide) ?_
      refine E_iconst k156_54 ?_
      refine E_iadd k156_55 ?_
      refine E_asx k156_56 (show (102 : Int32) = nI 102 from rfl) mw_1 (by omega) (by decide) ?_
      rw [mu_1]
      refine E_goto k156_57 ?_
      exact E_vret k156_80 hd156 rfl (by first | (rw [tGo, if_pos d9] <;> (simp only [sU_sU, sU_eq] <;> rfl)) | (rw [tGo, if_neg (fun z => z c9), if_pos (Classical.not_not.mp d45)] <;> (simp only [tWt, sU_sU, sU_eq] <;> rfl)) | (rw [tGo, if_neg (fun z => z c9), if_neg c45] <;> (simp only [sU_sU, sU_eq] <;> rfl)))
  · skip
    have hpp := pq_c d9
    have hcc := nF_c (n := 24) (by omega) (cs_2 hcs d9)
    refine E_al0 k156_10 ?_
    refine E_cv0 k156_11 (Or.inl rfl) mw_0 cl141 rfl rfl (r_nextFree mw_0 mw_1 hm hk) ?_
    refine E_is2 k156_12 rfl ?_
    refine E_al0 k156_13 ?_
    refine E_il2 k156_14 ?_
    refine E_al0 k156_15 ?_
    refine E_get k156_16 mw_0 rfl ?_
    refine E_bipush k156_17 ?_
    refine E_il1 k156_18 ?_
    refine E_iadd k156_19 ?_
    refine E_alx k156_20 (ixa (show (93 : Int32) = nI 93 from rfl) hpp.1) rfl mw_1 (by omega) (by decide) ?_
    refine E_iconst k156_21 ?_
    refine E_cv3 k156_22 (Or.inl rfl) mw_0 cl142 rfl rfl (rf_writes hcc.1 hcc.2) ?_
    refine E_al0 k156_23 ?_
    refine E_get k156_24 mw_0 rfl ?_
    refine E_bipush k156_25 ?_
    refine E_il1 k156_26 ?_
    refine E_iadd k156_27 ?_
    refine E_il2 k156_28 ?_
    refine E_asx k156_29 (ixa (show (103 : Int32) = nI 103 from rfl) hpp.1) mw_1 (by omega) (by decide) ?_
    rw [mu_1]
    refine E_al0 k156_30 ?_
    refine E_get k156_31 mw_0 rfl ?_
    refine E_bipush k156_32 ?_
    refine E_dup2 k156_33 ?_
    refine E_alx k156_34 (show (102 : Int32) = nI 102 from rfl) rfl mw_1 (by omega) (by decide) ?_
    refine E_iconst k156_35 ?_
    refine E_iadd k156_36 ?_
    refine E_asx k156_37 (show (102 : Int32) = nI 102 from rfl) mw_1 (by omega) (by decide) ?_
    rw [mu_1]
    refine E_goto k156_38 ?_
    exact E_vret k156_80 hd156 rfl (by first | (rw [tGo, if_pos d9] <;> (simp only [sU_sU, sU_eq] <;> rfl)) | (rw [tGo, if_neg (fun z => z c9), if_pos (Classical.not_not.mp d45)] <;> (simp only [tWt, sU_sU, sU_eq] <;> rfl)) | (rw [tGo, if_neg (fun z => z c9), if_neg c45] <;> (simp only [sU_sU, sU_eq] <;> rfl)))
set_option maxRecDepth 20000 in
theorem rf_tears1 {X : az_X} {w : az_W} {sz sl : Nat} {T : az_S} {mk : Nat} (hm : T 0 92 = nI mk) (hk : mk ≤ 1) (hpn : ¬ pqR (T 0) (T 0 102) = -5) : az_M X 161 [.ref 151] (mw w T) sz sl (none, mw w (tTe T mk), sz, sl) := by
  refine az_Mof hd161 ?_
  show az_Ev X 161 0 [.ref 151, .null, .null] [] (mw w T) sz sl _
  refine E_al0 k161_0 ?_
  refine E_al0 k161_1 ?_
  refine E_get k161_2 mw_0 rfl ?_
  refine E_bipush k161_3 ?_
  refine E_alx k161_4 (show (102 : Int32) = nI 102 from rfl) rfl mw_1 (by omega) (by decide) ?_
  refine E_cv1 k161_5 (Or.inl rfl) mw_0 cl152 rfl rfl (r_pageOf mw_0 mw_1) ?_
  refine E_is1 k161_6 rfl ?_
  refine E_il1 k161_7 ?_
  refine E_bipush k161_8 ?_
  refine E_icne k161_9 (fun c9 => ?_) (fun d9 => ?_)
  · skip
    refine E_al0 k161_12 ?_
    refine E_cv0 k161_13 (Or.inl rfl) mw_0 cl141 rfl rfl (r_nextFree mw_0 mw_1 hm hk) ?_
    refine E_is2 k161_14 rfl ?_
    refine E_il2 k161_15 ?_
    refine E_bipush k161_16 ?_
    refine E_iceq k161_17 (fun c17 => ?_) (fun d17 => ?_)
    · skip
      refine E_il1 k161_29 ?_
      refine E_bipush k161_30 ?_
      refine E_icne k161_31 (fun c31 => ?_) (fun d31 => ?_)
      · skip
        exact E_vret k161_42 hd161 rfl (by first | (rw [tTe, if_pos hpn, if_pos c17] <;> rfl) | (rw [tTe, if_pos hpn, if_neg d17] <;> rfl))
      · skip
        exact absurd (Classical.not_not.mp d31) hpn
    · skip
      have hpp := pq_c hpn
      have hcc := nF_c (n := 24) (by omega) d17
      refine E_al0 k161_18 ?_
      refine E_il2 k161_19 ?_
      refine E_al0 k161_20 ?_
      refine E_get k161_21 mw_0 rfl ?_
      refine E_bipush k161_22 ?_
      refine E_il1 k161_23 ?_
      refine E_iadd k161_24 ?_
      refine E_alx k161_25 (ixa (show (93 : Int32) = nI 93 from rfl) hpp.1) rfl mw_1 (by omega) (by decide) ?_
      refine E_iconst k161_26 ?_
      refine E_cv3 k161_27 (Or.inl rfl) mw_0 cl142 rfl rfl (rf_writes hcc.1 hcc.2) ?_
      refine E_goto k161_28 ?_
      exact E_vret k161_42 hd161 rfl (by first | (rw [tTe, if_pos hpn, if_pos c17] <;> rfl) | (rw [tTe, if_pos hpn, if_neg d17] <;> rfl))
  · skip
    exact absurd (Classical.not_not.mp d9) hpn
set_option maxRecDepth 20000 in
theorem rf_tears2 {X : az_X} {w : az_W} {sz sl : Nat} {T : az_S} {mk : Nat} (hm : T 0 92 = nI mk) (hk : mk ≤ 1) (hpq : pqR (T 0) (T 0 102) = -5) : az_M X 161 [.ref 151] (mw w T) sz sl (none, mw w (tTe T mk), sz, sl) := by
  refine az_Mof hd161 ?_
  show az_Ev X 161 0 [.ref 151, .null, .null] [] (mw w T) sz sl _
  refine E_al0 k161_0 ?_
  refine E_al0 k161_1 ?_
  refine E_get k161_2 mw_0 rfl ?_
  refine E_bipush k161_3 ?_
  refine E_alx k161_4 (show (102 : Int32) = nI 102 from rfl) rfl mw_1 (by omega) (by decide) ?_
  refine E_cv1 k161_5 (Or.inl rfl) mw_0 cl152 rfl rfl (r_pageOf mw_0 mw_1) ?_
  refine E_is1 k161_6 rfl ?_
  refine E_il1 k161_7 ?_
  refine E_bipush k161_8 ?_
  refine E_icne k161_9 (fun c9 => ?_) (fun d9 => ?_)
  · skip
    exact absurd hpq c9
  · skip
    refine E_bipush k161_10 ?_
    refine E_goto k161_11 ?_
    refine E_is2 k161_14 rfl ?_
    refine E_il2 k161_15 ?_
    refine E_bipush k161_16 ?_
    refine E_iceq k161_17 (fun c17 => ?_) (fun d17 => ?_)
    · skip
      refine E_il1 k161_29 ?_
      refine E_bipush k161_30 ?_
      refine E_icne k161_31 (fun c31 => ?_) (fun d31 => ?_)
      · skip
        exact absurd hpq c31
      · skip
        refine E_al0 k161_32 ?_
        refine E_get k161_33 mw_0 rfl ?_
        refine E_bipush k161_34 ?_
        refine E_alx k161_35 (show (102 : Int32) = nI 102 from rfl) rfl mw_1 (by omega) (by decide) ?_
        refine E_al0 k161_36 ?_
        refine E_cv0 k161_37 (Or.inl rfl) mw_0 cl150 rfl rfl (r_contents mw_0 mw_1) ?_
        refine E_icne k161_38 (fun c38 => ?_) (fun d38 => ?_)
        · skip
          exact E_vret k161_42 hd161 rfl (by first | (rw [tTe, if_neg (fun z => z hpq), if_pos (Classical.not_not.mp d38)] <;> rfl) | (rw [tTe, if_neg (fun z => z hpq), if_neg c38] <;> rfl))
        · skip
          refine E_al0 k161_39 ?_
          refine E_iconst k161_40 ?_
          refine E_cv1 k161_41 (Or.inl rfl) mw_0 cl154 rfl rfl (rf_writesTable hm hk) ?_
          exact E_vret k161_42 hd161 rfl (by first | (rw [tTe, if_neg (fun z => z hpq), if_pos (Classical.not_not.mp d38)] <;> rfl) | (rw [tTe, if_neg (fun z => z hpq), if_neg c38] <;> rfl))
    · skip
      exact absurd rfl d17
theorem rf_tears {X : az_X} {w : az_W} {sz sl : Nat} {T : az_S} {mk : Nat} (hm : T 0 92 = nI mk) (hk : mk ≤ 1) : az_M X 161 [.ref 151] (mw w T) sz sl (none, mw w (tTe T mk), sz, sl) := by
  by_cases h : pqR (T 0) (T 0 102) = -5
  · exact rf_tears2 hm hk h
  · exact rf_tears1 hm hk h

set_option maxRecDepth 20000 in
theorem rf_step {X : az_X} {w : az_W} {sz sl : Nat} {T : az_S} {k mk : Nat} (hp : T 5 0 = nI k) (hk : k ≤ 4) (hm : T 0 92 = nI mk) (hmk : mk ≤ 1) : az_M X 158 [.ref 151] (mw w T) sz sl (some (.int (tSt T k mk).1), mw w (tSt T k mk).2, sz, sl) := by
  refine az_Mof hd158 ?_
  show az_Ev X 158 0 [.ref 151] [] (mw w T) sz sl _
  refine E_al0 k158_0 ?_
  refine E_get k158_1 mw_0 rfl ?_
  refine E_bipush k158_2 ?_
  refine E_alx k158_3 (show (101 : Int32) = nI 101 from rfl) rfl mw_1 (by omega) (by decide) ?_
  refine E_ifne k158_4 (fun c4 => ?_) (fun d4 => ?_)
  · skip
    refine E_al0 k158_7 ?_
    refine E_cv0 k158_8 (Or.inl rfl) mw_0 cl155 rfl rfl (r_canStep mw_0 mw_1 hm hmk) ?_
    refine E_zne k158_9 (fun c9 => ?_) (fun d9 => ?_)
    · skip
      refine E_al0 k158_12 ?_
      refine E_cv0 k158_13 (Or.inl rfl) mw_0 cl131 rfl rfl (rf_records hp hk) ?_
      refine E_al0 k158_14 ?_
      refine E_cv0 k158_15 (Or.inl rfl) mw_0 cl156 rfl rfl (rf_steps (by rw [tRec_0]; exact hm) hmk (by rw [tRec_0]; exact c9)) ?_
      refine E_al0 k158_16 ?_
      refine E_cv0 k158_17 (Or.inl rfl) mw_0 cl151 rfl rfl (r_owes mw_0 mw_1) ?_
      exact E_iret k158_18 hd158 rfl (by rw [tSt, if_neg c4, if_neg (by rw [c9]; decide)] <;> rfl)
    · skip
      refine E_bipush k158_10 ?_
      exact E_iret k158_11 hd158 rfl (by rw [tSt, if_neg c4, if_pos d9] <;> rfl)
  · skip
    refine E_bipush k158_5 ?_
    exact E_iret k158_6 hd158 rfl (by rw [tSt, if_pos (Classical.not_not.mp d4)] <;> rfl)
set_option maxRecDepth 20000 in
theorem rf_close {X : az_X} {w : az_W} {sz sl : Nat} {T : az_S} {k : Nat} {r : Int32} (hp : T 5 0 = nI k) (hk : k ≤ 4) : az_M X 165 [.ref 151, .int r] (mw w T) sz sl (some (.int (tClo T k r).1), mw w (tClo T k r).2, sz, sl) := by
  refine az_Mof hd165 ?_
  show az_Ev X 165 0 [.ref 151, .int r, .null] [] (mw w T) sz sl _
  refine E_al0 k165_0 ?_
  refine E_il1 k165_1 ?_
  refine E_cv1 k165_2 (Or.inl rfl) mw_0 cl134 rfl rfl (r_isReader mw_0 mw_1) ?_
  refine E_zne k165_3 (fun c3 => ?_) (fun d3 => ?_)
  · skip
    have hq := pgn_c (isR_p c3) (by decide)
    refine E_al0 k165_6 ?_
    refine E_cv0 k165_7 (Or.inl rfl) mw_0 cl131 rfl rfl (rf_records hp hk) ?_
    refine E_iconst k165_8 ?_
    refine E_is2 k165_9 rfl ?_
    have loop10 : ∀ j : Nat, j ≤ 10 → az_Ev X 165 10 [.ref 151, .int r, .int (nI j)] [] (mw w (va_up (tRec T k) 0 (fll (T 0) (111 + 10 * r.toNatClampNeg) 0 j))) sz sl (some (.int (tClo T k r).1), mw w (tClo T k r).2, sz, sl) := by
      refine az_ind 10 _ (fun j hj10 ih10 => ?_)
      refine E_il2 k165_10 ?_
      refine E_bipush k165_11 ?_
      refine E_icge k165_12 (fun c12 => ?_) (fun d12 => ?_)
      · skip
        have he10 := lp_t hj10 (by decide) rfl c12
        subst he10
        refine E_al0 k165_26 ?_
        refine E_cv0 k165_27 (Or.inl rfl) mw_0 cl163 rfl rfl (r_readers mw_0 mw_1) ?_
        exact E_iret k165_28 hd165 rfl (by rw [tClo, if_neg (by rw [c3]; decide), sU_eq] <;> rfl)
      · skip
        have hlt10 : j < 10 := lp_f (by omega) (by decide) rfl d12
        refine E_al0 k165_13 ?_
        refine E_get k165_14 mw_0 rfl ?_
        refine E_bipush k165_15 ?_
        refine E_bipush k165_16 ?_
        refine E_il1 k165_17 ?_
        refine E_imul k165_18 ?_
        refine E_iadd k165_19 ?_
        refine E_il2 k165_20 ?_
        refine E_iadd k165_21 ?_
        refine E_iconst k165_22 ?_
        refine E_asx k165_23 (ixa (ixa (show (111 : Int32) = nI 111 from rfl) (ixm (show (10 : Int32) = nI 10 from rfl) hq.1)) rfl) mw_1 (by omega) (by decide) ?_
        rw [mu_1]
        refine E_inc2 k165_24 rfl ?_
        refine E_goto k165_25 ?_
        exact ev_cong (ih10 hlt10) (by rw [nI_1]) rfl mf_s
    exact ev_cong (loop10 0 (Nat.zero_le _)) rfl rfl (by rw [fll_0, ← tRec_0 (T := T) (k := k), sU_s])
  · skip
    refine E_iconst k165_4 ?_
    exact E_iret k165_5 hd165 rfl (by rw [tClo, if_pos d3] <;> rfl)
