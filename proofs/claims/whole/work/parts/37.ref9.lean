/-! methods' runs, laid by wip/whole/walk.py out of wip/whole/specs22.py -/
/-! the reference's first picture -/
def zT : az_S := fun _ _ => 0
def n8 (g : Nat → Int32) (j : Nat) : Nat → Int32 := fun k => if (74 ≤ k ∧ k < 74 + j) ∨ (84 ≤ k ∧ k < 84 + j) ∨ (93 ≤ k ∧ k < 93 + j) ∨ (103 ≤ k ∧ k < 103 + j) then -5 else g k
theorem n8_0 {g : Nat → Int32} : n8 g 0 = g := by
  funext k
  unfold n8
  rw [if_neg (by omega)]
theorem n8_s {g : Nat → Int32} {j : Nat} : upd (upd (upd (upd (n8 g j) (74 + j) (-5)) (84 + j) (-5)) (93 + j) (-5)) (103 + j) (-5) = n8 g (j + 1) := by
  funext k
  simp only [upd, n8]
  repeat' split
  all_goals first | rfl | (exfalso; omega)
def T1 : az_S := va_up zT 0 (n8 (upd (fll (fun _ => 0) 24 11 24) 72 1) 8)

set_option maxRecDepth 20000 in
theorem rf_init22 {X : az_X} {w : az_W} {sz sl : Nat} {v1 : Value}  : az_Ev X 127 22 [.ref 151, v1] [] (mw w zT) sz sl (none, mw w T1, sz, sl) := by
  refine E_iconst k127_22 ?_
  refine E_is1 k127_23 rfl ?_
  have loop24 : ∀ j : Nat, j ≤ 24 → az_Ev X 127 24 [.ref 151, .int (nI j)] [] (mw w (va_up zT 0 (fll (fun _ => 0) 24 11 j))) sz sl (none, mw w T1, sz, sl) := by
    refine az_ind 24 _ (fun j hj24 ih24 => ?_)
    refine E_il1 k127_24 ?_
    refine E_bipush k127_25 ?_
    refine E_icge k127_26 (fun c26 => ?_) (fun d26 => ?_)
    · skip
      have he24 := lp_t hj24 (by decide) rfl c26
      subst he24
      refine E_al0 k127_36 ?_
      refine E_get k127_37 mw_0 rfl ?_
      refine E_bipush k127_38 ?_
      refine E_iconst k127_39 ?_
      refine E_asx k127_40 (show (72 : Int32) = nI 72 from rfl) mw_1 (by omega) (by decide) ?_
      rw [mu_1]
      refine E_iconst k127_41 ?_
      refine E_is1 k127_42 rfl ?_
      have loop43 : ∀ j : Nat, j ≤ 8 → az_Ev X 127 43 [.ref 151, .int (nI j)] [] (mw w (va_up zT 0 (n8 (upd (fll (fun _ => 0) 24 11 24) 72 1) j))) sz sl (none, mw w T1, sz, sl) := by
        refine az_ind 8 _ (fun j hj43 ih43 => ?_)
        refine E_il1 k127_43 ?_
        refine E_bipush k127_44 ?_
        refine E_icge k127_45 (fun c45 => ?_) (fun d45 => ?_)
        · skip
          have he43 := lp_t hj43 (by decide) rfl c45
          subst he43
          exact E_vret k127_76 hd127 rfl rfl
        · skip
          have hlt43 : j < 8 := lp_f (by omega) (by decide) rfl d45
          refine E_al0 k127_46 ?_
          refine E_get k127_47 mw_0 rfl ?_
          refine E_bipush k127_48 ?_
          refine E_il1 k127_49 ?_
          refine E_iadd k127_50 ?_
          refine E_bipush k127_51 ?_
          refine E_asx k127_52 (ixa (show (74 : Int32) = nI 74 from rfl) rfl) mw_1 (by omega) (by decide) ?_
          rw [mu_1]
          refine E_al0 k127_53 ?_
          refine E_get k127_54 mw_0 rfl ?_
          refine E_bipush k127_55 ?_
          refine E_il1 k127_56 ?_
          refine E_iadd k127_57 ?_
          refine E_bipush k127_58 ?_
          refine E_asx k127_59 (ixa (show (84 : Int32) = nI 84 from rfl) rfl) mw_1 (by omega) (by decide) ?_
          rw [mu_1]
          refine E_al0 k127_60 ?_
          refine E_get k127_61 mw_0 rfl ?_
          refine E_bipush k127_62 ?_
          refine E_il1 k127_63 ?_
          refine E_iadd k127_64 ?_
          refine E_bipush k127_65 ?_
          refine E_asx k127_66 (ixa (show (93 : Int32) = nI 93 from rfl) rfl) mw_1 (by omega) (by decide) ?_
          rw [mu_1]
          refine E_al0 k127_67 ?_
          refine E_get k127_68 mw_0 rfl ?_
          refine E_bipush k127_69 ?_
          refine E_il1 k127_70 ?_
          refine E_iadd k127_71 ?_
          refine E_bipush k127_72 ?_
          refine E_asx k127_73 (ixa (show (103 : Int32) = nI 103 from rfl) rfl) mw_1 (by omega) (by decide) ?_
          rw [mu_1]
          refine E_inc1 k127_74 rfl ?_
          refine E_goto k127_75 ?_
          exact ev_cong (ih43 hlt43) (by rw [nI_1]) rfl (by simp only [sU_sU, sU_eq]; rw [n8_s])
      exact ev_cong (loop43 0 (Nat.zero_le _)) rfl rfl (by rw [n8_0, sU_sU, sU_eq])
    · skip
      have hlt24 : j < 24 := lp_f (by omega) (by decide) rfl d26
      refine E_al0 k127_27 ?_
      refine E_get k127_28 mw_0 rfl ?_
      refine E_bipush k127_29 ?_
      refine E_il1 k127_30 ?_
      refine E_iadd k127_31 ?_
      refine E_bipush k127_32 ?_
      refine E_asx k127_33 (ixa (show (24 : Int32) = nI 24 from rfl) rfl) mw_1 (by omega) (by decide) ?_
      rw [mu_1]
      refine E_inc1 k127_34 rfl ?_
      refine E_goto k127_35 ?_
      exact ev_cong (ih24 hlt24) (by rw [nI_1]) rfl mf_s
  exact ev_cong (loop24 0 (Nat.zero_le _)) rfl rfl (by rw [fll_0]; exact congrArg (mw w) (sU_s (T := zT) (c := 0)).symm)
set_option maxRecDepth 20000 in
theorem rf_init {X : az_X} {w : az_W} {sz sl : Nat}  (hs : sz = 152) (h0 : w 151 = .inr (9, [.null, .null, .int 0, .null, .int 0, .null, .int 0, .int 0, .null, .int 0])) : az_M X 127 [.ref 151] w sz sl (none, mw w T1, 157, sl + 1020) := by
  subst hs
  refine az_Mof hd127 ?_
  show az_Ev X 127 0 [.ref 151, .null] [] w 152 sl _
  refine E_al0 k127_0 ?_
  refine E_objinit k127_1 rfl ?_
  refine E_al0 k127_2 ?_
  refine E_sipush k127_3 ?_
  refine E_newa k127_4 (n := 153) (by decide) ?_
  refine E_put k127_5 (up_ne h0 (by omega)) (Nat.le_of_ble_eq_true rfl) (az_fitr (Or.inr ⟨_, rfl⟩)) ?_
  refine E_al0 k127_6 ?_
  refine E_sipush k127_7 ?_
  refine E_newa k127_8 (n := 612) (by decide) ?_
  refine E_put k127_9 (up_ne up_eq (by omega)) (Nat.le_of_ble_eq_true rfl) (az_fitr (Or.inr ⟨_, rfl⟩)) ?_
  refine E_al0 k127_10 ?_
  refine E_sipush k127_11 ?_
  refine E_newa k127_12 (n := 153) (by decide) ?_
  refine E_put k127_13 (up_ne up_eq (by omega)) (Nat.le_of_ble_eq_true rfl) (az_fitr (Or.inr ⟨_, rfl⟩)) ?_
  refine E_al0 k127_14 ?_
  refine E_bipush k127_15 ?_
  refine E_newa k127_16 (n := 60) (by decide) ?_
  refine E_put k127_17 (up_ne up_eq (by omega)) (Nat.le_of_ble_eq_true rfl) (az_fitr (Or.inr ⟨_, rfl⟩)) ?_
  refine E_al0 k127_18 ?_
  refine E_bipush k127_19 ?_
  refine E_newa k127_20 (n := 42) (by decide) ?_
  refine E_put k127_21 (up_ne up_eq (by omega)) (Nat.le_of_ble_eq_true rfl) (az_fitr (Or.inr ⟨_, rfl⟩)) ?_
  refine ev_cong rf_init22 rfl rfl (Eq.symm (show bk w 151 6 (mb zT) = _ from bk_ext (fun k hk => by repeat rw [up_x (by omega)]) (fun i hi => by
      have q : i = 0 ∨ i = 1 ∨ i = 2 ∨ i = 3 ∨ i = 4 ∨ i = 5 := by omega
      rcases q with q | q | q | q | q | q <;> subst q <;> rfl)))
