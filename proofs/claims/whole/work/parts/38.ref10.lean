/-! methods' runs, laid by wip/whole/walk.py out of wip/whole/specs23.py -/
/-! the reference finishes a swap -/
def mkT (T : az_S) : Nat := (T 0 92).toNatClampNeg
def MK (T : az_S) : Prop := T 0 92 = nI (mkT T) ∧ mkT T ≤ 1
theorem MK_of {T : az_S} {mk : Nat} (h : T 0 92 = nI mk) (hk : mk ≤ 1) : MK T := by
  have e : mkT T = mk := by unfold mkT; rw [h, nI_clamp (by omega)]
  unfold MK
  rw [e]
  exact ⟨h, hk⟩
theorem MK_rec {T : az_S} {k : Nat} (h : MK T) : MK (tRec T k) := MK_of (mk := mkT T) (by rw [tRec_0]; exact h.1) h.2
theorem MK_go {T : az_S} (h : MK T) (hc : csR (T 0) (mkT T) = true) : MK (tGo T (mkT T)) := by
  unfold tGo
  by_cases q1 : pqR (T 0) (T 0 102) = -5
  · rw [if_neg (fun z => z q1)]
    by_cases q2 : T 0 102 = nI (cR (T 0))
    · rw [if_pos q2]
      refine MK_of (mk := mkT T) ?_ h.2
      unfold tG1
      rw [sU_eq]
      unfold upd
      rw [if_neg (by decide), wt_o (by omega) (by have := h.2; omega)]
      exact h.1
    · rw [if_neg q2]
      refine MK_of (mk := 1 - mkT T) ?_ (by omega)
      have e : (1 : Int32) - T 0 92 = nI (1 - mkT T) := ixs (show (1 : Int32) = nI 1 from rfl) h.1 h.2
      rw [← e]
      unfold tG3 tEnd tDesk
      simp only [sU_eq, upd, fll]
      rfl
  · rw [if_pos q1]
    have hp := pq_c q1
    have hcc := nF_c (n := 24) (by omega) (cs_2 hc q1)
    refine MK_of (mk := mkT T) ?_ h.2
    unfold tG1
    rw [sU_eq]
    simp only [wrR, upd]
    rw [if_neg (by decide), if_neg (by omega), if_neg (by omega), if_neg (by omega), if_neg (by omega)]
    exact h.1
def lc (T : az_S) : Bool := decide (T 0 101 = 1) && csR (T 0) (mkT T)
def tLo : Nat → az_S → az_S
  | 0, T => T
  | n + 1, T => if lc T = true then tLo n (tGo T (mkT T)) else T
theorem tLo_stop {n : Nat} {T : az_S} (h : lc T = false) : tLo n T = T := by
  cases n with
  | zero => rfl
  | succ n => rw [tLo, if_neg (by rw [h]; decide)]
theorem lc_1 {T : az_S} (h : ¬ T 0 101 = 1) : lc T = false := by rw [lc, decide_eq_false h]; rfl
theorem lc_2 {T : az_S} (h : csR (T 0) (mkT T) = false) : lc T = false := by rw [lc, h, Bool.and_false]
theorem lc_t {T : az_S} (h : ¬ ¬ T 0 101 = 1) (h2 : csR (T 0) (mkT T) = true) : lc T = true := by rw [lc, decide_eq_true (Classical.not_not.mp h), h2]; rfl
def tFi (T : az_S) (k n : Nat) : Int32 × az_S := if T 0 101 = 0 then (-5, T) else if csR (T 0) (mkT T) = false then (-3, T) else (owR (tLo n (tRec T k) 0), tLo n (tRec T k))

set_option maxRecDepth 20000 in
theorem rf_finish {X : az_X} {w : az_W} {sz sl : Nat} {T : az_S} {k n : Nat} (hp : T 5 0 = nI k) (hk : k ≤ 4) (hM : MK T) (hst : lc (tLo n (tRec T k)) = false) : az_M X 159 [.ref 151] (mw w T) sz sl (some (.int (tFi T k n).1), mw w (tFi T k n).2, sz, sl) := by
  refine az_Mof hd159 ?_
  show az_Ev X 159 0 [.ref 151] [] (mw w T) sz sl _
  refine E_al0 k159_0 ?_
  refine E_get k159_1 mw_0 rfl ?_
  refine E_bipush k159_2 ?_
  refine E_alx k159_3 (show (101 : Int32) = nI 101 from rfl) rfl mw_1 (by omega) (by decide) ?_
  refine E_ifne k159_4 (fun c4 => ?_) (fun d4 => ?_)
  · skip
    refine E_al0 k159_7 ?_
    refine E_cv0 k159_8 (Or.inl rfl) mw_0 cl155 rfl rfl (r_canStep mw_0 mw_1 hM.1 hM.2) ?_
    refine E_zne k159_9 (fun c9 => ?_) (fun d9 => ?_)
    · skip
      refine E_al0 k159_12 ?_
      refine E_cv0 k159_13 (Or.inl rfl) mw_0 cl131 rfl rfl (rf_records hp hk) ?_
      have loop14 : ∀ j : Nat, j ≤ n → ∀ U : az_S, MK U → tLo (n - j) U = tLo n (tRec T k) → az_Ev X 159 14 [.ref 151] [] (mw w U) sz sl (some (.int (tFi T k n).1), mw w (tFi T k n).2, sz, sl) := by
        refine az_ind n _ (fun j hj14 ih14 => ?_)
        intro U hU hf
        refine E_al0 k159_14 ?_
        refine E_get k159_15 mw_0 rfl ?_
        refine E_bipush k159_16 ?_
        refine E_alx k159_17 (show (101 : Int32) = nI 101 from rfl) rfl mw_1 (by omega) (by decide) ?_
        refine E_iconst k159_18 ?_
        refine E_icne k159_19 (fun c19 => ?_) (fun d19 => ?_)
        · skip
          have he : U = tLo n (tRec T k) := by rw [← hf, tLo_stop (lc_1 c19)]
          refine E_al0 k159_26 ?_
          refine E_cv0 k159_27 (Or.inl rfl) mw_0 cl151 rfl rfl (r_owes mw_0 mw_1) ?_
          exact E_iret k159_28 hd159 rfl (by rw [tFi, if_neg c4, if_neg (by rw [c9]; decide), ← he] <;> rfl)
        · skip
          refine E_al0 k159_20 ?_
          refine E_cv0 k159_21 (Or.inl rfl) mw_0 cl155 rfl rfl (r_canStep mw_0 mw_1 hU.1 hU.2) ?_
          refine E_zeq k159_22 (fun c22 => ?_) (fun d22 => ?_)
          · skip
            have he : U = tLo n (tRec T k) := by rw [← hf, tLo_stop (lc_2 c22)]
            refine E_al0 k159_26 ?_
            refine E_cv0 k159_27 (Or.inl rfl) mw_0 cl151 rfl rfl (r_owes mw_0 mw_1) ?_
            exact E_iret k159_28 hd159 rfl (by rw [tFi, if_neg c4, if_neg (by rw [c9]; decide), ← he] <;> rfl)
          · skip
            have hlt14 : j < n := by
              rcases Nat.lt_or_ge j n with z | z
              · exact z
              · rw [← hf, show n - j = 0 by omega, show tLo 0 U = U from rfl, lc_t d19 d22] at hst
                cases hst
            refine E_al0 k159_23 ?_
            refine E_cv0 k159_24 (Or.inl rfl) mw_0 cl156 rfl rfl (rf_steps hU.1 hU.2 d22) ?_
            refine E_goto k159_25 ?_
            exact ev_cong (ih14 hlt14 _ (MK_go hU d22) (by rw [← hf, show n - j = (n - (j + 1)) + 1 by omega, tLo, if_pos (lc_t d19 d22)])) rfl rfl rfl
      exact ev_cong (loop14 0 (Nat.zero_le _) (tRec T k) (MK_rec hM) rfl) rfl rfl rfl
    · skip
      refine E_bipush k159_10 ?_
      exact E_iret k159_11 hd159 rfl (by rw [tFi, if_neg c4, if_pos d9] <;> rfl)
  · skip
    refine E_bipush k159_5 ?_
    exact E_iret k159_6 hd159 rfl (by rw [tFi, if_pos (Classical.not_not.mp d4)] <;> rfl)
