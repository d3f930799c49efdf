/-! methods' runs, laid by wip/whole/walk.py out of wip/whole/specs18.py -/
/-! the reference's acts -/
def tBe (T : az_S) (k j : Nat) (v : Int32) : Int32 × az_S := if T 0 (93 + j) = v then (-5, T) else (nI (tdR (upd (T 0) (93 + j) v)), va_up (tRec T k) 0 (upd (T 0) (93 + j) v))
def tWr (T : az_S) (k : Nat) (p c : Int32) : Int32 × az_S := if pgn 8 p = false then (-1, T) else if inB c 0 999 = false then (-2, T) else if T 0 101 = 1 then (-4, T) else tBe T k p.toNatClampNeg c
def tDr (T : az_S) (k : Nat) (p : Int32) : Int32 × az_S := if pgn 8 p = false then (-1, T) else if T 0 101 = 1 then (-4, T) else tBe T k p.toNatClampNeg (-6)
def tCl (T : az_S) (k : Nat) : Int32 × az_S := if T 0 101 = 1 then (-4, T) else if tdR (T 0) = 0 then (-5, T) else (nI (tdR (T 0)), tDesk (tRec T k))
def tBg (T : az_S) (k : Nat) : Int32 × az_S := if T 0 101 = 1 then (-4, T) else if tdR (T 0) = 0 then (-5, T) else (owR (upd (T 0) 101 1), va_up (tRec T k) 0 (upd (T 0) 101 1))
def tGi (T : az_S) (k : Nat) : Int32 × az_S := if T 0 101 = 0 then (-5, T) else (T 0 102, tEnd (tRec T k))
theorem tdR_lt (f : Nat → Int32) : tdR f < 2 ^ 31 := Nat.lt_of_le_of_lt (cnt_le _ 8) (by decide)
def tCu (T : az_S) : Int32 × az_S := (T 5 2, va_up T 5 (upd (T 5) 2 0))
def tUn (T : az_S) (k : Nat) : Int32 × az_S := if k = 0 then (-5, T) else (nI (k - 1), va_up (va_up T 5 (upd (T 5) 0 (nI (k - 1)))) 0 (lyf (T 1) (153 * (k - 1)) (T 0) 0 153))
def tKe (T : az_S) (mk : Nat) : Int32 × az_S := (T 0 (72 + 10 * mk + 0), va_up (va_up T 2 (lyf (T 0) 0 (T 2) 0 153)) 5 (upd (T 5) 1 1))
def tRe (T : az_S) (k sk : Nat) : Int32 × az_S := if T 5 1 = 0 then (-5, T) else (lyf (T 2) 0 (T 0) 0 153 (72 + 10 * sk + 0), va_up (tRec T k) 0 (lyf (T 2) 0 (T 0) 0 153))
theorem tRec_2 {T : az_S} {k : Nat} : tRec T k 2 = T 2 := by
  unfold tRec
  split <;> rfl
def tTy (T : az_S) (m : Nat) (c : Int32) : Int32 × az_S := if m = 60 then (-3, T) else (nI (m + 1), va_up (va_up T 3 (upd (T 3) m (az_nr 1 c))) 5 (upd (T 5) 2 (nI (m + 1))))
theorem mu_4 {w : az_W} {T : az_S} {g : Nat → Int32} : va_up (mw w T) 155 (.inl (1, 60, .inl g)) = mw w (va_up T 3 g) := mu_k (c := 4) (by decide) rfl (fun j hj hn => by
  have q : j = 0 ∨ j = 1 ∨ j = 2 ∨ j = 3 ∨ j = 5 := by omega
  rcases q with q | q | q | q | q <;> subst q <;> rfl)
theorem mu_5 {w : az_W} {T : az_S} {g : Nat → Int32} : va_up (mw w T) 156 (.inl (0, 42, .inl g)) = mw w (va_up T 4 g) := mu_k (c := 5) (by decide) rfl (fun j hj hn => by
  have q : j = 0 ∨ j = 1 ∨ j = 2 ∨ j = 3 ∨ j = 4 := by omega
  rcases q with q | q | q | q | q <;> subst q <;> rfl)

set_option maxRecDepth 20000 in
theorem rf_becomes {X : az_X} {w : az_W} {sz sl : Nat} {T : az_S} {k j : Nat} {x v : Int32} (hx : x = nI j) (hj : j < 8) (hp : T 5 0 = nI k) (hk : k ≤ 4) : az_M X 145 [.ref 151, .int x, .int v] (mw w T) sz sl (some (.int (tBe T k j v).1), mw w (tBe T k j v).2, sz, sl) := by
  refine az_Mof hd145 ?_
  show az_Ev X 145 0 [.ref 151, .int x, .int v] [] (mw w T) sz sl _
  refine E_al0 k145_0 ?_
  refine E_get k145_1 mw_0 rfl ?_
  refine E_bipush k145_2 ?_
  refine E_il1 k145_3 ?_
  refine E_iadd k145_4 ?_
  refine E_alx k145_5 (ixa (show (93 : Int32) = nI 93 from rfl) hx) rfl mw_1 (by omega) (by decide) ?_
  refine E_il2 k145_6 ?_
  refine E_icne k145_7 (fun c7 => ?_) (fun d7 => ?_)
  · skip
    refine E_al0 k145_10 ?_
    refine E_cv0 k145_11 (Or.inl rfl) mw_0 cl131 rfl rfl (rf_records hp hk) ?_
    refine E_al0 k145_12 ?_
    refine E_get k145_13 mw_0 rfl ?_
    refine E_bipush k145_14 ?_
    refine E_il1 k145_15 ?_
    refine E_iadd k145_16 ?_
    refine E_il2 k145_17 ?_
    refine E_asx k145_18 (ixa (show (93 : Int32) = nI 93 from rfl) hx) mw_1 (by omega) (by decide) ?_
    rw [mu_1]
    refine E_al0 k145_19 ?_
    refine E_cv0 k145_20 (Or.inl rfl) mw_0 cl143 rfl rfl (r_told mw_0 mw_1) ?_
    exact E_iret k145_21 hd145 rfl (by rw [tBe, if_neg c7, tRec_0, sU_eq] <;> rfl)
  · skip
    refine E_bipush k145_8 ?_
    exact E_iret k145_9 hd145 rfl (by rw [tBe, if_pos (Classical.not_not.mp d7)] <;> rfl)
set_option maxRecDepth 20000 in
theorem rf_write {X : az_X} {w : az_W} {sz sl : Nat} {T : az_S} {k : Nat} {p c : Int32} (hp : T 5 0 = nI k) (hk : k ≤ 4) : az_M X 146 [.ref 151, .int p, .int c] (mw w T) sz sl (some (.int (tWr T k p c).1), mw w (tWr T k p c).2, sz, sl) := by
  refine az_Mof hd146 ?_
  show az_Ev X 146 0 [.ref 151, .int p, .int c] [] (mw w T) sz sl _
  refine E_il1 k146_0 ?_
  refine E_cs1 k146_1 (Or.inl rfl) rfl rfl r_isPage ?_
  refine E_zne k146_2 (fun c2 => ?_) (fun d2 => ?_)
  · skip
    have hq := pgn_c c2 (by decide)
    refine E_il2 k146_5 ?_
    refine E_iconst k146_6 ?_
    refine E_sipush k146_7 ?_
    refine E_cs3 k146_8 (Or.inl rfl) rfl rfl r_in ?_
    refine E_zne k146_9 (fun c9 => ?_) (fun d9 => ?_)
    · skip
      refine E_al0 k146_12 ?_
      refine E_get k146_13 mw_0 rfl ?_
      refine E_bipush k146_14 ?_
      refine E_alx k146_15 (show (101 : Int32) = nI 101 from rfl) rfl mw_1 (by omega) (by decide) ?_
      refine E_iconst k146_16 ?_
      refine E_icne k146_17 (fun c17 => ?_) (fun d17 => ?_)
      · skip
        refine E_al0 k146_20 ?_
        refine E_il1 k146_21 ?_
        refine E_il2 k146_22 ?_
        refine E_cv2 k146_23 (Or.inl rfl) mw_0 cl145 rfl rfl (rf_becomes hq.1 hq.2 hp hk) ?_
        exact E_iret k146_24 hd146 rfl (by first | (rw [tWr, if_neg (by rw [c2]; decide), if_neg (by rw [c9]; decide), if_pos (Classical.not_not.mp d17)] <;> rfl) | (rw [tWr, if_neg (by rw [c2]; decide), if_neg (by rw [c9]; decide), if_neg c17] <;> rfl))
      · skip
        refine E_bipush k146_18 ?_
        refine E_goto k146_19 ?_
        exact E_iret k146_24 hd146 rfl (by first | (rw [tWr, if_neg (by rw [c2]; decide), if_neg (by rw [c9]; decide), if_pos (Classical.not_not.mp d17)] <;> rfl) | (rw [tWr, if_neg (by rw [c2]; decide), if_neg (by rw [c9]; decide), if_neg c17] <;> rfl))
    · skip
      refine E_bipush k146_10 ?_
      exact E_iret k146_11 hd146 rfl (by rw [tWr, if_neg (by rw [c2]; decide), if_pos d9] <;> rfl)
  · skip
    refine E_iconst k146_3 ?_
    exact E_iret k146_4 hd146 rfl (by rw [tWr, if_pos d2] <;> rfl)
set_option maxRecDepth 20000 in
theorem rf_drop {X : az_X} {w : az_W} {sz sl : Nat} {T : az_S} {k : Nat} {p : Int32} (hp : T 5 0 = nI k) (hk : k ≤ 4) : az_M X 147 [.ref 151, .int p] (mw w T) sz sl (some (.int (tDr T k p).1), mw w (tDr T k p).2, sz, sl) := by
  refine az_Mof hd147 ?_
  show az_Ev X 147 0 [.ref 151, .int p] [] (mw w T) sz sl _
  refine E_il1 k147_0 ?_
  refine E_cs1 k147_1 (Or.inl rfl) rfl rfl r_isPage ?_
  refine E_zne k147_2 (fun c2 => ?_) (fun d2 => ?_)
  · skip
    have hq := pgn_c c2 (by decide)
    refine E_al0 k147_5 ?_
    refine E_get k147_6 mw_0 rfl ?_
    refine E_bipush k147_7 ?_
    refine E_alx k147_8 (show (101 : Int32) = nI 101 from rfl) rfl mw_1 (by omega) (by decide) ?_
    refine E_iconst k147_9 ?_
    refine E_icne k147_10 (fun c10 => ?_) (fun d10 => ?_)
    · skip
      refine E_al0 k147_13 ?_
      refine E_il1 k147_14 ?_
      refine E_bipush k147_15 ?_
      refine E_cv2 k147_16 (Or.inl rfl) mw_0 cl145 rfl rfl (rf_becomes hq.1 hq.2 hp hk) ?_
      exact E_iret k147_17 hd147 rfl (by first | (rw [tDr, if_neg (by rw [c2]; decide), if_pos (Classical.not_not.mp d10)] <;> rfl) | (rw [tDr, if_neg (by rw [c2]; decide), if_neg c10] <;> rfl))
    · skip
      refine E_bipush k147_11 ?_
      refine E_goto k147_12 ?_
      exact E_iret k147_17 hd147 rfl (by first | (rw [tDr, if_neg (by rw [c2]; decide), if_pos (Classical.not_not.mp d10)] <;> rfl) | (rw [tDr, if_neg (by rw [c2]; decide), if_neg c10] <;> rfl))
  · skip
    refine E_iconst k147_3 ?_
    exact E_iret k147_4 hd147 rfl (by rw [tDr, if_pos d2] <;> rfl)
set_option maxRecDepth 20000 in
theorem rf_clear {X : az_X} {w : az_W} {sz sl : Nat} {T : az_S} {k : Nat} (hp : T 5 0 = nI k) (hk : k ≤ 4) : az_M X 149 [.ref 151] (mw w T) sz sl (some (.int (tCl T k).1), mw w (tCl T k).2, sz, sl) := by
  refine az_Mof hd149 ?_
  show az_Ev X 149 0 [.ref 151, .null] [] (mw w T) sz sl _
  refine E_al0 k149_0 ?_
  refine E_get k149_1 mw_0 rfl ?_
  refine E_bipush k149_2 ?_
  refine E_alx k149_3 (show (101 : Int32) = nI 101 from rfl) rfl mw_1 (by omega) (by decide) ?_
  refine E_iconst k149_4 ?_
  refine E_icne k149_5 (fun c5 => ?_) (fun d5 => ?_)
  · skip
    refine E_al0 k149_8 ?_
    refine E_cv0 k149_9 (Or.inl rfl) mw_0 cl143 rfl rfl (r_told mw_0 mw_1) ?_
    refine E_is1 k149_10 rfl ?_
    refine E_il1 k149_11 ?_
    refine E_ifne k149_12 (fun c12 => ?_) (fun d12 => ?_)
    · skip
      refine E_al0 k149_15 ?_
      refine E_cv0 k149_16 (Or.inl rfl) mw_0 cl131 rfl rfl (rf_records hp hk) ?_
      refine E_al0 k149_17 ?_
      refine E_cv0 k149_18 (Or.inl rfl) mw_0 cl144 rfl rfl rf_clearsDesk ?_
      refine E_il1 k149_19 ?_
      exact E_iret k149_20 hd149 rfl (by rw [tCl, if_neg c5, if_neg (fun z => c12 ((nI_eq0 (tdR_lt _)).mpr z))] <;> rfl)
    · skip
      refine E_bipush k149_13 ?_
      exact E_iret k149_14 hd149 rfl (by rw [tCl, if_neg c5, if_pos ((nI_eq0 (tdR_lt _)).mp (Classical.not_not.mp d12))] <;> rfl)
  · skip
    refine E_bipush k149_6 ?_
    exact E_iret k149_7 hd149 rfl (by rw [tCl, if_pos (Classical.not_not.mp d5)] <;> rfl)
set_option maxRecDepth 20000 in
theorem rf_begin {X : az_X} {w : az_W} {sz sl : Nat} {T : az_S} {k : Nat} (hp : T 5 0 = nI k) (hk : k ≤ 4) : az_M X 157 [.ref 151] (mw w T) sz sl (some (.int (tBg T k).1), mw w (tBg T k).2, sz, sl) := by
  refine az_Mof hd157 ?_
  show az_Ev X 157 0 [.ref 151] [] (mw w T) sz sl _
  refine E_al0 k157_0 ?_
  refine E_get k157_1 mw_0 rfl ?_
  refine E_bipush k157_2 ?_
  refine E_alx k157_3 (show (101 : Int32) = nI 101 from rfl) rfl mw_1 (by omega) (by decide) ?_
  refine E_iconst k157_4 ?_
  refine E_icne k157_5 (fun c5 => ?_) (fun d5 => ?_)
  · skip
    refine E_al0 k157_8 ?_
    refine E_cv0 k157_9 (Or.inl rfl) mw_0 cl143 rfl rfl (r_told mw_0 mw_1) ?_
    refine E_ifne k157_10 (fun c10 => ?_) (fun d10 => ?_)
    · skip
      refine E_al0 k157_13 ?_
      refine E_cv0 k157_14 (Or.inl rfl) mw_0 cl131 rfl rfl (rf_records hp hk) ?_
      refine E_al0 k157_15 ?_
      refine E_get k157_16 mw_0 rfl ?_
      refine E_bipush k157_17 ?_
      refine E_iconst k157_18 ?_
      refine E_asx k157_19 (show (101 : Int32) = nI 101 from rfl) mw_1 (by omega) (by decide) ?_
      rw [mu_1]
      refine E_al0 k157_20 ?_
      refine E_cv0 k157_21 (Or.inl rfl) mw_0 cl151 rfl rfl (r_owes mw_0 mw_1) ?_
      exact E_iret k157_22 hd157 rfl (by rw [tBg, if_neg c5, if_neg (fun z => c10 ((nI_eq0 (tdR_lt _)).mpr z)), tRec_0, sU_eq] <;> rfl)
    · skip
      refine E_bipush k157_11 ?_
      exact E_iret k157_12 hd157 rfl (by rw [tBg, if_neg c5, if_pos ((nI_eq0 (tdR_lt _)).mp (Classical.not_not.mp d10))] <;> rfl)
  · skip
    refine E_bipush k157_6 ?_
    exact E_iret k157_7 hd157 rfl (by rw [tBg, if_pos (Classical.not_not.mp d5)] <;> rfl)
set_option maxRecDepth 20000 in
theorem rf_giveUp {X : az_X} {w : az_W} {sz sl : Nat} {T : az_S} {k : Nat} (hp : T 5 0 = nI k) (hk : k ≤ 4) : az_M X 160 [.ref 151] (mw w T) sz sl (some (.int (tGi T k).1), mw w (tGi T k).2, sz, sl) := by
  refine az_Mof hd160 ?_
  show az_Ev X 160 0 [.ref 151, .null] [] (mw w T) sz sl _
  refine E_al0 k160_0 ?_
  refine E_get k160_1 mw_0 rfl ?_
  refine E_bipush k160_2 ?_
  refine E_alx k160_3 (show (101 : Int32) = nI 101 from rfl) rfl mw_1 (by omega) (by decide) ?_
  refine E_ifne k160_4 (fun c4 => ?_) (fun d4 => ?_)
  · skip
    refine E_al0 k160_7 ?_
    refine E_cv0 k160_8 (Or.inl rfl) mw_0 cl131 rfl rfl (rf_records hp hk) ?_
    refine E_al0 k160_9 ?_
    refine E_get k160_10 mw_0 rfl ?_
    refine E_bipush k160_11 ?_
    refine E_alx k160_12 (show (102 : Int32) = nI 102 from rfl) rfl mw_1 (by omega) (by decide) ?_
    refine E_is1 k160_13 rfl ?_
    refine E_al0 k160_14 ?_
    refine E_cv0 k160_15 (Or.inl rfl) mw_0 cl153 rfl rfl rf_endsSwap ?_
    refine E_il1 k160_16 ?_
    exact E_iret k160_17 hd160 rfl (by rw [tGi, if_neg c4, tRec_0] <;> rfl)
  · skip
    refine E_bipush k160_5 ?_
    exact E_iret k160_6 hd160 rfl (by rw [tGi, if_pos (Classical.not_not.mp d4)] <;> rfl)
set_option maxRecDepth 20000 in
theorem rf_clearText {X : az_X} {w : az_W} {sz sl : Nat} {T : az_S}   : az_M X 167 [.ref 151] (mw w T) sz sl (some (.int (tCu T).1), mw w (tCu T).2, sz, sl) := by
  refine az_Mof hd167 ?_
  show az_Ev X 167 0 [.ref 151, .null] [] (mw w T) sz sl _
  refine E_al0 k167_0 ?_
  refine E_get k167_1 mw_0 rfl ?_
  refine E_is1 k167_2 rfl ?_
  refine E_al0 k167_3 ?_
  refine E_iconst k167_4 ?_
  refine E_put k167_5 mw_0 (Nat.le_of_ble_eq_true rfl) (az_fiti rfl) ?_
  rw [mu_p2]
  refine E_il1 k167_6 ?_
  exact E_iret k167_7 hd167 rfl rfl
set_option maxRecDepth 20000 in
theorem rf_undo {X : az_X} {w : az_W} {sz sl : Nat} {T : az_S} {k : Nat} (hp : T 5 0 = nI k) (hk : k ≤ 4) : az_M X 172 [.ref 151] (mw w T) sz sl (some (.int (tUn T k).1), mw w (tUn T k).2, sz, sl) := by
  refine az_Mof hd172 ?_
  show az_Ev X 172 0 [.ref 151] [] (mw w T) sz sl _
  refine E_al0 k172_0 ?_
  refine E_get k172_1 mw_0 rfl ?_
  refine E_ifne k172_2 (fun c2 => ?_) (fun d2 => ?_)
  · skip
    have hk0 : ¬ k = 0 := fun z => c2 (by rw [hp, z]; rfl)
    refine E_al0 k172_5 ?_
    refine E_dupR k172_6 ?_
    refine E_get k172_7 mw_0 rfl ?_
    refine E_iconst k172_8 ?_
    refine E_isub k172_9 ?_
    refine E_put k172_10 mw_0 (Nat.le_of_ble_eq_true rfl) (az_fiti rfl) ?_
    rw [mu_p0]
    have hs : T 5 0 - 1 = nI (k - 1) := by rw [hp]; exact ixs rfl rfl (by omega)
    have hu : va_up T 5 (upd (T 5) 0 (T 5 0 - 1)) 5 0 = nI (k - 1) := hs
    refine E_al0 k172_11 ?_
    refine E_get k172_12 mw_0 rfl ?_
    refine E_sipush k172_13 ?_
    refine E_al0 k172_14 ?_
    refine E_get k172_15 mw_0 rfl ?_
    refine E_imul k172_16 ?_
    refine E_al0 k172_17 ?_
    refine E_get k172_18 mw_0 rfl ?_
    refine E_iconst k172_19 ?_
    refine E_cs4 k172_20 (Or.inl rfl) rfl rfl (rf_lays mw_2 mw_1 (by decide) (by omega) (by omega) (by decide) (by decide) (ixm (show (153 : Int32) = nI 153 from rfl) hu) (show (0 : Int32) = nI 0 from rfl)) ?_
    rw [mu_1]
    refine E_al0 k172_21 ?_
    refine E_get k172_22 mw_0 rfl ?_
    exact E_iret k172_23 hd172 rfl (by rw [tUn, if_neg hk0, ← hs]; rfl)
  · skip
    have hk0 : k = 0 := (nI_eq0 (by omega)).mp (hp ▸ Classical.not_not.mp d2)
    refine E_bipush k172_3 ?_
    exact E_iret k172_4 hd172 rfl (by rw [tUn, if_pos hk0])
set_option maxRecDepth 20000 in
theorem rf_keep {X : az_X} {w : az_W} {sz sl : Nat} {T : az_S} {mk : Nat} (hm : T 0 92 = nI mk) (hk : mk ≤ 1) : az_M X 173 [.ref 151] (mw w T) sz sl (some (.int (tKe T mk).1), mw w (tKe T mk).2, sz, sl) := by
  refine az_Mof hd173 ?_
  show az_Ev X 173 0 [.ref 151] [] (mw w T) sz sl _
  refine E_al0 k173_0 ?_
  refine E_get k173_1 mw_0 rfl ?_
  refine E_iconst k173_2 ?_
  refine E_al0 k173_3 ?_
  refine E_get k173_4 mw_0 rfl ?_
  refine E_iconst k173_5 ?_
  refine E_cs4 k173_6 (Or.inl rfl) rfl rfl (rf_lays mw_1 mw_3 (by decide) (by omega) (by omega) (by decide) (by decide) (show (0 : Int32) = nI 0 from rfl) (show (0 : Int32) = nI 0 from rfl)) ?_
  rw [mu_3]
  refine E_al0 k173_7 ?_
  refine E_iconst k173_8 ?_
  refine E_put k173_9 mw_0 (Nat.le_of_ble_eq_true rfl) (az_fitb (Or.inr rfl)) ?_
  rw [mu_p1]
  refine E_al0 k173_10 ?_
  refine E_iconst k173_11 ?_
  refine E_cv1 k173_12 (Or.inl rfl) mw_0 cl133 rfl rfl (r_old mw_0 mw_1 hm hk (show (0 : Int32) = nI 0 from rfl) (by omega)) ?_
  exact E_iret k173_13 hd173 rfl rfl
set_option maxRecDepth 20000 in
theorem rf_restore {X : az_X} {w : az_W} {sz sl : Nat} {T : az_S} {k sk : Nat} (hp : T 5 0 = nI k) (hk : k ≤ 4) (hm : T 2 92 = nI sk) (hsk : sk ≤ 1) : az_M X 174 [.ref 151] (mw w T) sz sl (some (.int (tRe T k sk).1), mw w (tRe T k sk).2, sz, sl) := by
  refine az_Mof hd174 ?_
  show az_Ev X 174 0 [.ref 151] [] (mw w T) sz sl _
  refine E_al0 k174_0 ?_
  refine E_get k174_1 mw_0 rfl ?_
  refine E_ifne k174_2 (fun c2 => ?_) (fun d2 => ?_)
  · skip
    refine E_al0 k174_5 ?_
    refine E_cv0 k174_6 (Or.inl rfl) mw_0 cl131 rfl rfl (rf_records hp hk) ?_
    refine E_al0 k174_7 ?_
    refine E_get k174_8 mw_0 rfl ?_
    refine E_iconst k174_9 ?_
    refine E_al0 k174_10 ?_
    refine E_get k174_11 mw_0 rfl ?_
    refine E_iconst k174_12 ?_
    refine E_cs4 k174_13 (Or.inl rfl) rfl rfl (rf_lays mw_3 mw_1 (by decide) (by omega) (by omega) (by decide) (by decide) (show (0 : Int32) = nI 0 from rfl) (show (0 : Int32) = nI 0 from rfl)) ?_
    rw [mu_1]
    have hl : va_up (tRec T k) 0 (lyf (tRec T k 2) 0 (tRec T k 0) 0 153) 0 92 = nI sk := by
      rw [sU_eq, tRec_2]
      exact hm
    refine E_al0 k174_14 ?_
    refine E_iconst k174_15 ?_
    refine E_cv1 k174_16 (Or.inl rfl) mw_0 cl133 rfl rfl (r_old mw_0 mw_1 hl hsk (show (0 : Int32) = nI 0 from rfl) (by omega)) ?_
    exact E_iret k174_17 hd174 rfl (by rw [tRe, if_neg c2, sU_eq, tRec_0, tRec_2] <;> rfl)
  · skip
    refine E_bipush k174_3 ?_
    exact E_iret k174_4 hd174 rfl (by rw [tRe, if_pos (Classical.not_not.mp d2)] <;> rfl)
set_option maxRecDepth 20000 in
theorem rf_type {X : az_X} {w : az_W} {sz sl : Nat} {T : az_S} {m : Nat} {c : Int32} (ht : T 5 2 = nI m) (hm : m ≤ 60) : az_M X 166 [.ref 151, .int c] (mw w T) sz sl (some (.int (tTy T m c).1), mw w (tTy T m c).2, sz, sl) := by
  refine az_Mof hd166 ?_
  show az_Ev X 166 0 [.ref 151, .int c] [] (mw w T) sz sl _
  refine E_al0 k166_0 ?_
  refine E_get k166_1 mw_0 rfl ?_
  refine E_bipush k166_2 ?_
  refine E_icne k166_3 (fun c3 => ?_) (fun d3 => ?_)
  · skip
    have hne : ¬ m = 60 := fun z => c3 (by rw [ht, z]; rfl)
    have hlt : m < 60 := by omega
    refine E_al0 k166_6 ?_
    refine E_get k166_7 mw_0 rfl ?_
    refine E_al0 k166_8 ?_
    refine E_get k166_9 mw_0 rfl ?_
    refine E_il1 k166_10 ?_
    rw [ht]
    refine E_ast k166_11 rfl mw_4 (by omega) (by decide) ?_
    rw [mu_4]
    refine E_al0 k166_12 ?_
    refine E_dupR k166_13 ?_
    refine E_get k166_14 mw_0 rfl ?_
    refine E_iconst k166_15 ?_
    refine E_iadd k166_16 ?_
    refine E_put k166_17 mw_0 (Nat.le_of_ble_eq_true rfl) (az_fiti rfl) ?_
    rw [mu_p2]
    refine E_al0 k166_18 ?_
    refine E_get k166_19 mw_0 rfl ?_
    exact E_iret k166_20 hd166 rfl (by rw [tTy, if_neg hne, ← nI_1, ← ht] <;> rfl)
  · skip
    have heq : m = 60 := (nI_eqI (by omega) (by decide)).mp (ht.symm.trans ((Classical.not_not.mp d3).trans (show (60 : Int32) = nI 60 from rfl)))
    refine E_bipush k166_4 ?_
    exact E_iret k166_5 hd166 rfl (by rw [tTy, if_pos heq] <;> rfl)
