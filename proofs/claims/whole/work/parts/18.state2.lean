/-! methods' runs, laid by wip/whole/walk.py out of wip/whole/specs4.py -/
/-! what a State's acts make of its picture -/
theorem az_fiti {ty : FieldType} {x : Int32} (h : ty = .int) : az_fit ty (.int x) = true := by subst h; simp [az_fit, fits, narrow]
theorem az_fitr {ty : FieldType} {x : Nat} (h : (∃ n, ty = .object n) ∨ ∃ t, ty = .array t) : az_fit ty (.ref x) = true := by
  rcases h with ⟨n, rfl⟩ | ⟨t, rfl⟩ <;> simp [az_fit, fits, narrow]
def sealT (x : Int32) : Int32 := sealOf x + 1 - (sealOf x + 1) / 101 * 101
def dPut (S : az_S) (c x s : Int32) : az_S := if pgn 24 c = true then va_up (va_up (va_up S 0 (upd (S 0) c.toNatClampNeg x)) 1 (upd (S 1) c.toNatClampNeg s)) 2 (upd (S 2) c.toNatClampNeg (S 2 c.toNatClampNeg + 1)) else S
theorem dPut_in {S : az_S} {j : Nat} {x s : Int32} (h : j < 24) : dPut S (nI j) x s = va_up (va_up (va_up S 0 (upd (S 0) j x)) 1 (upd (S 1) j s)) 2 (upd (S 2) j (S 2 j + 1)) := by
  unfold dPut
  rw [if_pos (pgn_of h (by decide)), nI_clamp (by omega)]
theorem dPut_out {S : az_S} {c x s : Int32} (h : pgn 24 c = false) : dPut S c x s = S := by
  unfold dPut
  rw [h]; rfl
def dEnd (S : az_S) : az_S := va_up (sN (sN S 4 0) 5 0) 6 (flf (S 6) (-5) 8)
def dDesk (S : az_S) : az_S := va_up S 5 (flf (S 5) (-1) 8)
def dMark (S : az_S) : az_S := dEnd (dDesk (sN (sN S 6 (1 - S 12 6)) 8 (S 12 8 + 1)))
def dLose (S : az_S) : az_S := let T := va_up (dEnd (dDesk S)) 7 (flf (S 7) 0 4); sN T 7 (T 12 7 + 1)
/-- the page, the cell of the next step; the step -/
def wP (S : az_S) : Int32 := pq S (S 12 5)
def dOwed (S : az_S) : az_S := let T := dPut S (cw S 24) (ix 8 (-1) (S 5) (wP S)) (sealOf (ix 8 (-1) (S 5) (wP S))); let T2 := va_up T 6 (ixu 8 (T 6) (wP S) (cw S 24)); sN T2 5 (T2 12 5 + 1)
def nC (S : az_S) (j : Nat) : Int32 := if S 5 j = -1 then cO S j else S 6 j
/-- the other table's rows, as far as they are written -/
def tgt (m : Int32) : Nat := if 1 - m = 0 then 3 else 4
def dTab (S : az_S) (tn : Int32) (j : Nat) : az_S := va_up (if 1 - S 12 6 = 0 then sN (sN S 0 (tN S (S 12 6) + 1)) 1 tn else sN (sN S 2 (tN S (S 12 6) + 1)) 3 tn) (tgt (S 12 6)) (cpf (nC S) (tb S (1 - S 12 6)) j)
theorem va_upup {S : az_S} {c : Nat} {f g : Nat → Int32} : va_up (va_up S c f) c g = va_up S c g := by
  funext d
  by_cases h : d = c <;> simp [va_up, h]

set_option maxRecDepth 20000 in
theorem s_put {X : az_X} {w : az_W} {sz sl : Nat} {a : Nat} {S : az_S} {c x : Int32} {b : Bool}  : az_M X 3 [.ref (a + 1), .int c, .int x, .int (zb b)] (bw w a S) sz sl (none, bw w a (dPut S c x (if b = true then sealT x else sealOf x)), sz, sl) := by
  refine az_Mof hd3 ?_
  show az_Ev X 3 0 [.ref (a + 1), .int c, .int x, .int (zb b), .null] [] (bw w a S) sz sl _
  refine E_il1 k3_0 ?_
  refine E_cs1 k3_1 (Or.inr rfl) rfl rfl (s_isCell) ?_
  refine E_zne k3_2 (fun c2 => ?_) (fun d2 => ?_)
  · skip
    obtain ⟨j, hj, rfl⟩ := pgn_nI c2 (by decide)
    refine E_il2 k3_4 ?_
    refine E_cs1 k3_5 (Or.inl rfl) rfl rfl s_sealOf ?_
    refine E_is4 k3_6 rfl ?_
    refine E_al0 k3_7 ?_
    refine E_get k3_8 bw_1 rfl ?_
    refine E_il1 k3_9 ?_
    refine E_il2 k3_10 ?_
    refine E_iast k3_11 bw_2 hj (by decide) ?_
    rw [bu_2]
    refine E_al0 k3_12 ?_
    refine E_get k3_13 bw_1 rfl ?_
    refine E_il1 k3_14 ?_
    refine E_il3 k3_15 ?_
    refine E_zeq k3_16 (fun c16 => ?_) (fun d16 => ?_)
    · skip
      refine E_il4 k3_23 ?_
      refine E_iast k3_24 bw_3 hj (by decide) ?_
      rw [bu_3]
      refine E_al0 k3_25 ?_
      refine E_get k3_26 bw_1 rfl ?_
      refine E_il1 k3_27 ?_
      refine E_dup2 k3_28 ?_
      refine E_ald k3_29 rfl bw_4 hj (by decide) ?_
      refine E_iconst k3_30 ?_
      refine E_iadd k3_31 ?_
      refine E_iast k3_32 bw_4 hj (by decide) ?_
      rw [bu_4]
      exact E_vret k3_33 hd3 rfl (by rw [dPut_in hj]; first | (rw [d16]; rfl) | (rw [c16]; rfl))
    · skip
      refine E_il4 k3_17 ?_
      refine E_iconst k3_18 ?_
      refine E_iadd k3_19 ?_
      refine E_bipush k3_20 ?_
      refine E_irem k3_21 (by decide) ?_
      refine E_goto k3_22 ?_
      refine E_iast k3_24 bw_3 hj (by decide) ?_
      rw [bu_3]
      refine E_al0 k3_25 ?_
      refine E_get k3_26 bw_1 rfl ?_
      refine E_il1 k3_27 ?_
      refine E_dup2 k3_28 ?_
      refine E_ald k3_29 rfl bw_4 hj (by decide) ?_
      refine E_iconst k3_30 ?_
      refine E_iadd k3_31 ?_
      refine E_iast k3_32 bw_4 hj (by decide) ?_
      rw [bu_4]
      exact E_vret k3_33 hd3 rfl (by rw [dPut_in hj]; first | (rw [d16]; rfl) | (rw [c16]; rfl))
  · skip
    exact E_vret k3_3 hd3 rfl (by rw [dPut_out d2])
theorem s_put0 {X : az_X} {w : az_W} {sz sl : Nat} {a : Nat} {S : az_S} {c x : Int32} : az_M X 3 [.ref (a + 1), .int c, .int x, .int 0] (bw w a S) sz sl (none, bw w a (dPut S c x (sealOf x)), sz, sl) := s_put (b := false)
theorem s_put1 {X : az_X} {w : az_W} {sz sl : Nat} {a : Nat} {S : az_S} {c x : Int32} : az_M X 3 [.ref (a + 1), .int c, .int x, .int 1] (bw w a S) sz sl (none, bw w a (dPut S c x (sealT x)), sz, sl) := s_put (b := true)
set_option maxRecDepth 20000 in
theorem s_start {X : az_X} {w : az_W} {sz sl : Nat} {a : Nat} {S : az_S}  : az_M X 86 [.ref (a + 11)] (bw w a S) sz sl (none, bw w a (sN S 4 1), sz, sl) := by
  refine az_Mof hd86 ?_
  show az_Ev X 86 0 [.ref (a + 11)] [] (bw w a S) sz sl _
  refine E_al0 k86_0 ?_
  refine E_iconst k86_1 ?_
  refine E_put k86_2 bw_11 (Nat.le_of_ble_eq_true rfl) (az_fitb (Or.inr rfl)) ?_
  rw [bn_4]
  exact E_vret k86_3 hd86 rfl rfl
set_option maxRecDepth 20000 in
theorem s_end {X : az_X} {w : az_W} {sz sl : Nat} {a : Nat} {S : az_S}  : az_M X 87 [.ref (a + 11)] (bw w a S) sz sl (none, bw w a (dEnd S), sz, sl) := by
  refine az_Mof hd87 ?_
  show az_Ev X 87 0 [.ref (a + 11)] [] (bw w a S) sz sl _
  refine E_al0 k87_0 ?_
  refine E_iconst k87_1 ?_
  refine E_put k87_2 bw_11 (Nat.le_of_ble_eq_true rfl) (az_fitb (Or.inl rfl)) ?_
  rw [bn_4]
  refine E_al0 k87_3 ?_
  refine E_iconst k87_4 ?_
  refine E_put k87_5 bw_11 (Nat.le_of_ble_eq_true rfl) (az_fiti rfl) ?_
  rw [bn_5]
  refine E_al0 k87_6 ?_
  refine E_get k87_7 bw_11 rfl ?_
  refine E_bipush k87_8 ?_
  refine E_cs2 k87_9 (Or.inr rfl) rfl rfl (s_fillInts bw_12 (by decide)) ?_
  rw [bu_12]
  exact E_vret k87_10 hd87 rfl rfl
set_option maxRecDepth 20000 in
theorem s_countStep {X : az_X} {w : az_W} {sz sl : Nat} {a : Nat} {S : az_S}  : az_M X 88 [.ref (a + 11)] (bw w a S) sz sl (none, bw w a (sN S 5 (S 12 5 + 1)), sz, sl) := by
  refine az_Mof hd88 ?_
  show az_Ev X 88 0 [.ref (a + 11)] [] (bw w a S) sz sl _
  refine E_al0 k88_0 ?_
  refine E_dupR k88_1 ?_
  refine E_get k88_2 bw_11 rfl ?_
  refine E_iconst k88_3 ?_
  refine E_iadd k88_4 ?_
  refine E_put k88_5 bw_11 (Nat.le_of_ble_eq_true rfl) (az_fiti rfl) ?_
  rw [bn_5]
  exact E_vret k88_6 hd88 rfl rfl
set_option maxRecDepth 20000 in
theorem s_setMark {X : az_X} {w : az_W} {sz sl : Nat} {a : Nat} {S : az_S}  : az_M X 79 [.ref a] (bw w a S) sz sl (none, bw w a (dMark S), sz, sl) := by
  refine az_Mof hd79 ?_
  show az_Ev X 79 0 [.ref a] [] (bw w a S) sz sl _
  refine E_al0 k79_0 ?_
  refine E_iconst k79_1 ?_
  refine E_al0 k79_2 ?_
  refine E_get k79_3 bw_0 rfl ?_
  refine E_isub k79_4 ?_
  refine E_put k79_5 bw_0 (Nat.le_of_ble_eq_true rfl) (az_fiti rfl) ?_
  rw [bn_6]
  refine E_al0 k79_6 ?_
  refine E_dupR k79_7 ?_
  refine E_get k79_8 bw_0 rfl ?_
  refine E_iconst k79_9 ?_
  refine E_iadd k79_10 ?_
  refine E_put k79_11 bw_0 (Nat.le_of_ble_eq_true rfl) (az_fiti rfl) ?_
  rw [bn_8]
  refine E_al0 k79_12 ?_
  refine E_get k79_13 bw_0 rfl ?_
  refine E_cv0 k79_14 (Or.inl rfl) bw_9 cl16 rfl rfl (s_deskEmpty bw_9 bw_10) ?_
  rw [bu_10]
  refine E_al0 k79_15 ?_
  refine E_get k79_16 bw_0 rfl ?_
  refine E_cv0 k79_17 (Or.inl rfl) bw_11 cl87 rfl rfl s_end ?_
  exact E_vret k79_18 hd79 rfl rfl
set_option maxRecDepth 20000 in
theorem s_dismissAll {X : az_X} {w : az_W} {sz sl : Nat} {a : Nat} {S : az_S}  : az_M X 55 [.ref (a + 13)] (bw w a S) sz sl (none, bw w a (va_up S 7 (flf (S 7) 0 4)), sz, sl) := by
  refine az_Mof hd55 ?_
  show az_Ev X 55 0 [.ref (a + 13), .null] [] (bw w a S) sz sl _
  refine E_iconst k55_0 ?_
  refine E_is1 k55_1 rfl ?_
  have loop2 : ∀ j : Nat, j ≤ 4 → az_Ev X 55 2 [.ref (a + 13), .int (nI j)] [] (bw w a (va_up S 7 (flf (S 7) 0 j))) sz sl (none, bw w a (va_up S 7 (flf (S 7) 0 4)), sz, sl) := by
    refine az_ind 4 _ (fun j hj2 ih2 => ?_)
    refine E_il1 k55_2 ?_
    refine E_iconst k55_3 ?_
    refine E_icge k55_4 (fun c4 => ?_) (fun d4 => ?_)
    · skip
      have he2 := lp_t hj2 (by decide) rfl c4
      subst he2
      exact E_vret k55_12 hd55 rfl rfl
    · skip
      have hlt2 := lp_f (by omega) (by decide) rfl d4
      refine E_al0 k55_5 ?_
      refine E_get k55_6 bw_13 rfl ?_
      refine E_il1 k55_7 ?_
      refine E_iconst k55_8 ?_
      rw [← zb_f]
      refine E_zast k55_9 bw_14 hlt2 (by decide) ?_
      rw [bu_14]
      refine E_inc1 k55_10 rfl ?_
      refine E_goto k55_11 ?_
      exact ev_cong (ih2 hlt2) (by rw [nI_1]) rfl (by rw [sU_eq, show zb false = 0 from rfl, flf_s, va_upup])
  exact ev_cong (loop2 0 (Nat.zero_le _)) rfl rfl (by rw [flf_0, show va_up S 7 (S 7) = S from by funext d; by_cases h : d = 7 <;> simp [va_up, h]])
set_option maxRecDepth 20000 in
theorem s_dismiss {X : az_X} {w : az_W} {sz sl : Nat} {a j : Nat} {S : az_S} (hj : j < 4) : az_M X 54 [.ref (a + 13), .int (nI j)] (bw w a S) sz sl (none, bw w a (va_up S 7 (upd (S 7) j 0)), sz, sl) := by
  refine az_Mof hd54 ?_
  show az_Ev X 54 0 [.ref (a + 13), .int (nI j)] [] (bw w a S) sz sl _
  refine E_il1 k54_0 ?_
  refine E_iflt k54_1 (fun c1 => ?_) (fun d1 => ?_)
  · skip
    exact absurd c1 (nI_pos (by omega))
  · skip
    refine E_il1 k54_2 ?_
    refine E_iconst k54_3 ?_
    refine E_icge k54_4 (fun c4 => ?_) (fun d4 => ?_)
    · skip
      exact absurd (lp_t (by omega) (by decide) (show (4 : Int32) = nI 4 from rfl) c4) (by omega)
    · skip
      refine E_al0 k54_5 ?_
      refine E_get k54_6 bw_13 rfl ?_
      refine E_il1 k54_7 ?_
      refine E_iconst k54_8 ?_
      rw [← zb_f]
      refine E_zast k54_9 bw_14 hj (by decide) ?_
      rw [bu_14]
      exact E_vret k54_10 hd54 rfl rfl
set_option maxRecDepth 20000 in
theorem s_lose {X : az_X} {w : az_W} {sz sl : Nat} {a : Nat} {S : az_S}  : az_M X 81 [.ref a] (bw w a S) sz sl (none, bw w a (dLose S), sz, sl) := by
  refine az_Mof hd81 ?_
  show az_Ev X 81 0 [.ref a] [] (bw w a S) sz sl _
  refine E_al0 k81_0 ?_
  refine E_get k81_1 bw_0 rfl ?_
  refine E_cv0 k81_2 (Or.inl rfl) bw_9 cl16 rfl rfl (s_deskEmpty bw_9 bw_10) ?_
  rw [bu_10]
  refine E_al0 k81_3 ?_
  refine E_get k81_4 bw_0 rfl ?_
  refine E_cv0 k81_5 (Or.inl rfl) bw_11 cl87 rfl rfl s_end ?_
  refine E_al0 k81_6 ?_
  refine E_get k81_7 bw_0 rfl ?_
  refine E_cv0 k81_8 (Or.inl rfl) bw_13 cl55 rfl rfl s_dismissAll ?_
  refine E_al0 k81_9 ?_
  refine E_dupR k81_10 ?_
  refine E_get k81_11 bw_0 rfl ?_
  refine E_iconst k81_12 ?_
  refine E_iadd k81_13 ?_
  refine E_put k81_14 bw_0 (Nat.le_of_ble_eq_true rfl) (az_fiti rfl) ?_
  rw [bn_7]
  exact E_vret k81_15 hd81 rfl rfl
set_option maxRecDepth 20000 in
theorem s_writeOwed {X : az_X} {w : az_W} {sz sl : Nat} {a : Nat} {S : az_S}  : az_M X 77 [.ref a] (bw w a S) sz sl (none, bw w a (dOwed S), sz, sl) := by
  refine az_Mof hd77 ?_
  show az_Ev X 77 0 [.ref a, .null, .null] [] (bw w a S) sz sl _
  refine E_al0 k77_0 ?_
  refine E_get k77_1 bw_0 rfl ?_
  refine E_al0 k77_2 ?_
  refine E_get k77_3 bw_0 rfl ?_
  refine E_cv0 k77_4 (Or.inl rfl) bw_11 cl85 rfl rfl s_stepsDone ?_
  refine E_cv1 k77_5 (Or.inl rfl) bw_9 cl19 rfl rfl (s_pageOfContent bw_9 bw_10) ?_
  refine E_is1 k77_6 rfl ?_
  refine E_al0 k77_7 ?_
  refine E_cv0 k77_8 (Or.inl rfl) bw_0 cl70 rfl rfl s_cellToWrite ?_
  refine E_is2 k77_9 rfl ?_
  refine E_al0 k77_10 ?_
  refine E_get k77_11 bw_0 rfl ?_
  refine E_il2 k77_12 ?_
  refine E_al0 k77_13 ?_
  refine E_get k77_14 bw_0 rfl ?_
  refine E_il1 k77_15 ?_
  refine E_cv1 k77_16 (Or.inl rfl) bw_9 cl13 rfl rfl (s_toldOf bw_9 bw_10) ?_
  refine E_iconst k77_17 ?_
  refine E_cv3 k77_18 (Or.inl rfl) bw_1 cl3 rfl rfl s_put0 ?_
  refine E_al0 k77_19 ?_
  refine E_get k77_20 bw_0 rfl ?_
  refine E_il1 k77_21 ?_
  refine E_il2 k77_22 ?_
  refine E_cv2 k77_23 (Or.inl rfl) bw_11 cl89 rfl rfl (s_noteWritten bw_11 bw_12) ?_
  rw [bu_12]
  refine E_al0 k77_24 ?_
  refine E_get k77_25 bw_0 rfl ?_
  refine E_cv0 k77_26 (Or.inl rfl) bw_11 cl88 rfl rfl s_countStep ?_
  exact E_vret k77_27 hd77 rfl rfl
