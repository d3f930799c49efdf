/-! methods' runs, laid by wip/whole/walk.py out of wip/whole/specs5.py -/
/-! tables, copies -/
theorem E_bast {X : az_X} {M i pc ln t u : Nat} {v : Int32} {ts js : List Nat} {L st : List Value} {w : az_W} {sz sl : Nat} {res : az_R} {n a j : Nat} {x : Int32} {f : Nat → Int32} (hk : az_cd M i = some (pc, .bastore, ln, t, u, v, ts, js)) (hw : w a = .inl (2, n, .inl f)) (hj : j < n) (hn : n < 2 ^ 31) (hx : x = 0 ∨ x = 1) (h : az_Ev X M (i + 1) L st (va_up w a (.inl (2, n, .inl (upd f j x)))) sz sl res) : az_Ev X M i L (.int x :: .int (nI j) :: .ref a :: st) w sz sl res := E_ast hk rfl hw hj hn (by rw [az_nr_b hx]; exact h)
theorem bw_become {w : az_W} {a : Nat} {S : az_S} {x y : Int32} (m : Int32) : va_up (bw w a S) (tA a m) (.inr (2, [.int x, .int y, .ref (tB a m)])) = bw w a (if m = 0 then sN (sN S 0 x) 1 y else sN (sN S 2 x) 3 y) := by
  unfold tA tB
  by_cases h : m = 0
  · simp only [if_pos h]
    rw [← bn_1, ← bn_0, up_up]
    simp [sN_12]
  · simp only [if_neg h]
    rw [← bn_3, ← bn_2, up_up]
    simp [sN_12]
theorem bw_give {w : az_W} {a : Nat} {S : az_S} {g : Nat → Int32} (m : Int32) : va_up (bw w a S) (tB a m) (.inl (0, 8, .inl g)) = bw w a (va_up S (if m = 0 then 3 else 4) g) := by
  unfold tB
  by_cases h : m = 0
  · simp only [if_pos h]; exact bu_6
  · simp only [if_neg h]; exact bu_8
theorem bw_gen {w : az_W} {a r : Nat} {S : az_S} {x y : Int32} {g : Nat → Int32} (h : r < 4) : va_up (va_up (bw w a S) (a + 16 + 2 * r) (.inr (2, [.int x, .int y, .ref (a + 17 + 2 * r)]))) (a + 17 + 2 * r) (.inl (0, 8, .inl g)) = bw w a (va_up (sN (sN S (9 + 2 * r) x) (10 + 2 * r) y) (8 + r) g) := by
  match r, h with
  | 0, _ =>
    show va_up (va_up (bw w a S) (a + 16) (.inr (2, [.int x, .int y, .ref (a + 17)]))) (a + 17) _ = _
    rw [← bu_17, ← bn_10, ← bn_9, up_up]
    simp [sN_12]
  | 1, _ =>
    show va_up (va_up (bw w a S) (a + 18) (.inr (2, [.int x, .int y, .ref (a + 19)]))) (a + 19) _ = _
    rw [← bu_19, ← bn_12, ← bn_11, up_up]
    simp [sN_12]
  | 2, _ =>
    show va_up (va_up (bw w a S) (a + 20) (.inr (2, [.int x, .int y, .ref (a + 21)]))) (a + 21) _ = _
    rw [← bu_21, ← bn_14, ← bn_13, up_up]
    simp [sN_12]
  | 3, _ =>
    show va_up (va_up (bw w a S) (a + 22) (.inr (2, [.int x, .int y, .ref (a + 23)]))) (a + 23) _ = _
    rw [← bu_23, ← bn_16, ← bn_15, up_up]
    simp [sN_12]
def T0 (S : az_S) (tn : Int32) : az_S := if 1 - S 12 6 = 0 then sN (sN S 0 (tN S (S 12 6) + 1)) 1 tn else sN (sN S 2 (tN S (S 12 6) + 1)) 3 tn
theorem T0_ne {S : az_S} {tn : Int32} {d : Nat} (h : d ≠ 12) : T0 S tn d = S d := by unfold T0; split <;> rw [sN_ne h, sN_ne h]
theorem T0_6 {S : az_S} {tn : Int32} : T0 S tn 12 6 = S 12 6 := by unfold T0; split <;> simp [sN_12]
def nT (S : az_S) (tn : Int32) (j : Nat) : az_S := va_up (T0 S tn) (if 1 - S 12 6 = 0 then 3 else 4) (cpf (nC S) (tb S (1 - S 12 6)) j)
theorem nT_d {S : az_S} {tn : Int32} {j d : Nat} (h3 : d ≠ 3) (h4 : d ≠ 4) : nT S tn j d = T0 S tn d := by
  unfold nT
  by_cases h : 1 - S 12 6 = 0
  · rw [if_pos h, sU_ne h3]
  · rw [if_neg h, sU_ne h4]
theorem nT_new {S : az_S} {tn : Int32} {j : Nat} : tb (nT S tn j) (1 - S 12 6) = cpf (nC S) (tb S (1 - S 12 6)) j := by
  unfold nT
  by_cases h : 1 - S 12 6 = 0
  · simp only [if_pos h]; rw [tb, if_pos h, sU_eq]
  · simp only [if_neg h]; rw [tb, if_neg h, sU_eq]
theorem nT_old {S : az_S} {tn : Int32} {j : Nat} (hm : S 12 6 = 0 ∨ S 12 6 = 1) : tb (nT S tn j) (S 12 6) = tb S (S 12 6) := by
  unfold nT
  rcases hm with h | h
  · have e : ¬ (1 - S 12 6 = 0) := by rw [h]; decide
    simp only [if_neg e]
    rw [tb, if_pos h, sU_ne (by decide), T0_ne (by decide), tb, if_pos h]
  · have e : 1 - S 12 6 = 0 := by rw [h]; decide
    have e2 : ¬ S 12 6 = 0 := by rw [h]; decide
    simp only [if_pos e]
    rw [tb, if_neg e2, sU_ne (by decide), T0_ne (by decide), tb, if_neg e2]
theorem nT_0 {S : az_S} {tn : Int32} : nT S tn 0 = T0 S tn := by
  funext d
  unfold nT
  rw [cpf_0]
  by_cases h : 1 - S 12 6 = 0
  · simp only [if_pos h]
    by_cases hd : d = 3
    · subst hd; rw [sU_eq, T0_ne (by decide), tb, if_pos h]
    · rw [sU_ne hd]
  · simp only [if_neg h]
    by_cases hd : d = 4
    · subst hd; rw [sU_eq, T0_ne (by decide), tb, if_neg h]
    · rw [sU_ne hd]
theorem nT_s {S : az_S} {tn : Int32} {j : Nat} : va_up (nT S tn j) (if 1 - S 12 6 = 0 then 3 else 4) (upd (cpf (nC S) (tb S (1 - S 12 6)) j) j (nC S j)) = nT S tn (j + 1) := by
  rw [cpf_s]
  unfold nT
  rw [va_upup]
/-- the other block, apart from this one -/
def BK (w : az_W) (b : Nat) (T : az_S) : Prop := ∀ k, k < 24 → w (b + k) = blk b T k
theorem bo {w : az_W} {a b : Nat} {S T : az_S} (hT : BK w b T) (hd : b + 24 ≤ a ∨ a + 24 ≤ b) (k : Nat) (hk : k < 24) : bw w a S (b + k) = blk b T k := by
  rw [bw_out (by omega)]
  exact hT k hk
theorem boG {w : az_W} {a b r : Nat} {S T : az_S} (hT : BK w b T) (hd : b + 24 ≤ a ∨ a + 24 ≤ b) (h : r < 4) : bw w a S (b + 16 + 2 * r) = .inr (2, [.int (T 12 (9 + 2 * r)), .int (T 12 (10 + 2 * r)), .ref (b + 17 + 2 * r)]) := by
  match r, h with
  | 0, _ => exact bo hT hd 16 (by decide)
  | 1, _ => exact bo hT hd 18 (by decide)
  | 2, _ => exact bo hT hd 20 (by decide)
  | 3, _ => exact bo hT hd 22 (by decide)
theorem boH {w : az_W} {a b r : Nat} {S T : az_S} (hT : BK w b T) (hd : b + 24 ≤ a ∨ a + 24 ≤ b) (h : r < 4) : bw w a S (b + 17 + 2 * r) = .inl (0, 8, .inl (T (8 + r))) := by
  match r, h with
  | 0, _ => exact bo hT hd 17 (by decide)
  | 1, _ => exact bo hT hd 19 (by decide)
  | 2, _ => exact bo hT hd 21 (by decide)
  | 3, _ => exact bo hT hd 23 (by decide)
/-- numbers 0 or 1 where a boolean stands -/
def SV (S : az_S) : Prop := (∀ i, i < 4 → S 7 i = 0 ∨ S 7 i = 1) ∧ (S 12 1 = 0 ∨ S 12 1 = 1) ∧ (S 12 3 = 0 ∨ S 12 3 = 1) ∧ (S 12 4 = 0 ∨ S 12 4 = 1) ∧ ∀ r, r < 4 → S 12 (10 + 2 * r) = 0 ∨ S 12 (10 + 2 * r) = 1
def dC1 (T S : az_S) : az_S := va_up (va_up (va_up S 0 (cpf (T 0) (S 0) 24)) 1 (cpf (T 1) (S 1) 24)) 2 (cpf (T 2) (S 2) 24)
def dC2 (T S : az_S) : az_S := va_up (sN (sN S 0 (T 12 0)) 1 (T 12 1)) 3 (cpf (T 3) (S 3) 8)
def dC3 (T S : az_S) : az_S := va_up (sN (sN S 2 (T 12 2)) 3 (T 12 3)) 4 (cpf (T 4) (S 4) 8)
def dC4 (T S : az_S) : az_S := va_up S 5 (cpf (T 5) (S 5) 8)
def dC5 (T S : az_S) : az_S := va_up (sN (sN S 4 (T 12 4)) 5 (T 12 5)) 6 (cpf (T 6) (S 6) 8)
def gC (T : az_S) (r : Nat) (S : az_S) : az_S := va_up (sN (sN S (9 + 2 * r) (T 12 (9 + 2 * r))) (10 + 2 * r) (T 12 (10 + 2 * r))) (8 + r) (cpf (T (8 + r)) (S (8 + r)) 8)
def dC6 (T S : az_S) : Nat → az_S
  | 0 => S
  | r + 1 => gC T r (va_up (dC6 T S r) 7 (upd (dC6 T S r 7) r (T 7 r)))
def dCp (T S : az_S) : az_S := sN (sN (sN (dC6 T (dC5 T (dC4 T (dC3 T (dC2 T (dC1 T S))))) 4) 6 (T 12 6)) 7 (T 12 7)) 8 (T 12 8)

set_option maxRecDepth 20000 in
theorem s_become {X : az_X} {w : az_W} {sz sl : Nat} {a b : Nat} {n t x y : Int32} (h0 : w a = .inr (2, [.int n, .int t, .ref b])) (hy : y = 0 ∨ y = 1) : az_M X 24 [.ref a, .int x, .int y] w sz sl (none, va_up w a (.inr (2, [.int x, .int y, .ref b])), sz, sl) := by
  refine az_Mof hd24 ?_
  show az_Ev X 24 0 [.ref a, .int x, .int y] [] w sz sl _
  refine E_al0 k24_0 ?_
  refine E_il1 k24_1 ?_
  refine E_put k24_2 h0 (Nat.le_of_ble_eq_true rfl) (az_fiti rfl) ?_
  refine E_al0 k24_3 ?_
  refine E_il2 k24_4 ?_
  refine E_put k24_5 up_eq (Nat.le_of_ble_eq_true rfl) (az_fitb (by assumption)) ?_
  exact E_vret k24_6 hd24 rfl (by rw [up_up]; rfl)
set_option maxRecDepth 20000 in
theorem s_newTable {X : az_X} {w : az_W} {sz sl : Nat} {a : Nat} {S : az_S} {y : Int32} (hm : S 12 6 = 0 ∨ S 12 6 = 1) (hy : y = 0 ∨ y = 1) : az_M X 78 [.ref a, .int y] (bw w a S) sz sl (none, bw w a (nT S y 8), sz, sl) := by
  refine az_Mof hd78 ?_
  show az_Ev X 78 0 [.ref a, .int y, .null, .null, .null] [] (bw w a S) sz sl _
  refine E_al0 k78_0 ?_
  refine E_cv0 k78_1 (Or.inl rfl) bw_0 cl64 rfl rfl s_oldGeneration ?_
  refine E_as2 k78_2 rfl ?_
  refine E_al0 k78_3 ?_
  refine E_iconst k78_4 ?_
  refine E_al0 k78_5 ?_
  refine E_get k78_6 bw_0 rfl ?_
  refine E_isub k78_7 ?_
  refine E_cv1 k78_8 (Or.inl rfl) bw_0 cl63 rfl rfl s_tableAt ?_
  refine E_as3 k78_9 rfl ?_
  refine E_al3 k78_10 ?_
  refine E_al2 k78_11 ?_
  refine E_cv0 k78_12 (Or.inl rfl) (bw_tA _) cl22 rfl rfl (s_gNumber (bw_tA _)) ?_
  refine E_iconst k78_13 ?_
  refine E_iadd k78_14 ?_
  refine E_il1 k78_15 ?_
  refine E_cv2 k78_16 (Or.inl rfl) (bw_tA _) cl24 rfl rfl (s_become (bw_tA _) hy) ?_
  rw [bw_become]
  refine E_iconst k78_17 ?_
  refine E_is4 k78_18 rfl ?_
  have loop19 : ∀ j : Nat, j ≤ 8 → az_Ev X 78 19 [.ref a, .int y, .ref (tA a (S 12 6)), .ref (tA a (1 - S 12 6)), .int (nI j)] [] (bw w a (nT S y j)) sz sl (none, bw w a (nT S y 8), sz, sl) := by
    refine az_ind 8 _ (fun j hj19 ih19 => ?_)
    refine E_il4 k78_19 ?_
    refine E_bipush k78_20 ?_
    refine E_icge k78_21 (fun c21 => ?_) (fun d21 => ?_)
    · skip
      have he19 := lp_t hj19 (by decide) rfl c21
      subst he19
      exact E_vret k78_40 hd78 rfl rfl
    · skip
      have hlt19 := lp_f (by omega) (by decide) rfl d21
      refine E_al3 k78_22 ?_
      refine E_il4 k78_23 ?_
      refine E_al0 k78_24 ?_
      refine E_get k78_25 bw_0 rfl ?_
      refine E_il4 k78_26 ?_
      refine E_cv1 k78_27 (Or.inl rfl) bw_9 cl14 rfl rfl (s_tellsOf bw_9 bw_10) ?_
      refine E_zeq k78_28 (fun c28 => ?_) (fun d28 => ?_)
      · skip
        have hk := Classical.not_not.mp (of_decide_eq_false c28)
        rw [nT_d (by decide) (by decide), T0_ne (by decide), ix_in hlt19 (by decide)] at hk
        refine E_al2 k78_34 ?_
        refine E_il4 k78_35 ?_
        refine E_cv1 k78_36 (Or.inl rfl) (bw_tA _) cl25 rfl rfl (s_cellOf (bw_tA _) (bw_tB _)) ?_
        refine E_cv2 k78_37 (Or.inl rfl) (bw_tA _) cl26 rfl rfl (s_give (bw_tA _) (bw_tB _)) ?_
        rw [bw_give, nT_new, ixu_in hlt19 (by decide)]
        refine E_inc4 k78_38 rfl ?_
        refine E_goto k78_39 ?_
        exact ev_cong (ih19 hlt19) (by rw [nI_1]) rfl (by first | (rw [nT_old hm, ix_in hlt19 (by decide), ← nT_s, nC, if_pos hk]; rfl) | (rw [nT_d (by decide) (by decide), T0_ne (by decide), ix_in hlt19 (by decide), ← nT_s, nC, if_neg hk]; done))
      · skip
        have hk := of_decide_eq_true d28
        rw [nT_d (by decide) (by decide), T0_ne (by decide), ix_in hlt19 (by decide)] at hk
        refine E_al0 k78_29 ?_
        refine E_get k78_30 bw_0 rfl ?_
        refine E_il4 k78_31 ?_
        refine E_cv1 k78_32 (Or.inl rfl) bw_11 cl90 rfl rfl (s_cellWrittenFor bw_11 bw_12) ?_
        refine E_goto k78_33 ?_
        refine E_cv2 k78_37 (Or.inl rfl) (bw_tA _) cl26 rfl rfl (s_give (bw_tA _) (bw_tB _)) ?_
        rw [bw_give, nT_new, ixu_in hlt19 (by decide)]
        refine E_inc4 k78_38 rfl ?_
        refine E_goto k78_39 ?_
        exact ev_cong (ih19 hlt19) (by rw [nI_1]) rfl (by first | (rw [nT_old hm, ix_in hlt19 (by decide), ← nT_s, nC, if_pos hk]; rfl) | (rw [nT_d (by decide) (by decide), T0_ne (by decide), ix_in hlt19 (by decide), ← nT_s, nC, if_neg hk]; done))
  exact ev_cong (loop19 0 (Nat.zero_le _)) rfl rfl (by rw [nT_0]; rfl)
set_option maxRecDepth 20000 in
theorem s_genCopy {X : az_X} {w : az_W} {sz sl : Nat} {a b a2 b2 : Nat} {n t n2 t2 : Int32} {f f2 : Nat → Int32} (h0 : w a = .inr (2, [.int n, .int t, .ref b])) (h1 : w b = .inl (0, 8, .inl f)) (g0 : w a2 = .inr (2, [.int n2, .int t2, .ref b2])) (g1 : w b2 = .inl (0, 8, .inl f2)) (e1 : a2 ≠ a) (e2 : b ≠ a) (e3 : b2 ≠ a) (e4 : b2 ≠ b) (ht : t2 = 0 ∨ t2 = 1) : az_M X 30 [.ref a, .ref a2] w sz sl (none, va_up (va_up w a (.inr (2, [.int n2, .int t2, .ref b]))) b (.inl (0, 8, .inl (cpf f2 f 8))), sz, sl) := by
  refine az_Mof hd30 ?_
  show az_Ev X 30 0 [.ref a, .ref a2] [] w sz sl _
  refine E_al0 k30_0 ?_
  refine E_al1 k30_1 ?_
  refine E_get k30_2 g0 rfl ?_
  refine E_put k30_3 h0 (Nat.le_of_ble_eq_true rfl) (az_fiti rfl) ?_
  refine E_al0 k30_4 ?_
  refine E_al1 k30_5 ?_
  refine E_get k30_6 (up_ne g0 e1) rfl ?_
  refine E_put k30_7 up_eq (Nat.le_of_ble_eq_true rfl) (az_fitb (by assumption)) ?_
  rw [up_up]
  refine E_al1 k30_8 ?_
  refine E_get k30_9 (up_ne g0 e1) rfl ?_
  refine E_al0 k30_10 ?_
  refine E_get k30_11 up_eq rfl ?_
  refine E_cs2 k30_12 (Or.inr rfl) rfl rfl (s_copyInts (up_ne g1 e3) (up_ne h1 e2) e4 (by decide)) ?_
  exact E_vret k30_13 hd30 rfl rfl
set_option maxRecDepth 20000 in
theorem s_cellsCopy {X : az_X} {w : az_W} {sz sl : Nat} {a b : Nat} {S T : az_S} (hT : BK w b T) (hd : b + 24 ≤ a ∨ a + 24 ≤ b) : az_M X 11 [.ref (a + 1), .ref (b + 1)] (bw w a S) sz sl (none, bw w a (dC1 T S), sz, sl) := by
  refine az_Mof hd11 ?_
  show az_Ev X 11 0 [.ref (a + 1), .ref (b + 1)] [] (bw w a S) sz sl _
  refine E_al1 k11_0 ?_
  refine E_get k11_1 (bo hT hd 1 (by decide)) rfl ?_
  refine E_al0 k11_2 ?_
  refine E_get k11_3 bw_1 rfl ?_
  refine E_cs2 k11_4 (Or.inr rfl) rfl rfl (s_copyInts (bo hT hd 2 (by decide)) bw_2 (by omega) (by decide)) ?_
  rw [bu_2]
  refine E_al1 k11_5 ?_
  refine E_get k11_6 (bo hT hd 1 (by decide)) rfl ?_
  refine E_al0 k11_7 ?_
  refine E_get k11_8 bw_1 rfl ?_
  refine E_cs2 k11_9 (Or.inr rfl) rfl rfl (s_copyInts (bo hT hd 3 (by decide)) bw_3 (by omega) (by decide)) ?_
  rw [bu_3]
  refine E_al1 k11_10 ?_
  refine E_get k11_11 (bo hT hd 1 (by decide)) rfl ?_
  refine E_al0 k11_12 ?_
  refine E_get k11_13 bw_1 rfl ?_
  refine E_cs2 k11_14 (Or.inr rfl) rfl rfl (s_copyInts (bo hT hd 4 (by decide)) bw_4 (by omega) (by decide)) ?_
  rw [bu_4]
  exact E_vret k11_15 hd11 rfl rfl
set_option maxRecDepth 20000 in
theorem s_deskCopy {X : az_X} {w : az_W} {sz sl : Nat} {a b : Nat} {S T : az_S} (hT : BK w b T) (hd : b + 24 ≤ a ∨ a + 24 ≤ b) : az_M X 20 [.ref (a + 9), .ref (b + 9)] (bw w a S) sz sl (none, bw w a (dC4 T S), sz, sl) := by
  refine az_Mof hd20 ?_
  show az_Ev X 20 0 [.ref (a + 9), .ref (b + 9)] [] (bw w a S) sz sl _
  refine E_al1 k20_0 ?_
  refine E_get k20_1 (bo hT hd 9 (by decide)) rfl ?_
  refine E_al0 k20_2 ?_
  refine E_get k20_3 bw_9 rfl ?_
  refine E_cs2 k20_4 (Or.inr rfl) rfl rfl (s_copyInts (bo hT hd 10 (by decide)) bw_10 (by omega) (by decide)) ?_
  rw [bu_10]
  exact E_vret k20_5 hd20 rfl rfl
set_option maxRecDepth 20000 in
theorem s_swapCopy {X : az_X} {w : az_W} {sz sl : Nat} {a b : Nat} {S T : az_S} (hT : BK w b T) (hd : b + 24 ≤ a ∨ a + 24 ≤ b) (hv : T 12 4 = 0 ∨ T 12 4 = 1) : az_M X 92 [.ref (a + 11), .ref (b + 11)] (bw w a S) sz sl (none, bw w a (dC5 T S), sz, sl) := by
  refine az_Mof hd92 ?_
  show az_Ev X 92 0 [.ref (a + 11), .ref (b + 11)] [] (bw w a S) sz sl _
  refine E_al0 k92_0 ?_
  refine E_al1 k92_1 ?_
  refine E_get k92_2 (bo hT hd 11 (by decide)) rfl ?_
  refine E_put k92_3 bw_11 (Nat.le_of_ble_eq_true rfl) (az_fitb (by assumption)) ?_
  rw [bn_4]
  refine E_al0 k92_4 ?_
  refine E_al1 k92_5 ?_
  refine E_get k92_6 (bo hT hd 11 (by decide)) rfl ?_
  refine E_put k92_7 bw_11 (Nat.le_of_ble_eq_true rfl) (az_fiti rfl) ?_
  rw [bn_5]
  refine E_al1 k92_8 ?_
  refine E_get k92_9 (bo hT hd 11 (by decide)) rfl ?_
  refine E_al0 k92_10 ?_
  refine E_get k92_11 bw_11 rfl ?_
  refine E_cs2 k92_12 (Or.inr rfl) rfl rfl (s_copyInts (bo hT hd 12 (by decide)) bw_12 (by omega) (by decide)) ?_
  rw [bu_12]
  exact E_vret k92_13 hd92 rfl rfl
set_option maxRecDepth 20000 in
theorem s_readersCopy {X : az_X} {w : az_W} {sz sl : Nat} {a b : Nat} {S T : az_S} (hT : BK w b T) (hd : b + 24 ≤ a ∨ a + 24 ≤ b) (hv : SV T) : az_M X 58 [.ref (a + 13), .ref (b + 13)] (bw w a S) sz sl (none, bw w a (dC6 T S 4), sz, sl) := by
  refine az_Mof hd58 ?_
  show az_Ev X 58 0 [.ref (a + 13), .ref (b + 13), .null] [] (bw w a S) sz sl _
  refine E_iconst k58_0 ?_
  refine E_is2 k58_1 rfl ?_
  have loop2 : ∀ j : Nat, j ≤ 4 → az_Ev X 58 2 [.ref (a + 13), .ref (b + 13), .int (nI j)] [] (bw w a (dC6 T S j)) sz sl (none, bw w a (dC6 T S 4), sz, sl) := by
    refine az_ind 4 _ (fun j hj2 ih2 => ?_)
    refine E_il2 k58_2 ?_
    refine E_iconst k58_3 ?_
    refine E_icge k58_4 (fun c4 => ?_) (fun d4 => ?_)
    · skip
      have he2 := lp_t hj2 (by decide) rfl c4
      subst he2
      exact E_vret k58_24 hd58 rfl rfl
    · skip
      have hlt2 := lp_f (by omega) (by decide) rfl d4
      refine E_al0 k58_5 ?_
      refine E_get k58_6 bw_13 rfl ?_
      refine E_il2 k58_7 ?_
      refine E_al1 k58_8 ?_
      refine E_get k58_9 (bo hT hd 13 (by decide)) rfl ?_
      refine E_il2 k58_10 ?_
      refine E_ald k58_11 rfl (bo hT hd 14 (by decide)) hlt2 (by decide) ?_
      refine E_bast k58_12 bw_14 hlt2 (by decide) (hv.1 _ hlt2) ?_
      rw [bu_14]
      refine E_al0 k58_13 ?_
      refine E_get k58_14 bw_13 rfl ?_
      refine E_il2 k58_15 ?_
      refine E_aald k58_16 bw_15 (Or.inl rfl) hlt2 (by decide) (kfn_at a hlt2) ?_
      refine E_al1 k58_17 ?_
      refine E_get k58_18 (bo hT hd 13 (by decide)) rfl ?_
      refine E_il2 k58_19 ?_
      refine E_aald k58_20 (bo hT hd 15 (by decide)) (Or.inl rfl) hlt2 (by decide) (kfn_at b hlt2) ?_
      refine E_cv1 k58_21 (Or.inl rfl) (bw_G hlt2) cl30 rfl rfl (s_genCopy (bw_G hlt2) (bw_H hlt2) (boG hT hd hlt2) (boH hT hd hlt2) (by omega) (by omega) (by omega) (by omega) (hv.2.2.2.2 _ hlt2)) ?_
      rw [bw_gen hlt2]
      refine E_inc2 k58_22 rfl ?_
      refine E_goto k58_23 ?_
      exact ev_cong (ih2 hlt2) (by rw [nI_1]) rfl rfl
  exact ev_cong (loop2 0 (Nat.zero_le _)) rfl rfl rfl
theorem s_tabCopy1 {X : az_X} {w : az_W} {sz sl : Nat} {a b : Nat} {S T : az_S} (hT : BK w b T) (hd : b + 24 ≤ a ∨ a + 24 ≤ b) (hv : SV T) : az_M X 30 [.ref (a + 5), .ref (b + 5)] (bw w a S) sz sl (none, bw w a (dC2 T S), sz, sl) := by
  have h := s_genCopy (X := X) (sz := sz) (sl := sl) (bw_5 (w := w) (a := a) (S := S)) bw_6 (bo hT hd 5 (by decide)) (bo hT hd 6 (by decide)) (by omega) (by omega) (by omega) (by omega) hv.2.1
  have e := bw_become (w := w) (a := a) (S := S) (x := T 12 0) (y := T 12 1) 0
  simp only [tA, tB, if_pos] at e
  rw [e, bu_6] at h
  exact h
theorem s_tabCopy2 {X : az_X} {w : az_W} {sz sl : Nat} {a b : Nat} {S T : az_S} (hT : BK w b T) (hd : b + 24 ≤ a ∨ a + 24 ≤ b) (hv : SV T) : az_M X 30 [.ref (a + 7), .ref (b + 7)] (bw w a S) sz sl (none, bw w a (dC3 T S), sz, sl) := by
  have h := s_genCopy (X := X) (sz := sz) (sl := sl) (bw_7 (w := w) (a := a) (S := S)) bw_8 (bo hT hd 7 (by decide)) (bo hT hd 8 (by decide)) (by omega) (by omega) (by omega) (by omega) hv.2.2.1
  have e := bw_become (w := w) (a := a) (S := S) (x := T 12 2) (y := T 12 3) 1
  simp only [tA, tB, if_neg (show ¬ (1 : Int32) = 0 by decide)] at e
  rw [e, bu_8] at h
  exact h
set_option maxRecDepth 20000 in
theorem s_stateCopy {X : az_X} {w : az_W} {sz sl : Nat} {a b : Nat} {S T : az_S} (hT : BK w b T) (hd : b + 24 ≤ a ∨ a + 24 ≤ b) (hv : SV T) : az_M X 82 [.ref a, .ref b] (bw w a S) sz sl (none, bw w a (dCp T S), sz, sl) := by
  refine az_Mof hd82 ?_
  show az_Ev X 82 0 [.ref a, .ref b] [] (bw w a S) sz sl _
  refine E_al0 k82_0 ?_
  refine E_get k82_1 bw_0 rfl ?_
  refine E_al1 k82_2 ?_
  refine E_get k82_3 (bo hT hd 0 (by decide)) rfl ?_
  refine E_cv1 k82_4 (Or.inl rfl) bw_1 cl11 rfl rfl (s_cellsCopy hT hd) ?_
  refine E_al0 k82_5 ?_
  refine E_get k82_6 bw_0 rfl ?_
  refine E_al1 k82_7 ?_
  refine E_get k82_8 (bo hT hd 0 (by decide)) rfl ?_
  refine E_cv1 k82_9 (Or.inl rfl) bw_5 cl30 rfl rfl (s_tabCopy1 hT hd hv) ?_
  refine E_al0 k82_10 ?_
  refine E_get k82_11 bw_0 rfl ?_
  refine E_al1 k82_12 ?_
  refine E_get k82_13 (bo hT hd 0 (by decide)) rfl ?_
  refine E_cv1 k82_14 (Or.inl rfl) bw_7 cl30 rfl rfl (s_tabCopy2 hT hd hv) ?_
  refine E_al0 k82_15 ?_
  refine E_get k82_16 bw_0 rfl ?_
  refine E_al1 k82_17 ?_
  refine E_get k82_18 (bo hT hd 0 (by decide)) rfl ?_
  refine E_cv1 k82_19 (Or.inl rfl) bw_9 cl20 rfl rfl (s_deskCopy hT hd) ?_
  refine E_al0 k82_20 ?_
  refine E_get k82_21 bw_0 rfl ?_
  refine E_al1 k82_22 ?_
  refine E_get k82_23 (bo hT hd 0 (by decide)) rfl ?_
  refine E_cv1 k82_24 (Or.inl rfl) bw_11 cl92 rfl rfl (s_swapCopy hT hd hv.2.2.2.1) ?_
  refine E_al0 k82_25 ?_
  refine E_get k82_26 bw_0 rfl ?_
  refine E_al1 k82_27 ?_
  refine E_get k82_28 (bo hT hd 0 (by decide)) rfl ?_
  refine E_cv1 k82_29 (Or.inl rfl) bw_13 cl58 rfl rfl (s_readersCopy hT hd hv) ?_
  refine E_al0 k82_30 ?_
  refine E_al1 k82_31 ?_
  refine E_get k82_32 (bo hT hd 0 (by decide)) rfl ?_
  refine E_put k82_33 bw_0 (Nat.le_of_ble_eq_true rfl) (az_fiti rfl) ?_
  rw [bn_6]
  refine E_al0 k82_34 ?_
  refine E_al1 k82_35 ?_
  refine E_get k82_36 (bo hT hd 0 (by decide)) rfl ?_
  refine E_put k82_37 bw_0 (Nat.le_of_ble_eq_true rfl) (az_fiti rfl) ?_
  rw [bn_7]
  refine E_al0 k82_38 ?_
  refine E_al1 k82_39 ?_
  refine E_get k82_40 (bo hT hd 0 (by decide)) rfl ?_
  refine E_put k82_41 bw_0 (Nat.le_of_ble_eq_true rfl) (az_fiti rfl) ?_
  rw [bn_8]
  exact E_vret k82_42 hd82 rfl rfl
