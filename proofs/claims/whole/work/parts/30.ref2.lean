/-! methods' runs, laid by wip/whole/walk.py out of wip/whole/specs15.py -/
/-! more of the reference's queries -/
def tR (f : Nat → Int32) (j : Nat) : Bool := decide (¬ f (24 + j) = sealOf (f (0 + j)))
def nF (f : Nat → Int32) (mk : Nat) : Nat → Int32
  | 0 => -5
  | n + 1 => if isF f mk (nI n) = true then (if nF f mk n = -5 then nI n else if f (48 + (nF f mk n).toNatClampNeg) ≤ f (48 + n) then nF f mk n else nI n) else nF f mk n
theorem nF_c {f : Nat → Int32} {mk : Nat} : ∀ {n : Nat}, n < 2 ^ 31 → ¬ nF f mk n = -5 → nF f mk n = nI (nF f mk n).toNatClampNeg ∧ (nF f mk n).toNatClampNeg < n
  | 0, _, h => absurd rfl h
  | n + 1, hn, h => by
    have key : ¬ nF f mk n = -5 → nF f mk n = nI (nF f mk n).toNatClampNeg ∧ (nF f mk n).toNatClampNeg < n + 1 := fun q => ⟨(nF_c (by omega) q).1, Nat.lt_succ_of_lt (nF_c (by omega) q).2⟩
    have own : nI n = nI (nI n).toNatClampNeg ∧ (nI n).toNatClampNeg < n + 1 := by rw [nI_clamp (by omega)]; exact ⟨rfl, by omega⟩
    unfold nF at h ⊢
    by_cases h1 : isF f mk (nI n) = true
    · rw [if_pos h1] at h ⊢
      by_cases h2 : nF f mk n = -5
      · rw [if_pos h2]; exact own
      · rw [if_neg h2] at h ⊢
        by_cases h3 : f (48 + (nF f mk n).toNatClampNeg) ≤ f (48 + n)
        · rw [if_pos h3]; exact key h2
        · rw [if_neg h3]; exact own
    · rw [if_neg h1] at h ⊢
      exact key h
theorem nF_1 {f : Nat → Int32} {mk n : Nat} (h : isF f mk (nI n) = false) : nF f mk (n + 1) = nF f mk n := by rw [nF, if_neg (by rw [h]; decide)]
theorem nF_2 {f : Nat → Int32} {mk n : Nat} (h : isF f mk (nI n) = true) (h2 : nF f mk n = -5) : nF f mk (n + 1) = nI n := by rw [nF, if_pos h, if_pos h2]
theorem nF_3 {f : Nat → Int32} {mk n : Nat} (h : isF f mk (nI n) = true) (h2 : ¬ nF f mk n = -5) (h3 : f (48 + (nF f mk n).toNatClampNeg) ≤ f (48 + n)) : nF f mk (n + 1) = nF f mk n := by rw [nF, if_pos h, if_neg h2, if_pos h3]
theorem nF_4 {f : Nat → Int32} {mk n : Nat} (h : isF f mk (nI n) = true) (h2 : ¬ nF f mk n = -5) (h3 : ¬ f (48 + (nF f mk n).toNatClampNeg) ≤ f (48 + n)) : nF f mk (n + 1) = nI n := by rw [nF, if_pos h, if_neg h2, if_neg h3]
def tdR (f : Nat → Int32) : Nat := cnt (fun i => decide (¬ f (93 + i) = -5)) 8
def cR (f : Nat → Int32) : Nat := cnt (fun i => decide (¬ f (93 + i) < 0)) 8
def owR (f : Nat → Int32) : Int32 := if f 101 = 1 then nI (cR f) + 2 - f 102 else 0
def qR (f : Nat → Int32) (x : Int32) : Nat → Bool := fun i => decide (¬ f (93 + i) < 0) && decide (nI (cnt (fun i => decide (¬ f (93 + i) < 0)) i) = x)
def pqR (f : Nat → Int32) (x : Int32) : Int32 := fi (qR f x) 8
def csR (f : Nat → Int32) (mk : Nat) : Bool := decide (pqR f (f 102) = -5) || decide (¬ nF f mk 24 = -5)
def rdR (f : Nat → Int32) : Nat := cnt (fun r => isR f (nI r)) 4
def coR (f : Nat → Int32) (c : Int32) : Int32 := if c = -5 then -5 else f (0 + c.toNatClampNeg)
theorem sub_0 {x y : Int32} : x - y = 0 ↔ y = x := by
  constructor
  · intro h
    have := congrArg (· + y) h
    simpa using this.symm
  · rintro rfl
    exact Int32.sub_self _
theorem sub_1 {x y : Int32} : x - y + -1 = x - (y + 1) := by
  rw [Int32.sub_eq_add_neg, Int32.sub_eq_add_neg, Int32.neg_add, Int32.sub_eq_add_neg, Int32.add_assoc]
theorem bool_1 {b : Bool} : (if b = true then (1 : Int32) else 0) = zb b := by cases b <;> rfl
theorem isR_1 {f : Nat → Int32} {r : Int32} (h : isR f r = true) : f (111 + 10 * r.toNatClampNeg) = 1 := by
  unfold isR at h
  exact of_decide_eq_true (Bool.and_eq_true _ _ ▸ h).2

set_option maxRecDepth 20000 in
theorem r_isTorn {X : az_X} {w : az_W} {sz sl : Nat} {a b : Nat} {f : Nat → Int32} {fs : List Value} {x : Int32} {j : Nat} (h0 : w a = .inr (9, .ref b :: fs)) (h1 : w b = .inl (0, 153, .inl f)) (hx : x = nI j) (hj : j < 24) : az_M X 140 [.ref a, .int x] w sz sl (some (.int (zb (tR f j))), w, sz, sl) := by
  refine az_Mof hd140 ?_
  show az_Ev X 140 0 [.ref a, .int x] [] w sz sl _
  refine E_al0 k140_0 ?_
  refine E_get k140_1 (by assumption) rfl ?_
  refine E_bipush k140_2 ?_
  refine E_il1 k140_3 ?_
  refine E_iadd k140_4 ?_
  refine E_alx k140_5 (ixa (show (24 : Int32) = nI 24 from rfl) hx) rfl (by assumption) (by omega) (by decide) ?_
  refine E_al0 k140_6 ?_
  refine E_get k140_7 (by assumption) rfl ?_
  refine E_iconst k140_8 ?_
  refine E_il1 k140_9 ?_
  refine E_iadd k140_10 ?_
  refine E_alx k140_11 (ixa (show (0 : Int32) = nI 0 from rfl) hx) rfl (by assumption) (by omega) (by decide) ?_
  refine E_cs1 k140_12 (Or.inl rfl) rfl rfl r_sealOf ?_
  refine E_iceq k140_13 (fun c13 => ?_) (fun d13 => ?_)
  · skip
    refine E_iconst k140_16 ?_
    exact E_zret k140_17 hd140 rfl (by first | exact Or.inl rfl | exact Or.inr rfl | exact zb01 _ | assumption) (by first | (rw [tR, decide_eq_false (fun q => q c13)] <;> rfl) | (rw [tR, decide_eq_true d13] <;> rfl))
  · skip
    refine E_iconst k140_14 ?_
    refine E_goto k140_15 ?_
    exact E_zret k140_17 hd140 rfl (by first | exact Or.inl rfl | exact Or.inr rfl | exact zb01 _ | assumption) (by first | (rw [tR, decide_eq_false (fun q => q c13)] <;> rfl) | (rw [tR, decide_eq_true d13] <;> rfl))
set_option maxRecDepth 20000 in
theorem r_nextFree {X : az_X} {w : az_W} {sz sl : Nat} {a b : Nat} {f : Nat → Int32} {fs : List Value} {mk : Nat} (h0 : w a = .inr (9, .ref b :: fs)) (h1 : w b = .inl (0, 153, .inl f)) (hm : f 92 = nI mk) (hk : mk ≤ 1) : az_M X 141 [.ref a] w sz sl (some (.int (nF f mk 24)), w, sz, sl) := by
  refine az_Mof hd141 ?_
  show az_Ev X 141 0 [.ref a, .null, .null] [] w sz sl _
  refine E_bipush k141_0 ?_
  refine E_is1 k141_1 rfl ?_
  refine E_iconst k141_2 ?_
  refine E_is2 k141_3 rfl ?_
  have loop4 : ∀ j : Nat, j ≤ 24 → az_Ev X 141 4 [.ref a, .int (nF f mk j), .int (nI j)] [] w sz sl (some (.int (nF f mk 24)), w, sz, sl) := by
    refine az_ind 24 _ (fun j hj4 ih4 => ?_)
    refine E_il2 k141_4 ?_
    refine E_bipush k141_5 ?_
    refine E_icge k141_6 (fun c6 => ?_) (fun d6 => ?_)
    · skip
      have he4 := lp_t hj4 (by decide) rfl c6
      subst he4
      refine E_il1 k141_33 ?_
      exact E_iret k141_34 hd141 rfl rfl
    · skip
      have hlt4 : j < 24 := lp_f (by omega) (by decide) rfl d6
      refine E_al0 k141_7 ?_
      refine E_il2 k141_8 ?_
      refine E_cv1 k141_9 (Or.inl rfl) (by assumption) cl139 rfl rfl (r_isFree h0 h1 hm hk) ?_
      refine E_zeq k141_10 (fun c10 => ?_) (fun d10 => ?_)
      · skip
        refine E_il1 k141_29 ?_
        refine E_is1 k141_30 rfl ?_
        refine E_inc2 k141_31 rfl ?_
        refine E_goto k141_32 ?_
        exact ev_cong (ih4 hlt4) (by first | (rw [nI_1, nF_1 c10] <;> rfl) | (rw [nI_1, nF_2 d10 c13] <;> rfl) | (rw [nI_1, nF_3 d10 d13 c26] <;> rfl) | (rw [nI_1, nF_4 d10 d13 d26] <;> rfl)) rfl rfl
      · skip
        refine E_il1 k141_11 ?_
        refine E_bipush k141_12 ?_
        refine E_iceq k141_13 (fun c13 => ?_) (fun d13 => ?_)
        · skip
          refine E_il2 k141_27 ?_
          refine E_goto k141_28 ?_
          refine E_is1 k141_30 rfl ?_
          refine E_inc2 k141_31 rfl ?_
          refine E_goto k141_32 ?_
          exact ev_cong (ih4 hlt4) (by first | (rw [nI_1, nF_1 c10] <;> rfl) | (rw [nI_1, nF_2 d10 c13] <;> rfl) | (rw [nI_1, nF_3 d10 d13 c26] <;> rfl) | (rw [nI_1, nF_4 d10 d13 d26] <;> rfl)) rfl rfl
        · skip
          have hb := nF_c (by omega) d13
          refine E_al0 k141_14 ?_
          refine E_get k141_15 (by assumption) rfl ?_
          refine E_bipush k141_16 ?_
          refine E_il2 k141_17 ?_
          refine E_iadd k141_18 ?_
          refine E_alx k141_19 (ixa (show (48 : Int32) = nI 48 from rfl) rfl) rfl (by assumption) (by omega) (by decide) ?_
          refine E_al0 k141_20 ?_
          refine E_get k141_21 (by assumption) rfl ?_
          refine E_bipush k141_22 ?_
          refine E_il1 k141_23 ?_
          refine E_iadd k141_24 ?_
          refine E_alx k141_25 (ixa (show (48 : Int32) = nI 48 from rfl) hb.1) rfl (by assumption) (by omega) (by decide) ?_
          refine E_icge k141_26 (fun c26 => ?_) (fun d26 => ?_)
          · skip
            refine E_il1 k141_29 ?_
            refine E_is1 k141_30 rfl ?_
            refine E_inc2 k141_31 rfl ?_
            refine E_goto k141_32 ?_
            exact ev_cong (ih4 hlt4) (by first | (rw [nI_1, nF_1 c10] <;> rfl) | (rw [nI_1, nF_2 d10 c13] <;> rfl) | (rw [nI_1, nF_3 d10 d13 c26] <;> rfl) | (rw [nI_1, nF_4 d10 d13 d26] <;> rfl)) rfl rfl
          · skip
            refine E_il2 k141_27 ?_
            refine E_goto k141_28 ?_
            refine E_is1 k141_30 rfl ?_
            refine E_inc2 k141_31 rfl ?_
            refine E_goto k141_32 ?_
            exact ev_cong (ih4 hlt4) (by first | (rw [nI_1, nF_1 c10] <;> rfl) | (rw [nI_1, nF_2 d10 c13] <;> rfl) | (rw [nI_1, nF_3 d10 d13 c26] <;> rfl) | (rw [nI_1, nF_4 d10 d13 d26] <;> rfl)) rfl rfl
  exact ev_cong (loop4 0 (Nat.zero_le _)) rfl rfl rfl
set_option maxRecDepth 20000 in
theorem r_told {X : az_X} {w : az_W} {sz sl : Nat} {a b : Nat} {f : Nat → Int32} {fs : List Value} (h0 : w a = .inr (9, .ref b :: fs)) (h1 : w b = .inl (0, 153, .inl f)) : az_M X 143 [.ref a] w sz sl (some (.int (nI (tdR f))), w, sz, sl) := by
  refine az_Mof hd143 ?_
  show az_Ev X 143 0 [.ref a, .null, .null] [] w sz sl _
  refine E_iconst k143_0 ?_
  refine E_is1 k143_1 rfl ?_
  refine E_iconst k143_2 ?_
  refine E_is2 k143_3 rfl ?_
  have loop4 : ∀ j : Nat, j ≤ 8 → az_Ev X 143 4 [.ref a, .int (nI (cnt (fun i => decide (¬ f (93 + i) = -5)) j)), .int (nI j)] [] w sz sl (some (.int (nI (tdR f))), w, sz, sl) := by
    refine az_ind 8 _ (fun j hj4 ih4 => ?_)
    refine E_il2 k143_4 ?_
    refine E_bipush k143_5 ?_
    refine E_icge k143_6 (fun c6 => ?_) (fun d6 => ?_)
    · skip
      have he4 := lp_t hj4 (by decide) rfl c6
      subst he4
      refine E_il1 k143_23 ?_
      exact E_iret k143_24 hd143 rfl rfl
    · skip
      have hlt4 : j < 8 := lp_f (by omega) (by decide) rfl d6
      refine E_il1 k143_7 ?_
      refine E_al0 k143_8 ?_
      refine E_get k143_9 (by assumption) rfl ?_
      refine E_bipush k143_10 ?_
      refine E_il2 k143_11 ?_
      refine E_iadd k143_12 ?_
      refine E_alx k143_13 (ixa (show (93 : Int32) = nI 93 from rfl) rfl) rfl (by assumption) (by omega) (by decide) ?_
      refine E_bipush k143_14 ?_
      refine E_iceq k143_15 (fun c15 => ?_) (fun d15 => ?_)
      · skip
        refine E_iconst k143_18 ?_
        refine E_iadd k143_19 ?_
        refine E_is1 k143_20 rfl ?_
        refine E_inc2 k143_21 rfl ?_
        refine E_goto k143_22 ?_
        exact ev_cong (ih4 hlt4) (by first | (rw [nI_1, cnt_t (by exact decide_eq_true d15), nI_1] <;> rfl) | (rw [nI_1, cnt_f (by exact decide_eq_false (fun q => q c15))]; exact congrArg (fun q => [Value.ref a, Value.int q, Value.int (nI (j + 1))]) (Int32.add_zero _))) rfl rfl
      · skip
        refine E_iconst k143_16 ?_
        refine E_goto k143_17 ?_
        refine E_iadd k143_19 ?_
        refine E_is1 k143_20 rfl ?_
        refine E_inc2 k143_21 rfl ?_
        refine E_goto k143_22 ?_
        exact ev_cong (ih4 hlt4) (by first | (rw [nI_1, cnt_t (by exact decide_eq_true d15), nI_1] <;> rfl) | (rw [nI_1, cnt_f (by exact decide_eq_false (fun q => q c15))]; exact congrArg (fun q => [Value.ref a, Value.int q, Value.int (nI (j + 1))]) (Int32.add_zero _))) rfl rfl
  exact ev_cong (loop4 0 (Nat.zero_le _)) rfl rfl rfl
set_option maxRecDepth 20000 in
theorem r_contents {X : az_X} {w : az_W} {sz sl : Nat} {a b : Nat} {f : Nat → Int32} {fs : List Value} (h0 : w a = .inr (9, .ref b :: fs)) (h1 : w b = .inl (0, 153, .inl f)) : az_M X 150 [.ref a] w sz sl (some (.int (nI (cR f))), w, sz, sl) := by
  refine az_Mof hd150 ?_
  show az_Ev X 150 0 [.ref a, .null, .null] [] w sz sl _
  refine E_iconst k150_0 ?_
  refine E_is1 k150_1 rfl ?_
  refine E_iconst k150_2 ?_
  refine E_is2 k150_3 rfl ?_
  have loop4 : ∀ j : Nat, j ≤ 8 → az_Ev X 150 4 [.ref a, .int (nI (cnt (fun i => decide (¬ f (93 + i) < 0)) j)), .int (nI j)] [] w sz sl (some (.int (nI (cR f))), w, sz, sl) := by
    refine az_ind 8 _ (fun j hj4 ih4 => ?_)
    refine E_il2 k150_4 ?_
    refine E_bipush k150_5 ?_
    refine E_icge k150_6 (fun c6 => ?_) (fun d6 => ?_)
    · skip
      have he4 := lp_t hj4 (by decide) rfl c6
      subst he4
      refine E_il1 k150_22 ?_
      exact E_iret k150_23 hd150 rfl rfl
    · skip
      have hlt4 : j < 8 := lp_f (by omega) (by decide) rfl d6
      refine E_il1 k150_7 ?_
      refine E_al0 k150_8 ?_
      refine E_get k150_9 (by assumption) rfl ?_
      refine E_bipush k150_10 ?_
      refine E_il2 k150_11 ?_
      refine E_iadd k150_12 ?_
      refine E_alx k150_13 (ixa (show (93 : Int32) = nI 93 from rfl) rfl) rfl (by assumption) (by omega) (by decide) ?_
      refine E_iflt k150_14 (fun c14 => ?_) (fun d14 => ?_)
      · skip
        refine E_iconst k150_17 ?_
        refine E_iadd k150_18 ?_
        refine E_is1 k150_19 rfl ?_
        refine E_inc2 k150_20 rfl ?_
        refine E_goto k150_21 ?_
        exact ev_cong (ih4 hlt4) (by first | (rw [nI_1, cnt_t (by exact decide_eq_true d14), nI_1] <;> rfl) | (rw [nI_1, cnt_f (by exact decide_eq_false (fun q => q c14))]; exact congrArg (fun q => [Value.ref a, Value.int q, Value.int (nI (j + 1))]) (Int32.add_zero _))) rfl rfl
      · skip
        refine E_iconst k150_15 ?_
        refine E_goto k150_16 ?_
        refine E_iadd k150_18 ?_
        refine E_is1 k150_19 rfl ?_
        refine E_inc2 k150_20 rfl ?_
        refine E_goto k150_21 ?_
        exact ev_cong (ih4 hlt4) (by first | (rw [nI_1, cnt_t (by exact decide_eq_true d14), nI_1] <;> rfl) | (rw [nI_1, cnt_f (by exact decide_eq_false (fun q => q c14))]; exact congrArg (fun q => [Value.ref a, Value.int q, Value.int (nI (j + 1))]) (Int32.add_zero _))) rfl rfl
  exact ev_cong (loop4 0 (Nat.zero_le _)) rfl rfl rfl
set_option maxRecDepth 20000 in
theorem r_owes {X : az_X} {w : az_W} {sz sl : Nat} {a b : Nat} {f : Nat → Int32} {fs : List Value} (h0 : w a = .inr (9, .ref b :: fs)) (h1 : w b = .inl (0, 153, .inl f)) : az_M X 151 [.ref a] w sz sl (some (.int (owR f)), w, sz, sl) := by
  refine az_Mof hd151 ?_
  show az_Ev X 151 0 [.ref a] [] w sz sl _
  refine E_al0 k151_0 ?_
  refine E_get k151_1 (by assumption) rfl ?_
  refine E_bipush k151_2 ?_
  refine E_alx k151_3 (show (101 : Int32) = nI 101 from rfl) rfl (by assumption) (by omega) (by decide) ?_
  refine E_iconst k151_4 ?_
  refine E_icne k151_5 (fun c5 => ?_) (fun d5 => ?_)
  · skip
    refine E_iconst k151_16 ?_
    exact E_iret k151_17 hd151 rfl (by first | (rw [owR, if_neg c5] <;> rfl) | (rw [owR, if_pos (Classical.not_not.mp d5)] <;> rfl))
  · skip
    refine E_al0 k151_6 ?_
    refine E_cv0 k151_7 (Or.inl rfl) (by assumption) cl150 rfl rfl (r_contents h0 h1) ?_
    refine E_iconst k151_8 ?_
    refine E_iadd k151_9 ?_
    refine E_al0 k151_10 ?_
    refine E_get k151_11 (by assumption) rfl ?_
    refine E_bipush k151_12 ?_
    refine E_alx k151_13 (show (102 : Int32) = nI 102 from rfl) rfl (by assumption) (by omega) (by decide) ?_
    refine E_isub k151_14 ?_
    refine E_goto k151_15 ?_
    exact E_iret k151_17 hd151 rfl (by first | (rw [owR, if_neg c5] <;> rfl) | (rw [owR, if_pos (Classical.not_not.mp d5)] <;> rfl))
set_option maxRecDepth 20000 in
theorem r_pageOf {X : az_X} {w : az_W} {sz sl : Nat} {a b : Nat} {f : Nat → Int32} {fs : List Value} {x : Int32} (h0 : w a = .inr (9, .ref b :: fs)) (h1 : w b = .inl (0, 153, .inl f)) : az_M X 152 [.ref a, .int x] w sz sl (some (.int (pqR f x)), w, sz, sl) := by
  refine az_Mof hd152 ?_
  show az_Ev X 152 0 [.ref a, .int x, .null, .null] [] w sz sl _
  refine E_il1 k152_0 ?_
  refine E_is2 k152_1 rfl ?_
  refine E_iconst k152_2 ?_
  refine E_is3 k152_3 rfl ?_
  have loop4 : ∀ j : Nat, j ≤ 8 → (∀ i, i < j → qR f x i = false) → az_Ev X 152 4 [.ref a, .int x, .int (x - nI (cnt (fun i => decide (¬ f (93 + i) < 0)) j)), .int (nI j)] [] w sz sl (some (.int (pqR f x)), w, sz, sl) := by
    refine az_ind 8 _ (fun j hj4 ih4 => ?_)
    intro hv4
    refine E_il3 k152_4 ?_
    refine E_bipush k152_5 ?_
    refine E_icge k152_6 (fun c6 => ?_) (fun d6 => ?_)
    · skip
      have he4 := lp_t hj4 (by decide) rfl c6
      subst he4
      refine E_bipush k152_21 ?_
      exact E_iret k152_22 hd152 rfl (by rw [pqR, fi_none hv4])
    · skip
      have hlt4 : j < 8 := lp_f (by omega) (by decide) rfl d6
      refine E_al0 k152_7 ?_
      refine E_get k152_8 (by assumption) rfl ?_
      refine E_bipush k152_9 ?_
      refine E_il3 k152_10 ?_
      refine E_iadd k152_11 ?_
      refine E_alx k152_12 (ixa (show (93 : Int32) = nI 93 from rfl) rfl) rfl (by assumption) (by omega) (by decide) ?_
      refine E_iflt k152_13 (fun c13 => ?_) (fun d13 => ?_)
      · skip
        have hq : qR f x j = false := by rw [qR, decide_eq_false (fun q => q c13)]; rfl
        refine E_inc3 k152_19 rfl ?_
        refine E_goto k152_20 ?_
        exact ev_cong (ih4 hlt4 (fun i h => by rcases Nat.lt_succ_iff_lt_or_eq.mp h with q | rfl; exact hv4 i q; exact hq)) (by first | (rw [nI_1, cnt_f (by exact decide_eq_false (fun q => q c13))] <;> rfl) | (rw [nI_1, cnt_t (by exact decide_eq_true d13), sub_1, nI_1] <;> rfl)) rfl rfl
      · skip
        refine E_il2 k152_14 ?_
        refine E_ifne k152_15 (fun c15 => ?_) (fun d15 => ?_)
        · skip
          have hq : qR f x j = false := by rw [qR, decide_eq_false (fun q => c15 (sub_0.mpr q)), Bool.and_false]
          refine E_inc2 k152_18 rfl ?_
          refine E_inc3 k152_19 rfl ?_
          refine E_goto k152_20 ?_
          exact ev_cong (ih4 hlt4 (fun i h => by rcases Nat.lt_succ_iff_lt_or_eq.mp h with q | rfl; exact hv4 i q; exact hq)) (by first | (rw [nI_1, cnt_f (by exact decide_eq_false (fun q => q c13))] <;> rfl) | (rw [nI_1, cnt_t (by exact decide_eq_true d13), sub_1, nI_1] <;> rfl)) rfl rfl
        · skip
          refine E_il3 k152_16 ?_
          exact E_iret k152_17 hd152 rfl (by rw [pqR, fi_hit hv4 (by rw [qR, decide_eq_true d13, decide_eq_true (sub_0.mp (Classical.not_not.mp d15))] <;> rfl) hlt4])
  exact ev_cong (loop4 0 (Nat.zero_le _) (fun i h => absurd h (by omega))) (by rw [show nI (cnt (fun i => decide (¬ f (93 + i) < 0)) 0) = 0 from rfl, Int32.sub_zero] <;> rfl) rfl rfl
set_option maxRecDepth 20000 in
theorem r_canStep {X : az_X} {w : az_W} {sz sl : Nat} {a b : Nat} {f : Nat → Int32} {fs : List Value} {mk : Nat} (h0 : w a = .inr (9, .ref b :: fs)) (h1 : w b = .inl (0, 153, .inl f)) (hm : f 92 = nI mk) (hk : mk ≤ 1) : az_M X 155 [.ref a] w sz sl (some (.int (zb (csR f mk))), w, sz, sl) := by
  refine az_Mof hd155 ?_
  show az_Ev X 155 0 [.ref a] [] w sz sl _
  refine E_al0 k155_0 ?_
  refine E_al0 k155_1 ?_
  refine E_get k155_2 (by assumption) rfl ?_
  refine E_bipush k155_3 ?_
  refine E_alx k155_4 (show (102 : Int32) = nI 102 from rfl) rfl (by assumption) (by omega) (by decide) ?_
  refine E_cv1 k155_5 (Or.inl rfl) (by assumption) cl152 rfl rfl (r_pageOf h0 h1) ?_
  refine E_bipush k155_6 ?_
  refine E_iceq k155_7 (fun c7 => ?_) (fun d7 => ?_)
  · skip
    refine E_iconst k155_12 ?_
    refine E_goto k155_13 ?_
    exact E_zret k155_15 hd155 rfl (by first | exact Or.inl rfl | exact Or.inr rfl | exact zb01 _ | assumption) (by first | (rw [csR, decide_eq_true c7] <;> rfl) | (rw [csR, decide_eq_false d7, decide_eq_false (fun q => q c11)] <;> rfl) | (rw [csR, decide_eq_true d11, Bool.or_true] <;> rfl))
  · skip
    refine E_al0 k155_8 ?_
    refine E_cv0 k155_9 (Or.inl rfl) (by assumption) cl141 rfl rfl (r_nextFree h0 h1 hm hk) ?_
    refine E_bipush k155_10 ?_
    refine E_iceq k155_11 (fun c11 => ?_) (fun d11 => ?_)
    · skip
      refine E_iconst k155_14 ?_
      exact E_zret k155_15 hd155 rfl (by first | exact Or.inl rfl | exact Or.inr rfl | exact zb01 _ | assumption) (by first | (rw [csR, decide_eq_true c7] <;> rfl) | (rw [csR, decide_eq_false d7, decide_eq_false (fun q => q c11)] <;> rfl) | (rw [csR, decide_eq_true d11, Bool.or_true] <;> rfl))
    · skip
      refine E_iconst k155_12 ?_
      refine E_goto k155_13 ?_
      exact E_zret k155_15 hd155 rfl (by first | exact Or.inl rfl | exact Or.inr rfl | exact zb01 _ | assumption) (by first | (rw [csR, decide_eq_true c7] <;> rfl) | (rw [csR, decide_eq_false d7, decide_eq_false (fun q => q c11)] <;> rfl) | (rw [csR, decide_eq_true d11, Bool.or_true] <;> rfl))
set_option maxRecDepth 20000 in
theorem r_readers {X : az_X} {w : az_W} {sz sl : Nat} {a b : Nat} {f : Nat → Int32} {fs : List Value} (h0 : w a = .inr (9, .ref b :: fs)) (h1 : w b = .inl (0, 153, .inl f)) : az_M X 163 [.ref a] w sz sl (some (.int (nI (rdR f))), w, sz, sl) := by
  refine az_Mof hd163 ?_
  show az_Ev X 163 0 [.ref a, .null, .null] [] w sz sl _
  refine E_iconst k163_0 ?_
  refine E_is1 k163_1 rfl ?_
  refine E_iconst k163_2 ?_
  refine E_is2 k163_3 rfl ?_
  have loop4 : ∀ j : Nat, j ≤ 4 → az_Ev X 163 4 [.ref a, .int (nI (cnt (fun r => isR f (nI r)) j)), .int (nI j)] [] w sz sl (some (.int (nI (rdR f))), w, sz, sl) := by
    refine az_ind 4 _ (fun j hj4 ih4 => ?_)
    refine E_il2 k163_4 ?_
    refine E_iconst k163_5 ?_
    refine E_icge k163_6 (fun c6 => ?_) (fun d6 => ?_)
    · skip
      have he4 := lp_t hj4 (by decide) rfl c6
      subst he4
      refine E_il1 k163_19 ?_
      exact E_iret k163_20 hd163 rfl rfl
    · skip
      have hlt4 : j < 4 := lp_f (by omega) (by decide) rfl d6
      refine E_il1 k163_7 ?_
      refine E_al0 k163_8 ?_
      refine E_il2 k163_9 ?_
      refine E_cv1 k163_10 (Or.inl rfl) (by assumption) cl134 rfl rfl (r_isReader h0 h1) ?_
      refine E_zeq k163_11 (fun c11 => ?_) (fun d11 => ?_)
      · skip
        refine E_iconst k163_14 ?_
        refine E_iadd k163_15 ?_
        refine E_is1 k163_16 rfl ?_
        refine E_inc2 k163_17 rfl ?_
        refine E_goto k163_18 ?_
        exact ev_cong (ih4 hlt4) (by first | (rw [nI_1, cnt_t (by exact d11), nI_1] <;> rfl) | (rw [nI_1, cnt_f (by exact c11)]; exact congrArg (fun q => [Value.ref a, Value.int q, Value.int (nI (j + 1))]) (Int32.add_zero _))) rfl rfl
      · skip
        refine E_iconst k163_12 ?_
        refine E_goto k163_13 ?_
        refine E_iadd k163_15 ?_
        refine E_is1 k163_16 rfl ?_
        refine E_inc2 k163_17 rfl ?_
        refine E_goto k163_18 ?_
        exact ev_cong (ih4 hlt4) (by first | (rw [nI_1, cnt_t (by exact d11), nI_1] <;> rfl) | (rw [nI_1, cnt_f (by exact c11)]; exact congrArg (fun q => [Value.ref a, Value.int q, Value.int (nI (j + 1))]) (Int32.add_zero _))) rfl rfl
  exact ev_cong (loop4 0 (Nat.zero_le _)) rfl rfl rfl
set_option maxRecDepth 20000 in
theorem r_contentOf {X : az_X} {w : az_W} {sz sl : Nat} {a b : Nat} {f : Nat → Int32} {fs : List Value} {c : Int32} (h0 : w a = .inr (9, .ref b :: fs)) (h1 : w b = .inl (0, 153, .inl f)) (hc : c = -5 ∨ pgn 24 c = true) : az_M X 175 [.ref a, .int c] w sz sl (some (.int (coR f c)), w, sz, sl) := by
  refine az_Mof hd175 ?_
  show az_Ev X 175 0 [.ref a, .int c] [] w sz sl _
  refine E_il1 k175_0 ?_
  refine E_bipush k175_1 ?_
  refine E_icne k175_2 (fun c2 => ?_) (fun d2 => ?_)
  · skip
    have hp := pgn_c (hc.resolve_left c2) (by decide)
    refine E_al0 k175_5 ?_
    refine E_get k175_6 (by assumption) rfl ?_
    refine E_iconst k175_7 ?_
    refine E_il1 k175_8 ?_
    refine E_iadd k175_9 ?_
    refine E_alx k175_10 (ixa (show (0 : Int32) = nI 0 from rfl) hp.1) rfl (by assumption) (by omega) (by decide) ?_
    exact E_iret k175_11 hd175 rfl (by first | (rw [coR, if_pos (Classical.not_not.mp d2)] <;> rfl) | (rw [coR, if_neg c2] <;> rfl))
  · skip
    refine E_bipush k175_3 ?_
    refine E_goto k175_4 ?_
    exact E_iret k175_11 hd175 rfl (by first | (rw [coR, if_pos (Classical.not_not.mp d2)] <;> rfl) | (rw [coR, if_neg c2] <;> rfl))
set_option maxRecDepth 20000 in
theorem r_read {X : az_X} {w : az_W} {sz sl : Nat} {a b : Nat} {f : Nat → Int32} {fs : List Value} {mk : Nat} {p : Int32} (h0 : w a = .inr (9, .ref b :: fs)) (h1 : w b = .inl (0, 153, .inl f)) (hm : f 92 = nI mk) (hk : mk ≤ 1) (ho : ∀ p, p < 8 → f (72 + 10 * mk + (2 + p)) = -5 ∨ pgn 24 (f (72 + 10 * mk + (2 + p))) = true) : az_M X 176 [.ref a, .int p] w sz sl (some (.int (if pgn 8 p = true then coR f (f (72 + 10 * mk + (2 + p.toNatClampNeg))) else -1)), w, sz, sl) := by
  refine az_Mof hd176 ?_
  show az_Ev X 176 0 [.ref a, .int p] [] w sz sl _
  refine E_il1 k176_0 ?_
  refine E_cs1 k176_1 (Or.inl rfl) rfl rfl (r_isPage) ?_
  refine E_zeq k176_2 (fun c2 => ?_) (fun d2 => ?_)
  · skip
    refine E_iconst k176_11 ?_
    exact E_iret k176_12 hd176 rfl (by first | (rw [if_neg (by rw [c2]; decide)] <;> rfl) | (rw [if_pos d2] <;> rfl))
  · skip
    have hp := pgn_c d2 (by decide)
    refine E_al0 k176_3 ?_
    refine E_al0 k176_4 ?_
    refine E_iconst k176_5 ?_
    refine E_il1 k176_6 ?_
    refine E_iadd k176_7 ?_
    refine E_cv1 k176_8 (Or.inl rfl) (by assumption) cl133 rfl rfl (r_old h0 h1 hm hk (ixa (show (2 : Int32) = nI 2 from rfl) hp.1) (by omega)) ?_
    refine E_cv1 k176_9 (Or.inl rfl) (by assumption) cl175 rfl rfl (r_contentOf h0 h1 (ho _ hp.2)) ?_
    refine E_goto k176_10 ?_
    exact E_iret k176_12 hd176 rfl (by first | (rw [if_neg (by rw [c2]; decide)] <;> rfl) | (rw [if_pos d2] <;> rfl))
set_option maxRecDepth 20000 in
theorem r_readDesk {X : az_X} {w : az_W} {sz sl : Nat} {a b : Nat} {f : Nat → Int32} {fs : List Value} {mk : Nat} {p : Int32} (h0 : w a = .inr (9, .ref b :: fs)) (h1 : w b = .inl (0, 153, .inl f)) (hm : f 92 = nI mk) (hk : mk ≤ 1) (ho : ∀ p, p < 8 → f (72 + 10 * mk + (2 + p)) = -5 ∨ pgn 24 (f (72 + 10 * mk + (2 + p))) = true) : az_M X 177 [.ref a, .int p] w sz sl (some (.int (if pgn 8 p = true then (if ¬ f (93 + p.toNatClampNeg) < 0 then f (93 + p.toNatClampNeg) else if f (93 + p.toNatClampNeg) = -6 then -5 else coR f (f (72 + 10 * mk + (2 + p.toNatClampNeg)))) else -1)), w, sz, sl) := by
  refine az_Mof hd177 ?_
  show az_Ev X 177 0 [.ref a, .int p, .null] [] w sz sl _
  refine E_il1 k177_0 ?_
  refine E_cs1 k177_1 (Or.inl rfl) rfl rfl (r_isPage) ?_
  refine E_zne k177_2 (fun c2 => ?_) (fun d2 => ?_)
  · skip
    have hp := pgn_c c2 (by decide)
    refine E_al0 k177_5 ?_
    refine E_get k177_6 (by assumption) rfl ?_
    refine E_bipush k177_7 ?_
    refine E_il1 k177_8 ?_
    refine E_iadd k177_9 ?_
    refine E_alx k177_10 (ixa (show (93 : Int32) = nI 93 from rfl) hp.1) rfl (by assumption) (by omega) (by decide) ?_
    refine E_is2 k177_11 rfl ?_
    refine E_il2 k177_12 ?_
    refine E_iflt k177_13 (fun c13 => ?_) (fun d13 => ?_)
    · skip
      refine E_il2 k177_16 ?_
      refine E_bipush k177_17 ?_
      refine E_icne k177_18 (fun c18 => ?_) (fun d18 => ?_)
      · skip
        refine E_al0 k177_21 ?_
        refine E_al0 k177_22 ?_
        refine E_iconst k177_23 ?_
        refine E_il1 k177_24 ?_
        refine E_iadd k177_25 ?_
        refine E_cv1 k177_26 (Or.inl rfl) (by assumption) cl133 rfl rfl (r_old h0 h1 hm hk (ixa (show (2 : Int32) = nI 2 from rfl) hp.1) (by omega)) ?_
        refine E_cv1 k177_27 (Or.inl rfl) (by assumption) cl175 rfl rfl (r_contentOf h0 h1 (ho _ hp.2)) ?_
        exact E_iret k177_28 hd177 rfl (by first | (rw [if_pos c2, if_pos d13] <;> rfl) | (rw [if_pos c2, if_neg (fun z => z c13), if_pos (Classical.not_not.mp d18)] <;> rfl) | (rw [if_pos c2, if_neg (fun z => z c13), if_neg c18] <;> rfl))
      · skip
        refine E_bipush k177_19 ?_
        refine E_goto k177_20 ?_
        exact E_iret k177_28 hd177 rfl (by first | (rw [if_pos c2, if_pos d13] <;> rfl) | (rw [if_pos c2, if_neg (fun z => z c13), if_pos (Classical.not_not.mp d18)] <;> rfl) | (rw [if_pos c2, if_neg (fun z => z c13), if_neg c18] <;> rfl))
    · skip
      refine E_il2 k177_14 ?_
      refine E_goto k177_15 ?_
      exact E_iret k177_28 hd177 rfl (by first | (rw [if_pos c2, if_pos d13] <;> rfl) | (rw [if_pos c2, if_neg (fun z => z c13), if_pos (Classical.not_not.mp d18)] <;> rfl) | (rw [if_pos c2, if_neg (fun z => z c13), if_neg c18] <;> rfl))
  · skip
    refine E_iconst k177_3 ?_
    exact E_iret k177_4 hd177 rfl (by rw [if_neg (by rw [d2]; decide)])
set_option maxRecDepth 20000 in
theorem r_readBy {X : az_X} {w : az_W} {sz sl : Nat} {a b : Nat} {f : Nat → Int32} {fs : List Value} {r p : Int32} (h0 : w a = .inr (9, .ref b :: fs)) (h1 : w b = .inl (0, 153, .inl f)) (hr : ∀ r p, r < 4 → p < 8 → f (111 + 10 * r) = 1 → f (111 + 10 * r + 2 + p) = -5 ∨ pgn 24 (f (111 + 10 * r + 2 + p)) = true) : az_M X 178 [.ref a, .int r, .int p] w sz sl (some (.int (if isR f r = true ∧ pgn 8 p = true then coR f (f (111 + 10 * r.toNatClampNeg + 2 + p.toNatClampNeg)) else -1)), w, sz, sl) := by
  refine az_Mof hd178 ?_
  show az_Ev X 178 0 [.ref a, .int r, .int p] [] w sz sl _
  refine E_al0 k178_0 ?_
  refine E_il1 k178_1 ?_
  refine E_cv1 k178_2 (Or.inl rfl) (by assumption) cl134 rfl rfl (r_isReader h0 h1) ?_
  refine E_zeq k178_3 (fun c3 => ?_) (fun d3 => ?_)
  · skip
    refine E_iconst k178_22 ?_
    exact E_iret k178_23 hd178 rfl (by first | (rw [if_neg (by rw [c3]; exact fun z => nomatch z.1)] <;> rfl) | (rw [if_neg (by rw [c6]; exact fun z => nomatch z.2)] <;> rfl) | (rw [if_pos ⟨d3, d6⟩] <;> rfl))
  · skip
    have hq := pgn_c (isR_p d3) (by decide)
    refine E_il2 k178_4 ?_
    refine E_cs1 k178_5 (Or.inl rfl) rfl rfl (r_isPage) ?_
    refine E_zeq k178_6 (fun c6 => ?_) (fun d6 => ?_)
    · skip
      refine E_iconst k178_22 ?_
      exact E_iret k178_23 hd178 rfl (by first | (rw [if_neg (by rw [c3]; exact fun z => nomatch z.1)] <;> rfl) | (rw [if_neg (by rw [c6]; exact fun z => nomatch z.2)] <;> rfl) | (rw [if_pos ⟨d3, d6⟩] <;> rfl))
    · skip
      have hp := pgn_c d6 (by decide)
      refine E_al0 k178_7 ?_
      refine E_al0 k178_8 ?_
      refine E_get k178_9 (by assumption) rfl ?_
      refine E_bipush k178_10 ?_
      refine E_bipush k178_11 ?_
      refine E_il1 k178_12 ?_
      refine E_imul k178_13 ?_
      refine E_iadd k178_14 ?_
      refine E_iconst k178_15 ?_
      refine E_iadd k178_16 ?_
      refine E_il2 k178_17 ?_
      refine E_iadd k178_18 ?_
      refine E_alx k178_19 (ixa (ixa (ixa (show (111 : Int32) = nI 111 from rfl) (ixm (show (10 : Int32) = nI 10 from rfl) hq.1)) (show (2 : Int32) = nI 2 from rfl)) hp.1) rfl (by assumption) (by omega) (by decide) ?_
      refine E_cv1 k178_20 (Or.inl rfl) (by assumption) cl175 rfl rfl (r_contentOf h0 h1 (hr _ _ hq.2 hp.2 (isR_1 d3))) ?_
      refine E_goto k178_21 ?_
      exact E_iret k178_23 hd178 rfl (by first | (rw [if_neg (by rw [c3]; exact fun z => nomatch z.1)] <;> rfl) | (rw [if_neg (by rw [c6]; exact fun z => nomatch z.2)] <;> rfl) | (rw [if_pos ⟨d3, d6⟩] <;> rfl))
set_option maxRecDepth 20000 in
theorem r_reader {X : az_X} {w : az_W} {sz sl : Nat} {a b : Nat} {f : Nat → Int32} {fs : List Value} {r : Int32} (h0 : w a = .inr (9, .ref b :: fs)) (h1 : w b = .inl (0, 153, .inl f)) : az_M X 183 [.ref a, .int r] w sz sl (some (.int (if isR f r = true then f (111 + 10 * r.toNatClampNeg + 1) else -1)), w, sz, sl) := by
  refine az_Mof hd183 ?_
  show az_Ev X 183 0 [.ref a, .int r] [] w sz sl _
  refine E_al0 k183_0 ?_
  refine E_il1 k183_1 ?_
  refine E_cv1 k183_2 (Or.inl rfl) (by assumption) cl134 rfl rfl (r_isReader h0 h1) ?_
  refine E_zeq k183_3 (fun c3 => ?_) (fun d3 => ?_)
  · skip
    refine E_iconst k183_15 ?_
    exact E_iret k183_16 hd183 rfl (by first | (rw [if_neg (by rw [c3]; decide)] <;> rfl) | (rw [if_pos d3] <;> rfl))
  · skip
    have hq := pgn_c (isR_p d3) (by decide)
    refine E_al0 k183_4 ?_
    refine E_get k183_5 (by assumption) rfl ?_
    refine E_bipush k183_6 ?_
    refine E_bipush k183_7 ?_
    refine E_il1 k183_8 ?_
    refine E_imul k183_9 ?_
    refine E_iadd k183_10 ?_
    refine E_iconst k183_11 ?_
    refine E_iadd k183_12 ?_
    refine E_alx k183_13 (ixa (ixa (show (111 : Int32) = nI 111 from rfl) (ixm (show (10 : Int32) = nI 10 from rfl) hq.1)) (show (1 : Int32) = nI 1 from rfl)) rfl (by assumption) (by omega) (by decide) ?_
    refine E_goto k183_14 ?_
    exact E_iret k183_16 hd183 rfl (by first | (rw [if_neg (by rw [c3]; decide)] <;> rfl) | (rw [if_pos d3] <;> rfl))
set_option maxRecDepth 20000 in
theorem r_allWear {X : az_X} {w : az_W} {sz sl : Nat} {a b : Nat} {f : Nat → Int32} {fs : List Value} (h0 : w a = .inr (9, .ref b :: fs)) (h1 : w b = .inl (0, 153, .inl f)) : az_M X 184 [.ref a] w sz sl (some (.int (smf (fun i => f (48 + i)) 24)), w, sz, sl) := by
  refine az_Mof hd184 ?_
  show az_Ev X 184 0 [.ref a, .null, .null] [] w sz sl _
  refine E_iconst k184_0 ?_
  refine E_is1 k184_1 rfl ?_
  refine E_iconst k184_2 ?_
  refine E_is2 k184_3 rfl ?_
  have loop4 : ∀ j : Nat, j ≤ 24 → az_Ev X 184 4 [.ref a, .int (smf (fun i => f (48 + i)) j), .int (nI j)] [] w sz sl (some (.int (smf (fun i => f (48 + i)) 24)), w, sz, sl) := by
    refine az_ind 24 _ (fun j hj4 ih4 => ?_)
    refine E_il2 k184_4 ?_
    refine E_bipush k184_5 ?_
    refine E_icge k184_6 (fun c6 => ?_) (fun d6 => ?_)
    · skip
      have he4 := lp_t hj4 (by decide) rfl c6
      subst he4
      refine E_il1 k184_18 ?_
      exact E_iret k184_19 hd184 rfl rfl
    · skip
      have hlt4 : j < 24 := lp_f (by omega) (by decide) rfl d6
      refine E_il1 k184_7 ?_
      refine E_al0 k184_8 ?_
      refine E_get k184_9 (by assumption) rfl ?_
      refine E_bipush k184_10 ?_
      refine E_il2 k184_11 ?_
      refine E_iadd k184_12 ?_
      refine E_alx k184_13 (ixa (show (48 : Int32) = nI 48 from rfl) rfl) rfl (by assumption) (by omega) (by decide) ?_
      refine E_iadd k184_14 ?_
      refine E_is1 k184_15 rfl ?_
      refine E_inc2 k184_16 rfl ?_
      refine E_goto k184_17 ?_
      exact ev_cong (ih4 hlt4) (by rw [nI_1] <;> rfl) rfl rfl
  exact ev_cong (loop4 0 (Nat.zero_le _)) rfl rfl rfl
set_option maxRecDepth 20000 in
theorem r_greatestWear {X : az_X} {w : az_W} {sz sl : Nat} {a b : Nat} {f : Nat → Int32} {fs : List Value} (h0 : w a = .inr (9, .ref b :: fs)) (h1 : w b = .inl (0, 153, .inl f)) : az_M X 185 [.ref a] w sz sl (some (.int (mxf (fun i => f (48 + i)) 24)), w, sz, sl) := by
  refine az_Mof hd185 ?_
  show az_Ev X 185 0 [.ref a, .null, .null] [] w sz sl _
  refine E_iconst k185_0 ?_
  refine E_is1 k185_1 rfl ?_
  refine E_iconst k185_2 ?_
  refine E_is2 k185_3 rfl ?_
  have loop4 : ∀ j : Nat, j ≤ 24 → az_Ev X 185 4 [.ref a, .int (mxf (fun i => f (48 + i)) j), .int (nI j)] [] w sz sl (some (.int (mxf (fun i => f (48 + i)) 24)), w, sz, sl) := by
    refine az_ind 24 _ (fun j hj4 ih4 => ?_)
    refine E_il2 k185_4 ?_
    refine E_bipush k185_5 ?_
    refine E_icge k185_6 (fun c6 => ?_) (fun d6 => ?_)
    · skip
      have he4 := lp_t hj4 (by decide) rfl c6
      subst he4
      refine E_il1 k185_26 ?_
      exact E_iret k185_27 hd185 rfl rfl
    · skip
      have hlt4 : j < 24 := lp_f (by omega) (by decide) rfl d6
      refine E_al0 k185_7 ?_
      refine E_get k185_8 (by assumption) rfl ?_
      refine E_bipush k185_9 ?_
      refine E_il2 k185_10 ?_
      refine E_iadd k185_11 ?_
      refine E_alx k185_12 (ixa (show (48 : Int32) = nI 48 from rfl) rfl) rfl (by assumption) (by omega) (by decide) ?_
      refine E_il1 k185_13 ?_
      refine E_icle k185_14 (fun c14 => ?_) (fun d14 => ?_)
      · skip
        refine E_il1 k185_22 ?_
        refine E_is1 k185_23 rfl ?_
        refine E_inc2 k185_24 rfl ?_
        refine E_goto k185_25 ?_
        exact ev_cong (ih4 hlt4) (by first | (rw [nI_1, mxf, if_pos c14] <;> rfl) | (rw [nI_1, mxf, if_neg d14] <;> rfl)) rfl rfl
      · skip
        refine E_al0 k185_15 ?_
        refine E_get k185_16 (by assumption) rfl ?_
        refine E_bipush k185_17 ?_
        refine E_il2 k185_18 ?_
        refine E_iadd k185_19 ?_
        refine E_alx k185_20 (ixa (show (48 : Int32) = nI 48 from rfl) rfl) rfl (by assumption) (by omega) (by decide) ?_
        refine E_goto k185_21 ?_
        refine E_is1 k185_23 rfl ?_
        refine E_inc2 k185_24 rfl ?_
        refine E_goto k185_25 ?_
        exact ev_cong (ih4 hlt4) (by first | (rw [nI_1, mxf, if_pos c14] <;> rfl) | (rw [nI_1, mxf, if_neg d14] <;> rfl)) rfl rfl
  exact ev_cong (loop4 0 (Nat.zero_le _)) rfl rfl rfl
set_option maxRecDepth 20000 in
theorem r_pagesOf {X : az_X} {w : az_W} {sz sl : Nat} {a b : Nat} {f : Nat → Int32} {fs : List Value} {x : Int32} {t : Nat} (h0 : w a = .inr (9, .ref b :: fs)) (h1 : w b = .inl (0, 153, .inl f)) (hx : x = nI t) (ht : t ≤ 1) : az_M X 180 [.ref a, .int x] w sz sl (some (.int (psf (fun i => f (72 + 10 * t + 2 + i)) 8)), w, sz, sl) := by
  refine az_Mof hd180 ?_
  show az_Ev X 180 0 [.ref a, .int x, .null, .null] [] w sz sl _
  refine E_iconst k180_0 ?_
  refine E_is2 k180_1 rfl ?_
  refine E_iconst k180_2 ?_
  refine E_is3 k180_3 rfl ?_
  have loop4 : ∀ j : Nat, j ≤ 8 → az_Ev X 180 4 [.ref a, .int x, .int (psf (fun i => f (72 + 10 * t + 2 + i)) j), .int (nI j)] [] w sz sl (some (.int (psf (fun i => f (72 + 10 * t + 2 + i)) 8)), w, sz, sl) := by
    refine az_ind 8 _ (fun j hj4 ih4 => ?_)
    refine E_il3 k180_4 ?_
    refine E_bipush k180_5 ?_
    refine E_icge k180_6 (fun c6 => ?_) (fun d6 => ?_)
    · skip
      have he4 := lp_t hj4 (by decide) rfl c6
      subst he4
      refine E_il2 k180_31 ?_
      exact E_iret k180_32 hd180 rfl rfl
    · skip
      have hlt4 : j < 8 := lp_f (by omega) (by decide) rfl d6
      refine E_il2 k180_7 ?_
      refine E_al0 k180_8 ?_
      refine E_get k180_9 (by assumption) rfl ?_
      refine E_bipush k180_10 ?_
      refine E_bipush k180_11 ?_
      refine E_il1 k180_12 ?_
      refine E_imul k180_13 ?_
      refine E_iadd k180_14 ?_
      refine E_iconst k180_15 ?_
      refine E_iadd k180_16 ?_
      refine E_il3 k180_17 ?_
      refine E_iadd k180_18 ?_
      refine E_alx k180_19 (ixa (ixa (ixa (show (72 : Int32) = nI 72 from rfl) (ixm (show (10 : Int32) = nI 10 from rfl) hx)) (show (2 : Int32) = nI 2 from rfl)) rfl) rfl (by assumption) (by omega) (by decide) ?_
      refine E_bipush k180_20 ?_
      refine E_iceq k180_21 (fun c21 => ?_) (fun d21 => ?_)
      · skip
        refine E_iconst k180_26 ?_
        refine E_ior k180_27 ?_
        refine E_is2 k180_28 rfl ?_
        refine E_inc3 k180_29 rfl ?_
        refine E_goto k180_30 ?_
        exact ev_cong (ih4 hlt4) (by first | (rw [nI_1, psf, if_pos (by exact c21), Int32.or_zero] <;> rfl) | (rw [nI_1, psf, if_neg (by exact d21)] <;> rfl)) rfl rfl
      · skip
        refine E_iconst k180_22 ?_
        refine E_il3 k180_23 ?_
        refine E_ishl k180_24 ?_
        refine E_goto k180_25 ?_
        refine E_ior k180_27 ?_
        refine E_is2 k180_28 rfl ?_
        refine E_inc3 k180_29 rfl ?_
        refine E_goto k180_30 ?_
        exact ev_cong (ih4 hlt4) (by first | (rw [nI_1, psf, if_pos (by exact c21), Int32.or_zero] <;> rfl) | (rw [nI_1, psf, if_neg (by exact d21)] <;> rfl)) rfl rfl
  exact ev_cong (loop4 0 (Nat.zero_le _)) rfl rfl rfl
