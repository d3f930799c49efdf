/-! methods' runs, laid by wip/whole/walk.py out of wip/whole/specs14.py -/
/-! the reference's queries, over its row of numbers -/
theorem ixa {x y : Int32} {a b : Nat} (hx : x = nI a) (hy : y = nI b) : x + y = nI (a + b) := by
  subst hx hy
  exact (Int32.ofNat_add a b).symm
theorem ixm {x y : Int32} {a b : Nat} (hx : x = nI a) (hy : y = nI b) : x * y = nI (a * b) := by
  subst hx hy
  exact (Int32.ofNat_mul a b).symm
section
variable {X : az_X} {M i pc ln t u : Nat} {v : Int32} {ts js : List Nat} {L st L' st' : List Value} {w : az_W} {sz sl : Nat} {res : az_R}
theorem E_alx {ins : Instr} {k n a j : Nat} {x : Int32} {f : Nat → Int32} (hk : az_cd M i = some (pc, ins, ln, t, u, v, ts, js)) (hx : x = nI j) (hal : az_al ins = some k) (hw : w a = .inl (k, n, .inl f)) (hj : j < n) (hn : n < 2 ^ 31) (h : az_Ev X M (i + 1) L (.int (f j) :: st) w sz sl res) : az_Ev X M i L (.int x :: .ref a :: st) w sz sl res := by
  subst hx
  exact E_ald hk hal hw hj hn h
theorem E_asx {n a j : Nat} {x y : Int32} {f : Nat → Int32} (hk : az_cd M i = some (pc, .iastore, ln, t, u, v, ts, js)) (hx : y = nI j) (hw : w a = .inl (0, n, .inl f)) (hj : j < n) (hn : n < 2 ^ 31) (h : az_Ev X M (i + 1) L st (va_up w a (.inl (0, n, .inl (upd f j x)))) sz sl res) : az_Ev X M i L (.int x :: .int y :: .ref a :: st) w sz sl res := by
  subst hx
  exact E_iast hk hw hj hn h
end
def inB (x lo hi : Int32) : Bool := !decide (x < lo) && !decide (hi < x)
theorem inB_pgn {n : Nat} {p hi : Int32} (h : hi + 1 = nI n) (hp : 0 ≤ hi) (hn : n < 2 ^ 31) (h1 : nI n = hi + 1) (h2 : (nI n).toInt = hi.toInt + 1) : inB p 0 hi = pgn n p := by
  unfold inB pgn
  by_cases q : p < 0
  · simp [q]
  · by_cases r : hi < p
    · have : nI n ≤ p := Int32.le_iff_toInt_le.mpr (by have := Int32.lt_iff_toInt_lt.mp r; omega)
      simp [q, r, this]
    · have : ¬ nI n ≤ p := fun z => r (Int32.lt_iff_toInt_lt.mpr (by have := Int32.le_iff_toInt_le.mp z; omega))
      simp [q, r, this]
theorem inB_8 {p : Int32} : inB p 0 7 = pgn 8 p := inB_pgn rfl (by decide) (by decide) rfl (by decide)
theorem inB_4 {p : Int32} : inB p 0 3 = pgn 4 p := inB_pgn rfl (by decide) (by decide) rfl (by decide)
theorem inB_24 {p : Int32} : inB p 0 23 = pgn 24 p := inB_pgn rfl (by decide) (by decide) rfl (by decide)
theorem pgn_c {n : Nat} {p : Int32} (h : pgn n p = true) (hn : n < 2 ^ 31) : p = nI p.toNatClampNeg ∧ p.toNatClampNeg < n := by
  obtain ⟨j, hj, rfl⟩ := pgn_nI h hn
  rw [nI_clamp (by omega)]
  exact ⟨rfl, hj⟩
/-- the last below n -/
def la (P : Nat → Bool) : Nat → Int32
  | 0 => -5
  | n + 1 => if P n = true then nI n else la P n
/-- any below n -/
def an (P : Nat → Bool) : Nat → Bool
  | 0 => false
  | n + 1 => if an P n = true then true else P n
def isR (f : Nat → Int32) (r : Int32) : Bool := pgn 4 r && decide (f (111 + 10 * r.toNatClampNeg) = 1)
theorem isR_p {f : Nat → Int32} {r : Int32} (h : isR f r = true) : pgn 4 r = true := by
  unfold isR at h
  exact (Bool.and_eq_true _ _ ▸ h).1
def hI (f : Nat → Int32) (r c : Int32) : Bool := an (fun p => isR f r && decide (f (111 + 10 * r.toNatClampNeg + 2 + p) = c)) 8
theorem an_f {P : Nat → Bool} (h : ∀ i, P i = false) : ∀ n, an P n = false
  | 0 => rfl
  | n + 1 => by
    unfold an
    rw [an_f h n, if_neg (by decide), h n]
def rOf (f : Nat → Int32) (c : Int32) : Nat := cnt (fun r => hI f (nI r) c) 4
def pOl (f : Nat → Int32) (mk : Nat) (c : Int32) : Int32 := la (fun p => decide (f (72 + 10 * mk + (2 + p)) = c)) 8
def pWr (f : Nat → Int32) (c : Int32) : Int32 := la (fun p => decide (f (103 + p) = c)) 8
def isF (f : Nat → Int32) (mk : Nat) (c : Int32) : Bool := decide (pOl f mk c = -5) && decide (rOf f c = 0) && decide (pWr f c = -5)

set_option maxRecDepth 20000 in
theorem r_in {X : az_X} {w : az_W} {sz sl : Nat} {x lo hi : Int32}  : az_M X 128 [.int x, .int lo, .int hi] w sz sl (some (.int (zb (inB x lo hi))), w, sz, sl) := by
  refine az_Mof hd128 ?_
  show az_Ev X 128 0 [.int x, .int lo, .int hi] [] w sz sl _
  refine E_il0 k128_0 ?_
  refine E_il1 k128_1 ?_
  refine E_iclt k128_2 (fun c2 => ?_) (fun d2 => ?_)
  · skip
    refine E_iconst k128_8 ?_
    exact E_zret k128_9 hd128 rfl (by first | exact Or.inl rfl | exact Or.inr rfl | exact zb01 _ | assumption) (by first | (have z := c2; rw [show inB x lo hi = false by unfold inB; rw [decide_eq_true c2]; rfl]; rfl) | (have z := c5; rw [show inB x lo hi = false by unfold inB; rw [decide_eq_true c5, Bool.not_true, Bool.and_false]]; rfl) | (rw [show inB x lo hi = true by unfold inB; rw [decide_eq_false d2, decide_eq_false d5]; rfl]; rfl))
  · skip
    refine E_il0 k128_3 ?_
    refine E_il2 k128_4 ?_
    refine E_icgt k128_5 (fun c5 => ?_) (fun d5 => ?_)
    · skip
      refine E_iconst k128_8 ?_
      exact E_zret k128_9 hd128 rfl (by first | exact Or.inl rfl | exact Or.inr rfl | exact zb01 _ | assumption) (by first | (have z := c2; rw [show inB x lo hi = false by unfold inB; rw [decide_eq_true c2]; rfl]; rfl) | (have z := c5; rw [show inB x lo hi = false by unfold inB; rw [decide_eq_true c5, Bool.not_true, Bool.and_false]]; rfl) | (rw [show inB x lo hi = true by unfold inB; rw [decide_eq_false d2, decide_eq_false d5]; rfl]; rfl))
    · skip
      refine E_iconst k128_6 ?_
      refine E_goto k128_7 ?_
      exact E_zret k128_9 hd128 rfl (by first | exact Or.inl rfl | exact Or.inr rfl | exact zb01 _ | assumption) (by first | (have z := c2; rw [show inB x lo hi = false by unfold inB; rw [decide_eq_true c2]; rfl]; rfl) | (have z := c5; rw [show inB x lo hi = false by unfold inB; rw [decide_eq_true c5, Bool.not_true, Bool.and_false]]; rfl) | (rw [show inB x lo hi = true by unfold inB; rw [decide_eq_false d2, decide_eq_false d5]; rfl]; rfl))
set_option maxRecDepth 20000 in
theorem r_isPage {X : az_X} {w : az_W} {sz sl : Nat} {p : Int32}  : az_M X 129 [.int p] w sz sl (some (.int (zb (pgn 8 p))), w, sz, sl) := by
  refine az_Mof hd129 ?_
  show az_Ev X 129 0 [.int p] [] w sz sl _
  refine E_il0 k129_0 ?_
  refine E_iconst k129_1 ?_
  refine E_bipush k129_2 ?_
  refine E_cs3 k129_3 (Or.inl rfl) rfl rfl r_in ?_
  exact E_zret k129_4 hd129 rfl (by first | exact Or.inl rfl | exact Or.inr rfl | exact zb01 _ | assumption) (by rw [← inB_8])
set_option maxRecDepth 20000 in
theorem r_sealOf {X : az_X} {w : az_W} {sz sl : Nat} {x : Int32}  : az_M X 132 [.int x] w sz sl (some (.int (sealOf x)), w, sz, sl) := by
  refine az_Mof hd132 ?_
  show az_Ev X 132 0 [.int x] [] w sz sl _
  refine E_il0 k132_0 ?_
  refine E_bipush k132_1 ?_
  refine E_imul k132_2 ?_
  refine E_bipush k132_3 ?_
  refine E_iadd k132_4 ?_
  refine E_bipush k132_5 ?_
  refine E_irem k132_6 (by decide) ?_
  exact E_iret k132_7 hd132 rfl rfl
set_option maxRecDepth 20000 in
theorem r_old {X : az_X} {w : az_W} {sz sl : Nat} {a b : Nat} {f : Nat → Int32} {fs : List Value} {mk : Nat} {x : Int32} {j : Nat} (h0 : w a = .inr (9, .ref b :: fs)) (h1 : w b = .inl (0, 153, .inl f)) (hm : f 92 = nI mk) (hk : mk ≤ 1) (hx : x = nI j) (hj : j < 10) : az_M X 133 [.ref a, .int x] w sz sl (some (.int (f (72 + 10 * mk + j))), w, sz, sl) := by
  refine az_Mof hd133 ?_
  show az_Ev X 133 0 [.ref a, .int x] [] w sz sl _
  refine E_al0 k133_0 ?_
  refine E_get k133_1 (by assumption) rfl ?_
  refine E_bipush k133_2 ?_
  refine E_bipush k133_3 ?_
  refine E_al0 k133_4 ?_
  refine E_get k133_5 (by assumption) rfl ?_
  refine E_bipush k133_6 ?_
  refine E_alx k133_7 (show (92 : Int32) = nI 92 from rfl) rfl (by assumption) (by omega) (by decide) ?_
  refine E_imul k133_8 ?_
  refine E_iadd k133_9 ?_
  refine E_il1 k133_10 ?_
  refine E_iadd k133_11 ?_
  refine E_alx k133_12 (ixa (ixa (show (72 : Int32) = nI 72 from rfl) (ixm (show (10 : Int32) = nI 10 from rfl) hm)) hx) rfl (by assumption) (by omega) (by decide) ?_
  exact E_iret k133_13 hd133 rfl rfl
set_option maxRecDepth 20000 in
theorem r_isReader {X : az_X} {w : az_W} {sz sl : Nat} {a b : Nat} {f : Nat → Int32} {fs : List Value} {r : Int32} (h0 : w a = .inr (9, .ref b :: fs)) (h1 : w b = .inl (0, 153, .inl f)) : az_M X 134 [.ref a, .int r] w sz sl (some (.int (zb (isR f r))), w, sz, sl) := by
  refine az_Mof hd134 ?_
  show az_Ev X 134 0 [.ref a, .int r] [] w sz sl _
  refine E_il1 k134_0 ?_
  refine E_iconst k134_1 ?_
  refine E_iconst k134_2 ?_
  refine E_cs3 k134_3 (Or.inl rfl) rfl rfl r_in ?_
  refine E_zeq k134_4 (fun c4 => ?_) (fun d4 => ?_)
  · skip
    rw [inB_4] at c4
    refine E_iconst k134_17 ?_
    exact E_zret k134_18 hd134 rfl (by first | exact Or.inl rfl | exact Or.inr rfl | exact zb01 _ | assumption) (by first | (have z0 := c4; rw [show isR f r = false by simp [isR, c4]]; rfl) | (have z0 := c14; rw [show isR f r = false by simp [isR, c14]]; rfl) | (have z0 := d4; have z1 := Classical.not_not.mp d14; rw [show isR f r = true by simp [isR, d4, Classical.not_not.mp d14]]; rfl))
  · skip
    rw [inB_4] at d4
    have hp := pgn_c d4 (by decide)
    refine E_al0 k134_5 ?_
    refine E_get k134_6 (by assumption) rfl ?_
    refine E_bipush k134_7 ?_
    refine E_bipush k134_8 ?_
    refine E_il1 k134_9 ?_
    refine E_imul k134_10 ?_
    refine E_iadd k134_11 ?_
    refine E_alx k134_12 (ixa (show (111 : Int32) = nI 111 from rfl) (ixm (show (10 : Int32) = nI 10 from rfl) hp.1)) rfl (by assumption) (by omega) (by decide) ?_
    refine E_iconst k134_13 ?_
    refine E_icne k134_14 (fun c14 => ?_) (fun d14 => ?_)
    · skip
      refine E_iconst k134_17 ?_
      exact E_zret k134_18 hd134 rfl (by first | exact Or.inl rfl | exact Or.inr rfl | exact zb01 _ | assumption) (by first | (have z0 := c4; rw [show isR f r = false by simp [isR, c4]]; rfl) | (have z0 := c14; rw [show isR f r = false by simp [isR, c14]]; rfl) | (have z0 := d4; have z1 := Classical.not_not.mp d14; rw [show isR f r = true by simp [isR, d4, Classical.not_not.mp d14]]; rfl))
    · skip
      refine E_iconst k134_15 ?_
      refine E_goto k134_16 ?_
      exact E_zret k134_18 hd134 rfl (by first | exact Or.inl rfl | exact Or.inr rfl | exact zb01 _ | assumption) (by first | (have z0 := c4; rw [show isR f r = false by simp [isR, c4]]; rfl) | (have z0 := c14; rw [show isR f r = false by simp [isR, c14]]; rfl) | (have z0 := d4; have z1 := Classical.not_not.mp d14; rw [show isR f r = true by simp [isR, d4, Classical.not_not.mp d14]]; rfl))
set_option maxRecDepth 20000 in
theorem r_pageOld {X : az_X} {w : az_W} {sz sl : Nat} {a b : Nat} {f : Nat → Int32} {fs : List Value} {mk : Nat} {c : Int32} (h0 : w a = .inr (9, .ref b :: fs)) (h1 : w b = .inl (0, 153, .inl f)) (hm : f 92 = nI mk) (hk : mk ≤ 1) : az_M X 135 [.ref a, .int c] w sz sl (some (.int (pOl f mk c)), w, sz, sl) := by
  refine az_Mof hd135 ?_
  show az_Ev X 135 0 [.ref a, .int c, .null, .null] [] w sz sl _
  refine E_bipush k135_0 ?_
  refine E_is2 k135_1 rfl ?_
  refine E_iconst k135_2 ?_
  refine E_is3 k135_3 rfl ?_
  have loop4 : ∀ j : Nat, j ≤ 8 → az_Ev X 135 4 [.ref a, .int c, .int (la (fun p => decide (f (72 + 10 * mk + (2 + p)) = c)) j), .int (nI j)] [] w sz sl (some (.int (pOl f mk c)), w, sz, sl) := by
    refine az_ind 8 _ (fun j hj4 ih4 => ?_)
    refine E_il3 k135_4 ?_
    refine E_bipush k135_5 ?_
    refine E_icge k135_6 (fun c6 => ?_) (fun d6 => ?_)
    · skip
      have he4 := lp_t hj4 (by decide) rfl c6
      subst he4
      refine E_il2 k135_20 ?_
      exact E_iret k135_21 hd135 rfl rfl
    · skip
      have hlt4 : j < 8 := lp_f (by omega) (by decide) rfl d6
      refine E_al0 k135_7 ?_
      refine E_iconst k135_8 ?_
      refine E_il3 k135_9 ?_
      refine E_iadd k135_10 ?_
      refine E_cv1 k135_11 (Or.inl rfl) (by assumption) cl133 rfl rfl (r_old h0 h1 hm hk (ixa (show (2 : Int32) = nI 2 from rfl) rfl) (by omega)) ?_
      refine E_il1 k135_12 ?_
      refine E_icne k135_13 (fun c13 => ?_) (fun d13 => ?_)
      · skip
        refine E_il2 k135_16 ?_
        refine E_is2 k135_17 rfl ?_
        refine E_inc3 k135_18 rfl ?_
        refine E_goto k135_19 ?_
        exact ev_cong (ih4 hlt4) (by first | (rw [nI_1, la, if_pos (by exact decide_eq_true (Classical.not_not.mp d13))]; done) | (rw [nI_1, la, if_neg (by exact fun z => c13 (of_decide_eq_true z))]; done)) rfl rfl
      · skip
        refine E_il3 k135_14 ?_
        refine E_goto k135_15 ?_
        refine E_is2 k135_17 rfl ?_
        refine E_inc3 k135_18 rfl ?_
        refine E_goto k135_19 ?_
        exact ev_cong (ih4 hlt4) (by first | (rw [nI_1, la, if_pos (by exact decide_eq_true (Classical.not_not.mp d13))]; done) | (rw [nI_1, la, if_neg (by exact fun z => c13 (of_decide_eq_true z))]; done)) rfl rfl
  exact ev_cong (loop4 0 (Nat.zero_le _)) rfl rfl rfl
set_option maxRecDepth 20000 in
theorem r_hasIt {X : az_X} {w : az_W} {sz sl : Nat} {a b : Nat} {f : Nat → Int32} {fs : List Value} {r c : Int32} (h0 : w a = .inr (9, .ref b :: fs)) (h1 : w b = .inl (0, 153, .inl f)) : az_M X 136 [.ref a, .int r, .int c] w sz sl (some (.int (zb (hI f r c))), w, sz, sl) := by
  refine az_Mof hd136 ?_
  show az_Ev X 136 0 [.ref a, .int r, .int c, .null, .null] [] w sz sl _
  refine E_iconst k136_0 ?_
  refine E_is3 k136_1 rfl ?_
  refine E_iconst k136_2 ?_
  refine E_is4 k136_3 rfl ?_
  have loop4 : ∀ j : Nat, j ≤ 8 → az_Ev X 136 4 [.ref a, .int r, .int c, .int (zb (an (fun p => isR f r && decide (f (111 + 10 * r.toNatClampNeg + 2 + p) = c)) j)), .int (nI j)] [] w sz sl (some (.int (zb (hI f r c))), w, sz, sl) := by
    refine az_ind 8 _ (fun j hj4 ih4 => ?_)
    refine E_il4 k136_4 ?_
    refine E_bipush k136_5 ?_
    refine E_icge k136_6 (fun c6 => ?_) (fun d6 => ?_)
    · skip
      have he4 := lp_t hj4 (by decide) rfl c6
      subst he4
      refine E_il3 k136_33 ?_
      exact E_zret k136_34 hd136 rfl (by first | exact Or.inl rfl | exact Or.inr rfl | exact zb01 _ | assumption) (by first | (unfold hI; rw [hz, hz]) | rfl)
    · skip
      have hlt4 : j < 8 := lp_f (by omega) (by decide) rfl d6
      refine E_al0 k136_7 ?_
      refine E_il1 k136_8 ?_
      refine E_cv1 k136_9 (Or.inl rfl) (by assumption) cl134 rfl rfl (r_isReader h0 h1) ?_
      refine E_zeq k136_10 (fun c10 => ?_) (fun d10 => ?_)
      · skip
        have hz := @an_f (fun p => isR f r && decide (f (111 + 10 * r.toNatClampNeg + 2 + p) = c)) (fun i => by simp [c10])
        refine E_il3 k136_33 ?_
        exact E_zret k136_34 hd136 rfl (by first | exact Or.inl rfl | exact Or.inr rfl | exact zb01 _ | assumption) (by first | (unfold hI; rw [hz, hz]) | rfl)
      · skip
        have hp := pgn_c (isR_p d10) (by decide)
        refine E_il3 k136_11 ?_
        refine E_zne k136_12 (fun c12 => ?_) (fun d12 => ?_)
        · skip
          refine E_iconst k136_27 ?_
          refine E_goto k136_28 ?_
          refine E_is3 k136_30 rfl ?_
          refine E_inc4 k136_31 rfl ?_
          refine E_goto k136_32 ?_
          exact ev_cong (ih4 hlt4) (by first | (rw [nI_1, an, if_pos c12]; rfl) | (rw [nI_1, an, if_neg (by rw [d12]; decide), d10, c26]; rfl) | (rw [nI_1, an, if_neg (by rw [d12]; decide), d10, decide_eq_false c26]; rfl) | (rw [nI_1, an, if_neg (by rw [d12]; decide), d10, decide_eq_true (Classical.not_not.mp d26)]; rfl)) rfl rfl
        · skip
          refine E_al0 k136_13 ?_
          refine E_get k136_14 (by assumption) rfl ?_
          refine E_bipush k136_15 ?_
          refine E_bipush k136_16 ?_
          refine E_il1 k136_17 ?_
          refine E_imul k136_18 ?_
          refine E_iadd k136_19 ?_
          refine E_iconst k136_20 ?_
          refine E_iadd k136_21 ?_
          refine E_il4 k136_22 ?_
          refine E_iadd k136_23 ?_
          refine E_alx k136_24 (ixa (ixa (ixa (show (111 : Int32) = nI 111 from rfl) (ixm (show (10 : Int32) = nI 10 from rfl) hp.1)) (show (2 : Int32) = nI 2 from rfl)) rfl) rfl (by assumption) (by omega) (by decide) ?_
          refine E_il2 k136_25 ?_
          refine E_icne k136_26 (fun c26 => ?_) (fun d26 => ?_)
          · skip
            refine E_iconst k136_29 ?_
            refine E_is3 k136_30 rfl ?_
            refine E_inc4 k136_31 rfl ?_
            refine E_goto k136_32 ?_
            exact ev_cong (ih4 hlt4) (by first | (rw [nI_1, an, if_pos c12]; rfl) | (rw [nI_1, an, if_neg (by rw [d12]; decide), d10, c26]; rfl) | (rw [nI_1, an, if_neg (by rw [d12]; decide), d10, decide_eq_false c26]; rfl) | (rw [nI_1, an, if_neg (by rw [d12]; decide), d10, decide_eq_true (Classical.not_not.mp d26)]; rfl)) rfl rfl
          · skip
            refine E_iconst k136_27 ?_
            refine E_goto k136_28 ?_
            refine E_is3 k136_30 rfl ?_
            refine E_inc4 k136_31 rfl ?_
            refine E_goto k136_32 ?_
            exact ev_cong (ih4 hlt4) (by first | (rw [nI_1, an, if_pos c12]; rfl) | (rw [nI_1, an, if_neg (by rw [d12]; decide), d10, c26]; rfl) | (rw [nI_1, an, if_neg (by rw [d12]; decide), d10, decide_eq_false c26]; rfl) | (rw [nI_1, an, if_neg (by rw [d12]; decide), d10, decide_eq_true (Classical.not_not.mp d26)]; rfl)) rfl rfl
  exact ev_cong (loop4 0 (Nat.zero_le _)) rfl rfl rfl
set_option maxRecDepth 20000 in
theorem r_readersOf {X : az_X} {w : az_W} {sz sl : Nat} {a b : Nat} {f : Nat → Int32} {fs : List Value} {c : Int32} (h0 : w a = .inr (9, .ref b :: fs)) (h1 : w b = .inl (0, 153, .inl f)) : az_M X 137 [.ref a, .int c] w sz sl (some (.int (nI (rOf f c))), w, sz, sl) := by
  refine az_Mof hd137 ?_
  show az_Ev X 137 0 [.ref a, .int c, .null, .null] [] w sz sl _
  refine E_iconst k137_0 ?_
  refine E_is2 k137_1 rfl ?_
  refine E_iconst k137_2 ?_
  refine E_is3 k137_3 rfl ?_
  have loop4 : ∀ j : Nat, j ≤ 4 → az_Ev X 137 4 [.ref a, .int c, .int (nI (cnt (fun r => hI f (nI r) c) j)), .int (nI j)] [] w sz sl (some (.int (nI (rOf f c))), w, sz, sl) := by
    refine az_ind 4 _ (fun j hj4 ih4 => ?_)
    refine E_il3 k137_4 ?_
    refine E_iconst k137_5 ?_
    refine E_icge k137_6 (fun c6 => ?_) (fun d6 => ?_)
    · skip
      have he4 := lp_t hj4 (by decide) rfl c6
      subst he4
      refine E_il2 k137_20 ?_
      exact E_iret k137_21 hd137 rfl rfl
    · skip
      have hlt4 : j < 4 := lp_f (by omega) (by decide) rfl d6
      refine E_il2 k137_7 ?_
      refine E_al0 k137_8 ?_
      refine E_il3 k137_9 ?_
      refine E_il1 k137_10 ?_
      refine E_cv2 k137_11 (Or.inl rfl) (by assumption) cl136 rfl rfl (r_hasIt h0 h1) ?_
      refine E_zeq k137_12 (fun c12 => ?_) (fun d12 => ?_)
      · skip
        refine E_iconst k137_15 ?_
        refine E_iadd k137_16 ?_
        refine E_is2 k137_17 rfl ?_
        refine E_inc3 k137_18 rfl ?_
        refine E_goto k137_19 ?_
        exact ev_cong (ih4 hlt4) (by first | (rw [nI_1, cnt_t (by exact d12), nI_1]; done) | (rw [nI_1, cnt_f (by exact c12)]; exact congrArg (fun q => [Value.ref a, Value.int c, Value.int q, Value.int (nI (j + 1))]) (Int32.add_zero _))) rfl rfl
      · skip
        refine E_iconst k137_13 ?_
        refine E_goto k137_14 ?_
        refine E_iadd k137_16 ?_
        refine E_is2 k137_17 rfl ?_
        refine E_inc3 k137_18 rfl ?_
        refine E_goto k137_19 ?_
        exact ev_cong (ih4 hlt4) (by first | (rw [nI_1, cnt_t (by exact d12), nI_1]; done) | (rw [nI_1, cnt_f (by exact c12)]; exact congrArg (fun q => [Value.ref a, Value.int c, Value.int q, Value.int (nI (j + 1))]) (Int32.add_zero _))) rfl rfl
  exact ev_cong (loop4 0 (Nat.zero_le _)) rfl rfl rfl
set_option maxRecDepth 20000 in
theorem r_pageWritten {X : az_X} {w : az_W} {sz sl : Nat} {a b : Nat} {f : Nat → Int32} {fs : List Value} {c : Int32} (h0 : w a = .inr (9, .ref b :: fs)) (h1 : w b = .inl (0, 153, .inl f)) : az_M X 138 [.ref a, .int c] w sz sl (some (.int (pWr f c)), w, sz, sl) := by
  refine az_Mof hd138 ?_
  show az_Ev X 138 0 [.ref a, .int c, .null, .null] [] w sz sl _
  refine E_bipush k138_0 ?_
  refine E_is2 k138_1 rfl ?_
  refine E_iconst k138_2 ?_
  refine E_is3 k138_3 rfl ?_
  have loop4 : ∀ j : Nat, j ≤ 8 → az_Ev X 138 4 [.ref a, .int c, .int (la (fun p => decide (f (103 + p) = c)) j), .int (nI j)] [] w sz sl (some (.int (pWr f c)), w, sz, sl) := by
    refine az_ind 8 _ (fun j hj4 ih4 => ?_)
    refine E_il3 k138_4 ?_
    refine E_bipush k138_5 ?_
    refine E_icge k138_6 (fun c6 => ?_) (fun d6 => ?_)
    · skip
      have he4 := lp_t hj4 (by decide) rfl c6
      subst he4
      refine E_il2 k138_21 ?_
      exact E_iret k138_22 hd138 rfl rfl
    · skip
      have hlt4 : j < 8 := lp_f (by omega) (by decide) rfl d6
      refine E_al0 k138_7 ?_
      refine E_get k138_8 (by assumption) rfl ?_
      refine E_bipush k138_9 ?_
      refine E_il3 k138_10 ?_
      refine E_iadd k138_11 ?_
      refine E_alx k138_12 (ixa (show (103 : Int32) = nI 103 from rfl) rfl) rfl (by assumption) (by omega) (by decide) ?_
      refine E_il1 k138_13 ?_
      refine E_icne k138_14 (fun c14 => ?_) (fun d14 => ?_)
      · skip
        refine E_il2 k138_17 ?_
        refine E_is2 k138_18 rfl ?_
        refine E_inc3 k138_19 rfl ?_
        refine E_goto k138_20 ?_
        exact ev_cong (ih4 hlt4) (by first | (rw [nI_1, la, if_pos (by exact decide_eq_true (Classical.not_not.mp d14))]; done) | (rw [nI_1, la, if_neg (by exact fun z => c14 (of_decide_eq_true z))]; done)) rfl rfl
      · skip
        refine E_il3 k138_15 ?_
        refine E_goto k138_16 ?_
        refine E_is2 k138_18 rfl ?_
        refine E_inc3 k138_19 rfl ?_
        refine E_goto k138_20 ?_
        exact ev_cong (ih4 hlt4) (by first | (rw [nI_1, la, if_pos (by exact decide_eq_true (Classical.not_not.mp d14))]; done) | (rw [nI_1, la, if_neg (by exact fun z => c14 (of_decide_eq_true z))]; done)) rfl rfl
  exact ev_cong (loop4 0 (Nat.zero_le _)) rfl rfl rfl
set_option maxRecDepth 20000 in
theorem r_isFree {X : az_X} {w : az_W} {sz sl : Nat} {a b : Nat} {f : Nat → Int32} {fs : List Value} {mk : Nat} {c : Int32} (h0 : w a = .inr (9, .ref b :: fs)) (h1 : w b = .inl (0, 153, .inl f)) (hm : f 92 = nI mk) (hk : mk ≤ 1) : az_M X 139 [.ref a, .int c] w sz sl (some (.int (zb (isF f mk c))), w, sz, sl) := by
  refine az_Mof hd139 ?_
  show az_Ev X 139 0 [.ref a, .int c] [] w sz sl _
  refine E_al0 k139_0 ?_
  refine E_il1 k139_1 ?_
  refine E_cv1 k139_2 (Or.inl rfl) (by assumption) cl135 rfl rfl (r_pageOld h0 h1 hm hk) ?_
  refine E_bipush k139_3 ?_
  refine E_icne k139_4 (fun c4 => ?_) (fun d4 => ?_)
  · skip
    refine E_iconst k139_16 ?_
    exact E_zret k139_17 hd139 rfl (by first | exact Or.inl rfl | exact Or.inr rfl | exact zb01 _ | assumption) (by first | (have z0 := c4; rw [show isF f mk c = false by simp [isF, c4]]; rfl) | (have z0 := c8b; rw [show isF f mk c = false by simp [isF, c8b]]; rfl) | (have z0 := c13; rw [show isF f mk c = false by simp [isF, c13]]; rfl) | (have z0 := Classical.not_not.mp d4; have z1 := d8b; have z2 := Classical.not_not.mp d13; rw [show isF f mk c = true by simp [isF, Classical.not_not.mp d4, d8b, Classical.not_not.mp d13]]; rfl))
  · skip
    refine E_al0 k139_5 ?_
    refine E_il1 k139_6 ?_
    refine E_cv1 k139_7 (Or.inl rfl) (by assumption) cl137 rfl rfl (r_readersOf h0 h1) ?_
    refine E_ifne k139_8 (fun c8 => ?_) (fun d8 => ?_)
    · skip
      have c8b : ¬ rOf f c = 0 := fun z => c8 (by rw [z]; rfl)
      refine E_iconst k139_16 ?_
      exact E_zret k139_17 hd139 rfl (by first | exact Or.inl rfl | exact Or.inr rfl | exact zb01 _ | assumption) (by first | (have z0 := c4; rw [show isF f mk c = false by simp [isF, c4]]; rfl) | (have z0 := c8b; rw [show isF f mk c = false by simp [isF, c8b]]; rfl) | (have z0 := c13; rw [show isF f mk c = false by simp [isF, c13]]; rfl) | (have z0 := Classical.not_not.mp d4; have z1 := d8b; have z2 := Classical.not_not.mp d13; rw [show isF f mk c = true by simp [isF, Classical.not_not.mp d4, d8b, Classical.not_not.mp d13]]; rfl))
    · skip
      have d8b : rOf f c = 0 := (nI_eq0 (Nat.lt_of_le_of_lt (cnt_le _ 4) (by decide))).mp (Classical.not_not.mp d8)
      refine E_al0 k139_9 ?_
      refine E_il1 k139_10 ?_
      refine E_cv1 k139_11 (Or.inl rfl) (by assumption) cl138 rfl rfl (r_pageWritten h0 h1) ?_
      refine E_bipush k139_12 ?_
      refine E_icne k139_13 (fun c13 => ?_) (fun d13 => ?_)
      · skip
        refine E_iconst k139_16 ?_
        exact E_zret k139_17 hd139 rfl (by first | exact Or.inl rfl | exact Or.inr rfl | exact zb01 _ | assumption) (by first | (have z0 := c4; rw [show isF f mk c = false by simp [isF, c4]]; rfl) | (have z0 := c8b; rw [show isF f mk c = false by simp [isF, c8b]]; rfl) | (have z0 := c13; rw [show isF f mk c = false by simp [isF, c13]]; rfl) | (have z0 := Classical.not_not.mp d4; have z1 := d8b; have z2 := Classical.not_not.mp d13; rw [show isF f mk c = true by simp [isF, Classical.not_not.mp d4, d8b, Classical.not_not.mp d13]]; rfl))
      · skip
        refine E_iconst k139_14 ?_
        refine E_goto k139_15 ?_
        exact E_zret k139_17 hd139 rfl (by first | exact Or.inl rfl | exact Or.inr rfl | exact zb01 _ | assumption) (by first | (have z0 := c4; rw [show isF f mk c = false by simp [isF, c4]]; rfl) | (have z0 := c8b; rw [show isF f mk c = false by simp [isF, c8b]]; rfl) | (have z0 := c13; rw [show isF f mk c = false by simp [isF, c13]]; rfl) | (have z0 := Classical.not_not.mp d4; have z1 := d8b; have z2 := Classical.not_not.mp d13; rw [show isF f mk c = true by simp [isF, Classical.not_not.mp d4, d8b, Classical.not_not.mp d13]]; rfl))
