/-! methods' runs, laid by wip/whole/walk.py out of wip/whole/specs16.py -/
/-! the reference's lists and counts -/
def onR (x : Int32) : Nat → Int32
  | 0 => 0
  | n + 1 => onR x n + ((x >>> (nI n &&& 31)) &&& 1)
def kR (f : Nat → Int32) (mk : Nat) (c : Int32) : Bool := !decide (nI (rOf f c) ≤ 0) && (decide (pOl f mk c = -5) && decide (pWr f c = -5))
theorem kR_1 {f : Nat → Int32} {mk : Nat} {c : Int32} (h : nI (rOf f c) ≤ 0) : kR f mk c = false := by rw [kR, decide_eq_true h]; rfl
theorem kR_2 {f : Nat → Int32} {mk : Nat} {c : Int32} (h : ¬ pOl f mk c = -5) : kR f mk c = false := by rw [kR, decide_eq_false h, Bool.false_and, Bool.and_false]
theorem kR_3 {f : Nat → Int32} {mk : Nat} {c : Int32} (h : ¬ pWr f c = -5) : kR f mk c = false := by rw [kR, decide_eq_false h, Bool.and_false, Bool.and_false]
theorem kR_t {f : Nat → Int32} {mk : Nat} {c : Int32} (h1 : ¬ nI (rOf f c) ≤ 0) (h2 : ¬ ¬ pOl f mk c = -5) (h3 : ¬ ¬ pWr f c = -5) : kR f mk c = true := by rw [kR, decide_eq_false h1, decide_eq_true (Classical.not_not.mp h2), decide_eq_true (Classical.not_not.mp h3)]; rfl
def ctP (f : Nat → Int32) (mk : Nat) (q : Int32) : Nat → Bool := fun i => if q = 0 then isF f mk (nI i) else if q = 1 then tR f i else kR f mk (nI i)
theorem ct_0 {f : Nat → Int32} {mk i : Nat} {q : Int32} (h : ¬ ¬ q = 0) : ctP f mk q i = isF f mk (nI i) := by rw [ctP, if_pos (Classical.not_not.mp h)]
theorem ct_1 {f : Nat → Int32} {mk i : Nat} {q : Int32} (h : ¬ q = 0) (h2 : ¬ ¬ q = 1) : ctP f mk q i = tR f i := by rw [ctP, if_neg h, if_pos (Classical.not_not.mp h2)]
theorem ct_2 {f : Nat → Int32} {mk i : Nat} {q : Int32} (h : ¬ q = 0) (h2 : ¬ q = 1) : ctP f mk q i = kR f mk (nI i) := by rw [ctP, if_neg h, if_neg h2]
theorem stL {a b : Value} {x x' y y' : Int32} {l : List Value} (h : x = x') (h2 : y = y') : a :: b :: .int x :: .int y :: l = a :: b :: .int x' :: .int y' :: l := by rw [h, h2]
theorem cnt_a1 {P : Nat → Bool} {n : Nat} (h : P n = true) : nI (cnt P n) + 1 = nI (cnt P (n + 1)) := by rw [cnt_t h, nI_1]
theorem cnt_a0 {P : Nat → Bool} {n : Nat} (h : P n = false) : nI (cnt P n) + 0 = nI (cnt P (n + 1)) := by rw [cnt_f h, Int32.add_zero]
theorem inB_2 {p : Int32} : inB p 0 1 = pgn 2 p := inB_pgn rfl (by decide) (by decide) rfl (by decide)
theorem inB_c {q lo hi : Int32} (h : inB q lo hi = true) (h0 : 0 ≤ lo.toInt) : q = nI q.toNatClampNeg ∧ lo.toInt ≤ (q.toNatClampNeg : Int) ∧ (q.toNatClampNeg : Int) ≤ hi.toInt := by
  unfold inB at h
  have h1 : ¬ q < lo := fun z => by rw [decide_eq_true z] at h; cases h
  have h2 : ¬ hi < q := fun z => by rw [decide_eq_true z, Bool.not_true, Bool.and_false] at h; cases h
  have i1 : lo.toInt ≤ q.toInt := by
    rcases Int.lt_or_le q.toInt lo.toInt with z | z
    · exact absurd (Int32.lt_iff_toInt_lt.mpr z) h1
    · exact z
  have i2 : q.toInt ≤ hi.toInt := by
    rcases Int.lt_or_le hi.toInt q.toInt with z | z
    · exact absurd (Int32.lt_iff_toInt_lt.mpr z) h2
    · exact z
  have hn : ¬ q < 0 := fun z => by have := Int32.lt_iff_toInt_lt.mp z; rw [show (0 : Int32).toInt = 0 from rfl] at this; omega
  obtain ⟨i, hi2, rfl⟩ := nI_of hn
  rw [nI_clamp hi2]
  rw [nI_toInt hi2] at i1 i2
  exact ⟨rfl, i1, i2⟩
theorem ixs {x y : Int32} {a b : Nat} (hx : x = nI a) (hy : y = nI b) (h : b ≤ a) : x - y = nI (a - b) := by
  have : nI a = nI (a - b) + nI b := by rw [ixa rfl rfl, Nat.sub_add_cancel h]
  subst hx hy
  rw [this, Int32.add_sub_cancel]
def owdR (f : Nat → Int32) (i q : Int32) : Int32 := if i < 0 then -2 else if inB q 0 1 = false then -2 else if ¬ i < owR f then -5 else if q = 1 then pqR f (f 102 + i) else if ¬ pqR f (f 102 + i) = -5 then 0 else if f 102 + i = nI (cR f) then 1 else 2
def ocR (f : Nat → Int32) : Nat → Bool := fun i => decide (¬ pqR f (f 102 + nI i) = -5)
def rCell (f : Nat → Int32) (mk : Nat) (c q : Int32) : Int32 := if pgn 24 c = false then -1 else if q = 0 then f (0 + c.toNatClampNeg) else if q = 1 then f (24 + c.toNatClampNeg) else if q = 2 then zb (tR f c.toNatClampNeg) else if q = 3 then f (48 + c.toNatClampNeg) else if q = 4 then zb (isF f mk c) else if q = 5 then pOl f mk c else if q = 6 then nI (rOf f c) else if q = 7 then pWr f c else -2
def rTab (f : Nat → Int32) (t q : Int32) : Int32 := if pgn 2 t = false then -1 else if inB q 10 17 = true then f (72 + 10 * t.toNatClampNeg + 2 + q.toNatClampNeg - 10) else if q = 0 then f (72 + 10 * t.toNatClampNeg + 0) else if q = 1 then f (72 + 10 * t.toNatClampNeg + 1) else if q = 2 then (if ¬ f 92 = t then 0 else 1) else if q = 3 then psf (fun i => f (72 + 10 * t.toNatClampNeg + 2 + i)) 8 else -2
def rCount (f : Nat → Int32) (mk : Nat) (pn tl : Int32) (q : Int32) : Int32 := if q = 0 then f (72 + 10 * mk + 0) else if q = 1 then f 92 else if q = 2 then onR (psf (fun i => f (72 + 10 * mk + 2 + i)) 8) 8 else if q = 3 then nI (tdR f) else if q = 4 then owR f else if q = 5 then f 102 else if q = 6 then nI (cnt (ctP f mk 0) 24) else if q = 7 then nI (cnt (ctP f mk 1) 24) else if q = 8 then nI (rdR f) else if q = 9 then f 151 else if q = 10 then mxf (fun i => f (48 + i)) 24 else if q = 11 then smf (fun i => f (48 + i)) 24 else if q = 12 then nI (cnt (ctP f mk 2) 24) else if q = 13 then f 152 else if q = 14 then pn else if q = 15 then tl else if q = 16 then nI (cnt (ocR f) (owR f).toNatClampNeg) else -2
theorem stM {a : Value} {x x' y y' : Int32} {l : List Value} (h : x = x') (h2 : y = y') : a :: .int x :: .int y :: l = a :: .int x' :: .int y' :: l := by rw [h, h2]

set_option maxRecDepth 20000 in
theorem r_ones {X : az_X} {w : az_W} {sz sl : Nat} {x : Int32}  : az_M X 188 [.int x] w sz sl (some (.int (onR x 8)), w, sz, sl) := by
  refine az_Mof hd188 ?_
  show az_Ev X 188 0 [.int x, .null, .null] [] w sz sl _
  refine E_iconst k188_0 ?_
  refine E_is1 k188_1 rfl ?_
  refine E_iconst k188_2 ?_
  refine E_is2 k188_3 rfl ?_
  have loop4 : ∀ j : Nat, j ≤ 8 → az_Ev X 188 4 [.int x, .int (onR x j), .int (nI j)] [] w sz sl (some (.int (onR x 8)), w, sz, sl) := by
    refine az_ind 8 _ (fun j hj4 ih4 => ?_)
    refine E_il2 k188_4 ?_
    refine E_bipush k188_5 ?_
    refine E_icge k188_6 (fun c6 => ?_) (fun d6 => ?_)
    · skip
      have he4 := lp_t hj4 (by decide) rfl c6
      subst he4
      refine E_il1 k188_17 ?_
      exact E_iret k188_18 hd188 rfl rfl
    · skip
      have hlt4 : j < 8 := lp_f (by omega) (by decide) rfl d6
      refine E_il1 k188_7 ?_
      refine E_il0 k188_8 ?_
      refine E_il2 k188_9 ?_
      refine E_ishr k188_10 ?_
      refine E_iconst k188_11 ?_
      refine E_iand k188_12 ?_
      refine E_iadd k188_13 ?_
      refine E_is1 k188_14 rfl ?_
      refine E_inc2 k188_15 rfl ?_
      refine E_goto k188_16 ?_
      exact ev_cong (ih4 hlt4) (by rw [nI_1]; rfl) rfl rfl
  exact ev_cong (loop4 0 (Nat.zero_le _)) rfl rfl rfl
set_option maxRecDepth 20000 in
theorem r_cellsThat {X : az_X} {w : az_W} {sz sl : Nat} {a b : Nat} {f : Nat → Int32} {fs : List Value} {mk : Nat} {q : Int32} (h0 : w a = .inr (9, .ref b :: fs)) (h1 : w b = .inl (0, 153, .inl f)) (hm : f 92 = nI mk) (hk : mk ≤ 1) : az_M X 189 [.ref a, .int q] w sz sl (some (.int (nI (cnt (ctP f mk q) 24))), w, sz, sl) := by
  refine az_Mof hd189 ?_
  show az_Ev X 189 0 [.ref a, .int q, .null, .null, .null, .null] [] w sz sl _
  refine E_iconst k189_0 ?_
  refine E_is2 k189_1 rfl ?_
  refine E_iconst k189_2 ?_
  refine E_is3 k189_3 rfl ?_
  have loop4 : ∀ j : Nat, j ≤ 24 → ∀ v4 v5 : Value, az_Ev X 189 4 [.ref a, .int q, .int (nI (cnt (ctP f mk q) j)), .int (nI j), v4, v5] [] w sz sl (some (.int (nI (cnt (ctP f mk q) 24))), w, sz, sl) := by
    refine az_ind 24 _ (fun j hj4 ih4 => ?_)
    intro v4 v5
    refine E_il3 k189_4 ?_
    refine E_bipush k189_5 ?_
    refine E_icge k189_6 (fun c6 => ?_) (fun d6 => ?_)
    · skip
      have he4 := lp_t hj4 (by decide) rfl c6
      subst he4
      refine E_il2 k189_50 ?_
      exact E_iret k189_51 hd189 rfl rfl
    · skip
      have hlt4 : j < 24 := lp_f (by omega) (by decide) rfl d6
      refine E_al0 k189_7 ?_
      refine E_il3 k189_8 ?_
      refine E_cv1 k189_9 (Or.inl rfl) (by assumption) cl137 rfl rfl (r_readersOf h0 h1) ?_
      refine E_ifle k189_10 (fun c10 => ?_) (fun d10 => ?_)
      · skip
        refine E_iconst k189_23 ?_
        refine E_is4 k189_24 rfl ?_
        refine E_il1 k189_25 ?_
        refine E_ifne k189_26 (fun c26 => ?_) (fun d26 => ?_)
        · skip
          refine E_il1 k189_31 ?_
          refine E_iconst k189_32 ?_
          refine E_icne k189_33 (fun c33 => ?_) (fun d33 => ?_)
          · skip
            refine E_il4 k189_38 ?_
            refine E_is5 k189_39 rfl ?_
            refine E_il2 k189_40 ?_
            refine E_il5 k189_41 ?_
            refine E_ifeq k189_42 (fun c42 => ?_) (fun d42 => ?_)
            · skip
              refine E_iconst k189_45 ?_
              refine E_iadd k189_46 ?_
              refine E_is2 k189_47 rfl ?_
              refine E_inc3 k189_48 rfl ?_
              refine E_goto k189_49 ?_
              exact ev_cong (ih4 hlt4 _ _) (stL (by first | (exact absurd c42 (by decide)) | (exact absurd rfl d42) | (exact cnt_a1 ((ct_0 d26).trans d42)) | (exact cnt_a1 ((ct_1 c26 d33).trans d42)) | (exact cnt_a1 ((ct_2 c26 c33).trans (kR_t d10 d15 d20))) | (exact cnt_a0 ((ct_0 d26).trans c42)) | (exact cnt_a0 ((ct_1 c26 d33).trans c42)) | (exact cnt_a0 ((ct_2 c26 c33).trans (kR_1 c10))) | (exact cnt_a0 ((ct_2 c26 c33).trans (kR_2 c15))) | (exact cnt_a0 ((ct_2 c26 c33).trans (kR_3 c20)))) (nI_1 _)) rfl rfl
            · skip
              refine E_iconst k189_43 ?_
              refine E_goto k189_44 ?_
              refine E_iadd k189_46 ?_
              refine E_is2 k189_47 rfl ?_
              refine E_inc3 k189_48 rfl ?_
              refine E_goto k189_49 ?_
              exact ev_cong (ih4 hlt4 _ _) (stL (by first | (exact absurd c42 (by decide)) | (exact absurd rfl d42) | (exact cnt_a1 ((ct_0 d26).trans d42)) | (exact cnt_a1 ((ct_1 c26 d33).trans d42)) | (exact cnt_a1 ((ct_2 c26 c33).trans (kR_t d10 d15 d20))) | (exact cnt_a0 ((ct_0 d26).trans c42)) | (exact cnt_a0 ((ct_1 c26 d33).trans c42)) | (exact cnt_a0 ((ct_2 c26 c33).trans (kR_1 c10))) | (exact cnt_a0 ((ct_2 c26 c33).trans (kR_2 c15))) | (exact cnt_a0 ((ct_2 c26 c33).trans (kR_3 c20)))) (nI_1 _)) rfl rfl
          · skip
            refine E_al0 k189_34 ?_
            refine E_il3 k189_35 ?_
            refine E_cv1 k189_36 (Or.inl rfl) (by assumption) cl140 rfl rfl (r_isTorn h0 h1 rfl hlt4) ?_
            refine E_goto k189_37 ?_
            refine E_is5 k189_39 rfl ?_
            refine E_il2 k189_40 ?_
            refine E_il5 k189_41 ?_
            refine E_zeq k189_42 (fun c42 => ?_) (fun d42 => ?_)
            · skip
              refine E_iconst k189_45 ?_
              refine E_iadd k189_46 ?_
              refine E_is2 k189_47 rfl ?_
              refine E_inc3 k189_48 rfl ?_
              refine E_goto k189_49 ?_
              exact ev_cong (ih4 hlt4 _ _) (stL (by first | (exact absurd c42 (by decide)) | (exact absurd rfl d42) | (exact cnt_a1 ((ct_0 d26).trans d42)) | (exact cnt_a1 ((ct_1 c26 d33).trans d42)) | (exact cnt_a1 ((ct_2 c26 c33).trans (kR_t d10 d15 d20))) | (exact cnt_a0 ((ct_0 d26).trans c42)) | (exact cnt_a0 ((ct_1 c26 d33).trans c42)) | (exact cnt_a0 ((ct_2 c26 c33).trans (kR_1 c10))) | (exact cnt_a0 ((ct_2 c26 c33).trans (kR_2 c15))) | (exact cnt_a0 ((ct_2 c26 c33).trans (kR_3 c20)))) (nI_1 _)) rfl rfl
            · skip
              refine E_iconst k189_43 ?_
              refine E_goto k189_44 ?_
              refine E_iadd k189_46 ?_
              refine E_is2 k189_47 rfl ?_
              refine E_inc3 k189_48 rfl ?_
              refine E_goto k189_49 ?_
              exact ev_cong (ih4 hlt4 _ _) (stL (by first | (exact absurd c42 (by decide)) | (exact absurd rfl d42) | (exact cnt_a1 ((ct_0 d26).trans d42)) | (exact cnt_a1 ((ct_1 c26 d33).trans d42)) | (exact cnt_a1 ((ct_2 c26 c33).trans (kR_t d10 d15 d20))) | (exact cnt_a0 ((ct_0 d26).trans c42)) | (exact cnt_a0 ((ct_1 c26 d33).trans c42)) | (exact cnt_a0 ((ct_2 c26 c33).trans (kR_1 c10))) | (exact cnt_a0 ((ct_2 c26 c33).trans (kR_2 c15))) | (exact cnt_a0 ((ct_2 c26 c33).trans (kR_3 c20)))) (nI_1 _)) rfl rfl
        · skip
          refine E_al0 k189_27 ?_
          refine E_il3 k189_28 ?_
          refine E_cv1 k189_29 (Or.inl rfl) (by assumption) cl139 rfl rfl (r_isFree h0 h1 hm hk) ?_
          refine E_goto k189_30 ?_
          refine E_is5 k189_39 rfl ?_
          refine E_il2 k189_40 ?_
          refine E_il5 k189_41 ?_
          refine E_zeq k189_42 (fun c42 => ?_) (fun d42 => ?_)
          · skip
            refine E_iconst k189_45 ?_
            refine E_iadd k189_46 ?_
            refine E_is2 k189_47 rfl ?_
            refine E_inc3 k189_48 rfl ?_
            refine E_goto k189_49 ?_
            exact ev_cong (ih4 hlt4 _ _) (stL (by first | (exact absurd c42 (by decide)) | (exact absurd rfl d42) | (exact cnt_a1 ((ct_0 d26).trans d42)) | (exact cnt_a1 ((ct_1 c26 d33).trans d42)) | (exact cnt_a1 ((ct_2 c26 c33).trans (kR_t d10 d15 d20))) | (exact cnt_a0 ((ct_0 d26).trans c42)) | (exact cnt_a0 ((ct_1 c26 d33).trans c42)) | (exact cnt_a0 ((ct_2 c26 c33).trans (kR_1 c10))) | (exact cnt_a0 ((ct_2 c26 c33).trans (kR_2 c15))) | (exact cnt_a0 ((ct_2 c26 c33).trans (kR_3 c20)))) (nI_1 _)) rfl rfl
          · skip
            refine E_iconst k189_43 ?_
            refine E_goto k189_44 ?_
            refine E_iadd k189_46 ?_
            refine E_is2 k189_47 rfl ?_
            refine E_inc3 k189_48 rfl ?_
            refine E_goto k189_49 ?_
            exact ev_cong (ih4 hlt4 _ _) (stL (by first | (exact absurd c42 (by decide)) | (exact absurd rfl d42) | (exact cnt_a1 ((ct_0 d26).trans d42)) | (exact cnt_a1 ((ct_1 c26 d33).trans d42)) | (exact cnt_a1 ((ct_2 c26 c33).trans (kR_t d10 d15 d20))) | (exact cnt_a0 ((ct_0 d26).trans c42)) | (exact cnt_a0 ((ct_1 c26 d33).trans c42)) | (exact cnt_a0 ((ct_2 c26 c33).trans (kR_1 c10))) | (exact cnt_a0 ((ct_2 c26 c33).trans (kR_2 c15))) | (exact cnt_a0 ((ct_2 c26 c33).trans (kR_3 c20)))) (nI_1 _)) rfl rfl
      · skip
        refine E_al0 k189_11 ?_
        refine E_il3 k189_12 ?_
        refine E_cv1 k189_13 (Or.inl rfl) (by assumption) cl135 rfl rfl (r_pageOld h0 h1 hm hk) ?_
        refine E_bipush k189_14 ?_
        refine E_icne k189_15 (fun c15 => ?_) (fun d15 => ?_)
        · skip
          refine E_iconst k189_23 ?_
          refine E_is4 k189_24 rfl ?_
          refine E_il1 k189_25 ?_
          refine E_ifne k189_26 (fun c26 => ?_) (fun d26 => ?_)
          · skip
            refine E_il1 k189_31 ?_
            refine E_iconst k189_32 ?_
            refine E_icne k189_33 (fun c33 => ?_) (fun d33 => ?_)
            · skip
              refine E_il4 k189_38 ?_
              refine E_is5 k189_39 rfl ?_
              refine E_il2 k189_40 ?_
              refine E_il5 k189_41 ?_
              refine E_ifeq k189_42 (fun c42 => ?_) (fun d42 => ?_)
              · skip
                refine E_iconst k189_45 ?_
                refine E_iadd k189_46 ?_
                refine E_is2 k189_47 rfl ?_
                refine E_inc3 k189_48 rfl ?_
                refine E_goto k189_49 ?_
                exact ev_cong (ih4 hlt4 _ _) (stL (by first | (exact absurd c42 (by decide)) | (exact absurd rfl d42) | (exact cnt_a1 ((ct_0 d26).trans d42)) | (exact cnt_a1 ((ct_1 c26 d33).trans d42)) | (exact cnt_a1 ((ct_2 c26 c33).trans (kR_t d10 d15 d20))) | (exact cnt_a0 ((ct_0 d26).trans c42)) | (exact cnt_a0 ((ct_1 c26 d33).trans c42)) | (exact cnt_a0 ((ct_2 c26 c33).trans (kR_1 c10))) | (exact cnt_a0 ((ct_2 c26 c33).trans (kR_2 c15))) | (exact cnt_a0 ((ct_2 c26 c33).trans (kR_3 c20)))) (nI_1 _)) rfl rfl
              · skip
                refine E_iconst k189_43 ?_
                refine E_goto k189_44 ?_
                refine E_iadd k189_46 ?_
                refine E_is2 k189_47 rfl ?_
                refine E_inc3 k189_48 rfl ?_
                refine E_goto k189_49 ?_
                exact ev_cong (ih4 hlt4 _ _) (stL (by first | (exact absurd c42 (by decide)) | (exact absurd rfl d42) | (exact cnt_a1 ((ct_0 d26).trans d42)) | (exact cnt_a1 ((ct_1 c26 d33).trans d42)) | (exact cnt_a1 ((ct_2 c26 c33).trans (kR_t d10 d15 d20))) | (exact cnt_a0 ((ct_0 d26).trans c42)) | (exact cnt_a0 ((ct_1 c26 d33).trans c42)) | (exact cnt_a0 ((ct_2 c26 c33).trans (kR_1 c10))) | (exact cnt_a0 ((ct_2 c26 c33).trans (kR_2 c15))) | (exact cnt_a0 ((ct_2 c26 c33).trans (kR_3 c20)))) (nI_1 _)) rfl rfl
            · skip
              refine E_al0 k189_34 ?_
              refine E_il3 k189_35 ?_
              refine E_cv1 k189_36 (Or.inl rfl) (by assumption) cl140 rfl rfl (r_isTorn h0 h1 rfl hlt4) ?_
              refine E_goto k189_37 ?_
              refine E_is5 k189_39 rfl ?_
              refine E_il2 k189_40 ?_
              refine E_il5 k189_41 ?_
              refine E_zeq k189_42 (fun c42 => ?_) (fun d42 => ?_)
              · skip
                refine E_iconst k189_45 ?_
                refine E_iadd k189_46 ?_
                refine E_is2 k189_47 rfl ?_
                refine E_inc3 k189_48 rfl ?_
                refine E_goto k189_49 ?_
                exact ev_cong (ih4 hlt4 _ _) (stL (by first | (exact absurd c42 (by decide)) | (exact absurd rfl d42) | (exact cnt_a1 ((ct_0 d26).trans d42)) | (exact cnt_a1 ((ct_1 c26 d33).trans d42)) | (exact cnt_a1 ((ct_2 c26 c33).trans (kR_t d10 d15 d20))) | (exact cnt_a0 ((ct_0 d26).trans c42)) | (exact cnt_a0 ((ct_1 c26 d33).trans c42)) | (exact cnt_a0 ((ct_2 c26 c33).trans (kR_1 c10))) | (exact cnt_a0 ((ct_2 c26 c33).trans (kR_2 c15))) | (exact cnt_a0 ((ct_2 c26 c33).trans (kR_3 c20)))) (nI_1 _)) rfl rfl
              · skip
                refine E_iconst k189_43 ?_
                refine E_goto k189_44 ?_
                refine E_iadd k189_46 ?_
                refine E_is2 k189_47 rfl ?_
                refine E_inc3 k189_48 rfl ?_
                refine E_goto k189_49 ?_
                exact ev_cong (ih4 hlt4 _ _) (stL (by first | (exact absurd c42 (by decide)) | (exact absurd rfl d42) | (exact cnt_a1 ((ct_0 d26).trans d42)) | (exact cnt_a1 ((ct_1 c26 d33).trans d42)) | (exact cnt_a1 ((ct_2 c26 c33).trans (kR_t d10 d15 d20))) | (exact cnt_a0 ((ct_0 d26).trans c42)) | (exact cnt_a0 ((ct_1 c26 d33).trans c42)) | (exact cnt_a0 ((ct_2 c26 c33).trans (kR_1 c10))) | (exact cnt_a0 ((ct_2 c26 c33).trans (kR_2 c15))) | (exact cnt_a0 ((ct_2 c26 c33).trans (kR_3 c20)))) (nI_1 _)) rfl rfl
          · skip
            refine E_al0 k189_27 ?_
            refine E_il3 k189_28 ?_
            refine E_cv1 k189_29 (Or.inl rfl) (by assumption) cl139 rfl rfl (r_isFree h0 h1 hm hk) ?_
            refine E_goto k189_30 ?_
            refine E_is5 k189_39 rfl ?_
            refine E_il2 k189_40 ?_
            refine E_il5 k189_41 ?_
            refine E_zeq k189_42 (fun c42 => ?_) (fun d42 => ?_)
            · skip
              refine E_iconst k189_45 ?_
              refine E_iadd k189_46 ?_
              refine E_is2 k189_47 rfl ?_
              refine E_inc3 k189_48 rfl ?_
              refine E_goto k189_49 ?_
              exact ev_cong (ih4 hlt4 _ _) (stL (by first | (exact absurd c42 (by decide)) | (exact absurd rfl d42) | (exact cnt_a1 ((ct_0 d26).trans d42)) | (exact cnt_a1 ((ct_1 c26 d33).trans d42)) | (exact cnt_a1 ((ct_2 c26 c33).trans (kR_t d10 d15 d20))) | (exact cnt_a0 ((ct_0 d26).trans c42)) | (exact cnt_a0 ((ct_1 c26 d33).trans c42)) | (exact cnt_a0 ((ct_2 c26 c33).trans (kR_1 c10))) | (exact cnt_a0 ((ct_2 c26 c33).trans (kR_2 c15))) | (exact cnt_a0 ((ct_2 c26 c33).trans (kR_3 c20)))) (nI_1 _)) rfl rfl
            · skip
              refine E_iconst k189_43 ?_
              refine E_goto k189_44 ?_
              refine E_iadd k189_46 ?_
              refine E_is2 k189_47 rfl ?_
              refine E_inc3 k189_48 rfl ?_
              refine E_goto k189_49 ?_
              exact ev_cong (ih4 hlt4 _ _) (stL (by first | (exact absurd c42 (by decide)) | (exact absurd rfl d42) | (exact cnt_a1 ((ct_0 d26).trans d42)) | (exact cnt_a1 ((ct_1 c26 d33).trans d42)) | (exact cnt_a1 ((ct_2 c26 c33).trans (kR_t d10 d15 d20))) | (exact cnt_a0 ((ct_0 d26).trans c42)) | (exact cnt_a0 ((ct_1 c26 d33).trans c42)) | (exact cnt_a0 ((ct_2 c26 c33).trans (kR_1 c10))) | (exact cnt_a0 ((ct_2 c26 c33).trans (kR_2 c15))) | (exact cnt_a0 ((ct_2 c26 c33).trans (kR_3 c20)))) (nI_1 _)) rfl rfl
        · skip
          refine E_al0 k189_16 ?_
          refine E_il3 k189_17 ?_
          refine E_cv1 k189_18 (Or.inl rfl) (by assumption) cl138 rfl rfl (r_pageWritten h0 h1) ?_
          refine E_bipush k189_19 ?_
          refine E_icne k189_20 (fun c20 => ?_) (fun d20 => ?_)
          · skip
            refine E_iconst k189_23 ?_
            refine E_is4 k189_24 rfl ?_
            refine E_il1 k189_25 ?_
            refine E_ifne k189_26 (fun c26 => ?_) (fun d26 => ?_)
            · skip
              refine E_il1 k189_31 ?_
              refine E_iconst k189_32 ?_
              refine E_icne k189_33 (fun c33 => ?_) (fun d33 => ?_)
              · skip
                refine E_il4 k189_38 ?_
                refine E_is5 k189_39 rfl ?_
                refine E_il2 k189_40 ?_
                refine E_il5 k189_41 ?_
                refine E_ifeq k189_42 (fun c42 => ?_) (fun d42 => ?_)
                · skip
                  refine E_iconst k189_45 ?_
                  refine E_iadd k189_46 ?_
                  refine E_is2 k189_47 rfl ?_
                  refine E_inc3 k189_48 rfl ?_
                  refine E_goto k189_49 ?_
                  exact ev_cong (ih4 hlt4 _ _) (stL (by first | (exact absurd c42 (by decide)) | (exact absurd rfl d42) | (exact cnt_a1 ((ct_0 d26).trans d42)) | (exact cnt_a1 ((ct_1 c26 d33).trans d42)) | (exact cnt_a1 ((ct_2 c26 c33).trans (kR_t d10 d15 d20))) | (exact cnt_a0 ((ct_0 d26).trans c42)) | (exact cnt_a0 ((ct_1 c26 d33).trans c42)) | (exact cnt_a0 ((ct_2 c26 c33).trans (kR_1 c10))) | (exact cnt_a0 ((ct_2 c26 c33).trans (kR_2 c15))) | (exact cnt_a0 ((ct_2 c26 c33).trans (kR_3 c20)))) (nI_1 _)) rfl rfl
                · skip
                  refine E_iconst k189_43 ?_
                  refine E_goto k189_44 ?_
                  refine E_iadd k189_46 ?_
                  refine E_is2 k189_47 rfl ?_
                  refine E_inc3 k189_48 rfl ?_
                  refine E_goto k189_49 ?_
                  exact ev_cong (ih4 hlt4 _ _) (stL (by first | (exact absurd c42 (by decide)) | (exact absurd rfl d42) | (exact cnt_a1 ((ct_0 d26).trans d42)) | (exact cnt_a1 ((ct_1 c26 d33).trans d42)) | (exact cnt_a1 ((ct_2 c26 c33).trans (kR_t d10 d15 d20))) | (exact cnt_a0 ((ct_0 d26).trans c42)) | (exact cnt_a0 ((ct_1 c26 d33).trans c42)) | (exact cnt_a0 ((ct_2 c26 c33).trans (kR_1 c10))) | (exact cnt_a0 ((ct_2 c26 c33).trans (kR_2 c15))) | (exact cnt_a0 ((ct_2 c26 c33).trans (kR_3 c20)))) (nI_1 _)) rfl rfl
              · skip
                refine E_al0 k189_34 ?_
                refine E_il3 k189_35 ?_
                refine E_cv1 k189_36 (Or.inl rfl) (by assumption) cl140 rfl rfl (r_isTorn h0 h1 rfl hlt4) ?_
                refine E_goto k189_37 ?_
                refine E_is5 k189_39 rfl ?_
                refine E_il2 k189_40 ?_
                refine E_il5 k189_41 ?_
                refine E_zeq k189_42 (fun c42 => ?_) (fun d42 => ?_)
                · skip
                  refine E_iconst k189_45 ?_
                  refine E_iadd k189_46 ?_
                  refine E_is2 k189_47 rfl ?_
                  refine E_inc3 k189_48 rfl ?_
                  refine E_goto k189_49 ?_
                  exact ev_cong (ih4 hlt4 _ _) (stL (by first | (exact absurd c42 (by decide)) | (exact absurd rfl d42) | (exact cnt_a1 ((ct_0 d26).trans d42)) | (exact cnt_a1 ((ct_1 c26 d33).trans d42)) | (exact cnt_a1 ((ct_2 c26 c33).trans (kR_t d10 d15 d20))) | (exact cnt_a0 ((ct_0 d26).trans c42)) | (exact cnt_a0 ((ct_1 c26 d33).trans c42)) | (exact cnt_a0 ((ct_2 c26 c33).trans (kR_1 c10))) | (exact cnt_a0 ((ct_2 c26 c33).trans (kR_2 c15))) | (exact cnt_a0 ((ct_2 c26 c33).trans (kR_3 c20)))) (nI_1 _)) rfl rfl
                · skip
                  refine E_iconst k189_43 ?_
                  refine E_goto k189_44 ?_
                  refine E_iadd k189_46 ?_
                  refine E_is2 k189_47 rfl ?_
                  refine E_inc3 k189_48 rfl ?_
                  refine E_goto k189_49 ?_
                  exact ev_cong (ih4 hlt4 _ _) (stL (by first | (exact absurd c42 (by decide)) | (exact absurd rfl d42) | (exact cnt_a1 ((ct_0 d26).trans d42)) | (exact cnt_a1 ((ct_1 c26 d33).trans d42)) | (exact cnt_a1 ((ct_2 c26 c33).trans (kR_t d10 d15 d20))) | (exact cnt_a0 ((ct_0 d26).trans c42)) | (exact cnt_a0 ((ct_1 c26 d33).trans c42)) | (exact cnt_a0 ((ct_2 c26 c33).trans (kR_1 c10))) | (exact cnt_a0 ((ct_2 c26 c33).trans (kR_2 c15))) | (exact cnt_a0 ((ct_2 c26 c33).trans (kR_3 c20)))) (nI_1 _)) rfl rfl
            · skip
              refine E_al0 k189_27 ?_
              refine E_il3 k189_28 ?_
              refine E_cv1 k189_29 (Or.inl rfl) (by assumption) cl139 rfl rfl (r_isFree h0 h1 hm hk) ?_
              refine E_goto k189_30 ?_
              refine E_is5 k189_39 rfl ?_
              refine E_il2 k189_40 ?_
              refine E_il5 k189_41 ?_
              refine E_zeq k189_42 (fun c42 => ?_) (fun d42 => ?_)
              · skip
                refine E_iconst k189_45 ?_
                refine E_iadd k189_46 ?_
                refine E_is2 k189_47 rfl ?_
                refine E_inc3 k189_48 rfl ?_
                refine E_goto k189_49 ?_
                exact ev_cong (ih4 hlt4 _ _) (stL (by first | (exact absurd c42 (by decide)) | (exact absurd rfl d42) | (exact cnt_a1 ((ct_0 d26).trans d42)) | (exact cnt_a1 ((ct_1 c26 d33).trans d42)) | (exact cnt_a1 ((ct_2 c26 c33).trans (kR_t d10 d15 d20))) | (exact cnt_a0 ((ct_0 d26).trans c42)) | (exact cnt_a0 ((ct_1 c26 d33).trans c42)) | (exact cnt_a0 ((ct_2 c26 c33).trans (kR_1 c10))) | (exact cnt_a0 ((ct_2 c26 c33).trans (kR_2 c15))) | (exact cnt_a0 ((ct_2 c26 c33).trans (kR_3 c20)))) (nI_1 _)) rfl rfl
              · skip
                refine E_iconst k189_43 ?_
                refine E_goto k189_44 ?_
                refine E_iadd k189_46 ?_
                refine E_is2 k189_47 rfl ?_
                refine E_inc3 k189_48 rfl ?_
                refine E_goto k189_49 ?_
                exact ev_cong (ih4 hlt4 _ _) (stL (by first | (exact absurd c42 (by decide)) | (exact absurd rfl d42) | (exact cnt_a1 ((ct_0 d26).trans d42)) | (exact cnt_a1 ((ct_1 c26 d33).trans d42)) | (exact cnt_a1 ((ct_2 c26 c33).trans (kR_t d10 d15 d20))) | (exact cnt_a0 ((ct_0 d26).trans c42)) | (exact cnt_a0 ((ct_1 c26 d33).trans c42)) | (exact cnt_a0 ((ct_2 c26 c33).trans (kR_1 c10))) | (exact cnt_a0 ((ct_2 c26 c33).trans (kR_2 c15))) | (exact cnt_a0 ((ct_2 c26 c33).trans (kR_3 c20)))) (nI_1 _)) rfl rfl
          · skip
            refine E_iconst k189_21 ?_
            refine E_goto k189_22 ?_
            refine E_is4 k189_24 rfl ?_
            refine E_il1 k189_25 ?_
            refine E_ifne k189_26 (fun c26 => ?_) (fun d26 => ?_)
            · skip
              refine E_il1 k189_31 ?_
              refine E_iconst k189_32 ?_
              refine E_icne k189_33 (fun c33 => ?_) (fun d33 => ?_)
              · skip
                refine E_il4 k189_38 ?_
                refine E_is5 k189_39 rfl ?_
                refine E_il2 k189_40 ?_
                refine E_il5 k189_41 ?_
                refine E_ifeq k189_42 (fun c42 => ?_) (fun d42 => ?_)
                · skip
                  refine E_iconst k189_45 ?_
                  refine E_iadd k189_46 ?_
                  refine E_is2 k189_47 rfl ?_
                  refine E_inc3 k189_48 rfl ?_
                  refine E_goto k189_49 ?_
                  exact ev_cong (ih4 hlt4 _ _) (stL (by first | (exact absurd c42 (by decide)) | (exact absurd rfl d42) | (exact cnt_a1 ((ct_0 d26).trans d42)) | (exact cnt_a1 ((ct_1 c26 d33).trans d42)) | (exact cnt_a1 ((ct_2 c26 c33).trans (kR_t d10 d15 d20))) | (exact cnt_a0 ((ct_0 d26).trans c42)) | (exact cnt_a0 ((ct_1 c26 d33).trans c42)) | (exact cnt_a0 ((ct_2 c26 c33).trans (kR_1 c10))) | (exact cnt_a0 ((ct_2 c26 c33).trans (kR_2 c15))) | (exact cnt_a0 ((ct_2 c26 c33).trans (kR_3 c20)))) (nI_1 _)) rfl rfl
                · skip
                  refine E_iconst k189_43 ?_
                  refine E_goto k189_44 ?_
                  refine E_iadd k189_46 ?_
                  refine E_is2 k189_47 rfl ?_
                  refine E_inc3 k189_48 rfl ?_
                  refine E_goto k189_49 ?_
                  exact ev_cong (ih4 hlt4 _ _) (stL (by first | (exact absurd c42 (by decide)) | (exact absurd rfl d42) | (exact cnt_a1 ((ct_0 d26).trans d42)) | (exact cnt_a1 ((ct_1 c26 d33).trans d42)) | (exact cnt_a1 ((ct_2 c26 c33).trans (kR_t d10 d15 d20))) | (exact cnt_a0 ((ct_0 d26).trans c42)) | (exact cnt_a0 ((ct_1 c26 d33).trans c42)) | (exact cnt_a0 ((ct_2 c26 c33).trans (kR_1 c10))) | (exact cnt_a0 ((ct_2 c26 c33).trans (kR_2 c15))) | (exact cnt_a0 ((ct_2 c26 c33).trans (kR_3 c20)))) (nI_1 _)) rfl rfl
              · skip
                refine E_al0 k189_34 ?_
                refine E_il3 k189_35 ?_
                refine E_cv1 k189_36 (Or.inl rfl) (by assumption) cl140 rfl rfl (r_isTorn h0 h1 rfl hlt4) ?_
                refine E_goto k189_37 ?_
                refine E_is5 k189_39 rfl ?_
                refine E_il2 k189_40 ?_
                refine E_il5 k189_41 ?_
                refine E_zeq k189_42 (fun c42 => ?_) (fun d42 => ?_)
                · skip
                  refine E_iconst k189_45 ?_
                  refine E_iadd k189_46 ?_
                  refine E_is2 k189_47 rfl ?_
                  refine E_inc3 k189_48 rfl ?_
                  refine E_goto k189_49 ?_
                  exact ev_cong (ih4 hlt4 _ _) (stL (by first | (exact absurd c42 (by decide)) | (exact absurd rfl d42) | (exact cnt_a1 ((ct_0 d26).trans d42)) | (exact cnt_a1 ((ct_1 c26 d33).trans d42)) | (exact cnt_a1 ((ct_2 c26 c33).trans (kR_t d10 d15 d20))) | (exact cnt_a0 ((ct_0 d26).trans c42)) | (exact cnt_a0 ((ct_1 c26 d33).trans c42)) | (exact cnt_a0 ((ct_2 c26 c33).trans (kR_1 c10))) | (exact cnt_a0 ((ct_2 c26 c33).trans (kR_2 c15))) | (exact cnt_a0 ((ct_2 c26 c33).trans (kR_3 c20)))) (nI_1 _)) rfl rfl
                · skip
                  refine E_iconst k189_43 ?_
                  refine E_goto k189_44 ?_
                  refine E_iadd k189_46 ?_
                  refine E_is2 k189_47 rfl ?_
                  refine E_inc3 k189_48 rfl ?_
                  refine E_goto k189_49 ?_
                  exact ev_cong (ih4 hlt4 _ _) (stL (by first | (exact absurd c42 (by decide)) | (exact absurd rfl d42) | (exact cnt_a1 ((ct_0 d26).trans d42)) | (exact cnt_a1 ((ct_1 c26 d33).trans d42)) | (exact cnt_a1 ((ct_2 c26 c33).trans (kR_t d10 d15 d20))) | (exact cnt_a0 ((ct_0 d26).trans c42)) | (exact cnt_a0 ((ct_1 c26 d33).trans c42)) | (exact cnt_a0 ((ct_2 c26 c33).trans (kR_1 c10))) | (exact cnt_a0 ((ct_2 c26 c33).trans (kR_2 c15))) | (exact cnt_a0 ((ct_2 c26 c33).trans (kR_3 c20)))) (nI_1 _)) rfl rfl
            · skip
              refine E_al0 k189_27 ?_
              refine E_il3 k189_28 ?_
              refine E_cv1 k189_29 (Or.inl rfl) (by assumption) cl139 rfl rfl (r_isFree h0 h1 hm hk) ?_
              refine E_goto k189_30 ?_
              refine E_is5 k189_39 rfl ?_
              refine E_il2 k189_40 ?_
              refine E_il5 k189_41 ?_
              refine E_zeq k189_42 (fun c42 => ?_) (fun d42 => ?_)
              · skip
                refine E_iconst k189_45 ?_
                refine E_iadd k189_46 ?_
                refine E_is2 k189_47 rfl ?_
                refine E_inc3 k189_48 rfl ?_
                refine E_goto k189_49 ?_
                exact ev_cong (ih4 hlt4 _ _) (stL (by first | (exact absurd c42 (by decide)) | (exact absurd rfl d42) | (exact cnt_a1 ((ct_0 d26).trans d42)) | (exact cnt_a1 ((ct_1 c26 d33).trans d42)) | (exact cnt_a1 ((ct_2 c26 c33).trans (kR_t d10 d15 d20))) | (exact cnt_a0 ((ct_0 d26).trans c42)) | (exact cnt_a0 ((ct_1 c26 d33).trans c42)) | (exact cnt_a0 ((ct_2 c26 c33).trans (kR_1 c10))) | (exact cnt_a0 ((ct_2 c26 c33).trans (kR_2 c15))) | (exact cnt_a0 ((ct_2 c26 c33).trans (kR_3 c20)))) (nI_1 _)) rfl rfl
              · skip
                refine E_iconst k189_43 ?_
                refine E_goto k189_44 ?_
                refine E_iadd k189_46 ?_
                refine E_is2 k189_47 rfl ?_
                refine E_inc3 k189_48 rfl ?_
                refine E_goto k189_49 ?_
                exact ev_cong (ih4 hlt4 _ _) (stL (by first | (exact absurd c42 (by decide)) | (exact absurd rfl d42) | (exact cnt_a1 ((ct_0 d26).trans d42)) | (exact cnt_a1 ((ct_1 c26 d33).trans d42)) | (exact cnt_a1 ((ct_2 c26 c33).trans (kR_t d10 d15 d20))) | (exact cnt_a0 ((ct_0 d26).trans c42)) | (exact cnt_a0 ((ct_1 c26 d33).trans c42)) | (exact cnt_a0 ((ct_2 c26 c33).trans (kR_1 c10))) | (exact cnt_a0 ((ct_2 c26 c33).trans (kR_2 c15))) | (exact cnt_a0 ((ct_2 c26 c33).trans (kR_3 c20)))) (nI_1 _)) rfl rfl
  exact ev_cong (loop4 0 (Nat.zero_le _) _ _) rfl rfl rfl
set_option maxRecDepth 20000 in
theorem r_owed {X : az_X} {w : az_W} {sz sl : Nat} {a b : Nat} {f : Nat → Int32} {fs : List Value} {i q : Int32} (h0 : w a = .inr (9, .ref b :: fs)) (h1 : w b = .inl (0, 153, .inl f)) : az_M X 182 [.ref a, .int i, .int q] w sz sl (some (.int (owdR f i q)), w, sz, sl) := by
  refine az_Mof hd182 ?_
  show az_Ev X 182 0 [.ref a, .int i, .int q, .null] [] w sz sl _
  refine E_il1 k182_0 ?_
  refine E_iflt k182_1 (fun c1 => ?_) (fun d1 => ?_)
  · skip
    refine E_bipush k182_7 ?_
    exact E_iret k182_8 hd182 rfl (by first | (rw [owdR, if_pos c1] <;> rfl) | (rw [owdR, if_neg d1, if_pos d6] <;> rfl))
  · skip
    refine E_il2 k182_2 ?_
    refine E_iconst k182_3 ?_
    refine E_iconst k182_4 ?_
    refine E_cs3 k182_5 (Or.inl rfl) rfl rfl r_in ?_
    refine E_zne k182_6 (fun c6 => ?_) (fun d6 => ?_)
    · skip
      refine E_il1 k182_9 ?_
      refine E_al0 k182_10 ?_
      refine E_cv0 k182_11 (Or.inl rfl) (by assumption) cl151 rfl rfl (r_owes h0 h1) ?_
      refine E_iclt k182_12 (fun c12 => ?_) (fun d12 => ?_)
      · skip
        refine E_al0 k182_15 ?_
        refine E_al0 k182_16 ?_
        refine E_get k182_17 (by assumption) rfl ?_
        refine E_bipush k182_18 ?_
        refine E_alx k182_19 (show (102 : Int32) = nI 102 from rfl) rfl (by assumption) (by omega) (by decide) ?_
        refine E_il1 k182_20 ?_
        refine E_iadd k182_21 ?_
        refine E_cv1 k182_22 (Or.inl rfl) (by assumption) cl152 rfl rfl (r_pageOf h0 h1) ?_
        refine E_is3 k182_23 rfl ?_
        refine E_il2 k182_24 ?_
        refine E_iconst k182_25 ?_
        refine E_icne k182_26 (fun c26 => ?_) (fun d26 => ?_)
        · skip
          refine E_il3 k182_29 ?_
          refine E_bipush k182_30 ?_
          refine E_iceq k182_31 (fun c31 => ?_) (fun d31 => ?_)
          · skip
            refine E_al0 k182_34 ?_
            refine E_get k182_35 (by assumption) rfl ?_
            refine E_bipush k182_36 ?_
            refine E_alx k182_37 (show (102 : Int32) = nI 102 from rfl) rfl (by assumption) (by omega) (by decide) ?_
            refine E_il1 k182_38 ?_
            refine E_iadd k182_39 ?_
            refine E_al0 k182_40 ?_
            refine E_cv0 k182_41 (Or.inl rfl) (by assumption) cl150 rfl rfl (r_contents h0 h1) ?_
            refine E_icne k182_42 (fun c42 => ?_) (fun d42 => ?_)
            · skip
              refine E_iconst k182_45 ?_
              exact E_iret k182_46 hd182 rfl (by first | (rw [owdR, if_neg d1, if_neg (by rw [c6]; decide), if_neg (fun z => z c12), if_pos (Classical.not_not.mp d26)] <;> rfl) | (rw [owdR, if_neg d1, if_neg (by rw [c6]; decide), if_neg (fun z => z c12), if_neg c26, if_pos d31] <;> rfl) | (rw [owdR, if_neg d1, if_neg (by rw [c6]; decide), if_neg (fun z => z c12), if_neg c26, if_neg (fun z => z c31), if_pos (Classical.not_not.mp d42)] <;> rfl) | (rw [owdR, if_neg d1, if_neg (by rw [c6]; decide), if_neg (fun z => z c12), if_neg c26, if_neg (fun z => z c31), if_neg c42] <;> rfl))
            · skip
              refine E_iconst k182_43 ?_
              refine E_goto k182_44 ?_
              exact E_iret k182_46 hd182 rfl (by first | (rw [owdR, if_neg d1, if_neg (by rw [c6]; decide), if_neg (fun z => z c12), if_pos (Classical.not_not.mp d26)] <;> rfl) | (rw [owdR, if_neg d1, if_neg (by rw [c6]; decide), if_neg (fun z => z c12), if_neg c26, if_pos d31] <;> rfl) | (rw [owdR, if_neg d1, if_neg (by rw [c6]; decide), if_neg (fun z => z c12), if_neg c26, if_neg (fun z => z c31), if_pos (Classical.not_not.mp d42)] <;> rfl) | (rw [owdR, if_neg d1, if_neg (by rw [c6]; decide), if_neg (fun z => z c12), if_neg c26, if_neg (fun z => z c31), if_neg c42] <;> rfl))
          · skip
            refine E_iconst k182_32 ?_
            refine E_goto k182_33 ?_
            exact E_iret k182_46 hd182 rfl (by first | (rw [owdR, if_neg d1, if_neg (by rw [c6]; decide), if_neg (fun z => z c12), if_pos (Classical.not_not.mp d26)] <;> rfl) | (rw [owdR, if_neg d1, if_neg (by rw [c6]; decide), if_neg (fun z => z c12), if_neg c26, if_pos d31] <;> rfl) | (rw [owdR, if_neg d1, if_neg (by rw [c6]; decide), if_neg (fun z => z c12), if_neg c26, if_neg (fun z => z c31), if_pos (Classical.not_not.mp d42)] <;> rfl) | (rw [owdR, if_neg d1, if_neg (by rw [c6]; decide), if_neg (fun z => z c12), if_neg c26, if_neg (fun z => z c31), if_neg c42] <;> rfl))
        · skip
          refine E_il3 k182_27 ?_
          refine E_goto k182_28 ?_
          exact E_iret k182_46 hd182 rfl (by first | (rw [owdR, if_neg d1, if_neg (by rw [c6]; decide), if_neg (fun z => z c12), if_pos (Classical.not_not.mp d26)] <;> rfl) | (rw [owdR, if_neg d1, if_neg (by rw [c6]; decide), if_neg (fun z => z c12), if_neg c26, if_pos d31] <;> rfl) | (rw [owdR, if_neg d1, if_neg (by rw [c6]; decide), if_neg (fun z => z c12), if_neg c26, if_neg (fun z => z c31), if_pos (Classical.not_not.mp d42)] <;> rfl) | (rw [owdR, if_neg d1, if_neg (by rw [c6]; decide), if_neg (fun z => z c12), if_neg c26, if_neg (fun z => z c31), if_neg c42] <;> rfl))
      · skip
        refine E_bipush k182_13 ?_
        exact E_iret k182_14 hd182 rfl (by rw [owdR, if_neg d1, if_neg (by rw [c6]; decide), if_pos d12])
    · skip
      refine E_bipush k182_7 ?_
      exact E_iret k182_8 hd182 rfl (by first | (rw [owdR, if_pos c1] <;> rfl) | (rw [owdR, if_neg d1, if_pos d6] <;> rfl))
set_option maxRecDepth 20000 in
theorem r_owedCells {X : az_X} {w : az_W} {sz sl : Nat} {a b : Nat} {f : Nat → Int32} {fs : List Value} (h0 : w a = .inr (9, .ref b :: fs)) (h1 : w b = .inl (0, 153, .inl f)) : az_M X 190 [.ref a] w sz sl (some (.int (nI (cnt (ocR f) (owR f).toNatClampNeg))), w, sz, sl) := by
  refine az_Mof hd190 ?_
  show az_Ev X 190 0 [.ref a, .null, .null] [] w sz sl _
  refine E_iconst k190_0 ?_
  refine E_is1 k190_1 rfl ?_
  refine E_iconst k190_2 ?_
  refine E_is2 k190_3 rfl ?_
  have loop4 : ∀ j : Nat, j ≤ (owR f).toNatClampNeg → az_Ev X 190 4 [.ref a, .int (nI (cnt (ocR f) j)), .int (nI j)] [] w sz sl (some (.int (nI (cnt (ocR f) (owR f).toNatClampNeg))), w, sz, sl) := by
    refine az_ind (owR f).toNatClampNeg _ (fun j hj4 ih4 => ?_)
    refine E_il2 k190_4 ?_
    refine E_al0 k190_5 ?_
    refine E_cv0 k190_6 (Or.inl rfl) (by assumption) cl151 rfl rfl (r_owes h0 h1) ?_
    refine E_icge k190_7 (fun c7 => ?_) (fun d7 => ?_)
    · skip
      have hcl := cl_lt (owR f)
      have he : j = (owR f).toNatClampNeg := by have := (cl_le (by omega)).mp c7; omega
      subst he
      refine E_il1 k190_26 ?_
      exact E_iret k190_27 hd190 rfl rfl
    · skip
      have hcl := cl_lt (owR f)
      have hlt4 : j < (owR f).toNatClampNeg := by
        rcases Nat.lt_or_ge j (owR f).toNatClampNeg with z | z
        · exact z
        · exact absurd ((cl_le (by omega)).mpr z) d7
      refine E_il1 k190_8 ?_
      refine E_al0 k190_9 ?_
      refine E_al0 k190_10 ?_
      refine E_get k190_11 (by assumption) rfl ?_
      refine E_bipush k190_12 ?_
      refine E_alx k190_13 (show (102 : Int32) = nI 102 from rfl) rfl (by assumption) (by omega) (by decide) ?_
      refine E_il2 k190_14 ?_
      refine E_iadd k190_15 ?_
      refine E_cv1 k190_16 (Or.inl rfl) (by assumption) cl152 rfl rfl (r_pageOf h0 h1) ?_
      refine E_bipush k190_17 ?_
      refine E_iceq k190_18 (fun c18 => ?_) (fun d18 => ?_)
      · skip
        refine E_iconst k190_21 ?_
        refine E_iadd k190_22 ?_
        refine E_is1 k190_23 rfl ?_
        refine E_inc2 k190_24 rfl ?_
        refine E_goto k190_25 ?_
        exact ev_cong (ih4 hlt4) (stM (by first | (exact cnt_a1 (decide_eq_true d18)) | (exact cnt_a0 (decide_eq_false (fun q => q c18)))) (nI_1 _)) rfl rfl
      · skip
        refine E_iconst k190_19 ?_
        refine E_goto k190_20 ?_
        refine E_iadd k190_22 ?_
        refine E_is1 k190_23 rfl ?_
        refine E_inc2 k190_24 rfl ?_
        refine E_goto k190_25 ?_
        exact ev_cong (ih4 hlt4) (stM (by first | (exact cnt_a1 (decide_eq_true d18)) | (exact cnt_a0 (decide_eq_false (fun q => q c18)))) (nI_1 _)) rfl rfl
  exact ev_cong (loop4 0 (Nat.zero_le _)) rfl rfl rfl
set_option maxRecDepth 20000 in
theorem r_cell {X : az_X} {w : az_W} {sz sl : Nat} {a b : Nat} {f : Nat → Int32} {fs : List Value} {mk : Nat} {c q : Int32} (h0 : w a = .inr (9, .ref b :: fs)) (h1 : w b = .inl (0, 153, .inl f)) (hm : f 92 = nI mk) (hk : mk ≤ 1) : az_M X 179 [.ref a, .int c, .int q] w sz sl (some (.int (rCell f mk c q)), w, sz, sl) := by
  refine az_Mof hd179 ?_
  show az_Ev X 179 0 [.ref a, .int c, .int q] [] w sz sl _
  refine E_il1 k179_0 ?_
  refine E_iconst k179_1 ?_
  refine E_bipush k179_2 ?_
  refine E_cs3 k179_3 (Or.inl rfl) rfl rfl r_in ?_
  refine E_zne k179_4 (fun c4 => ?_) (fun d4 => ?_)
  · skip
    rw [inB_24] at c4
    have hp := pgn_c c4 (by decide)
    refine E_il2 k179_7 ?_
    refine E_sw k179_8 (by decide) (fun jj kk hjk hx8 => ?_) (fun hx8 => ?_)
    · match jj, hjk with
      | 0, hjk =>
        cases hjk
        have eq8 : q = 0 := Int32.toInt_inj.mp (by rw [hx8]; rfl)
        subst eq8
        refine E_al0 k179_9 ?_
        refine E_get k179_10 (by assumption) rfl ?_
        refine E_iconst k179_11 ?_
        refine E_il1 k179_12 ?_
        refine E_iadd k179_13 ?_
        refine E_alx k179_14 (ixa (show (0 : Int32) = nI 0 from rfl) hp.1) rfl (by assumption) (by omega) (by decide) ?_
        exact E_iret k179_15 hd179 rfl (by rw [rCell, if_neg (by rw [c4]; decide), if_pos rfl] <;> rfl)
      | 1, hjk =>
        cases hjk
        have eq8 : q = 1 := Int32.toInt_inj.mp (by rw [hx8]; rfl)
        subst eq8
        refine E_al0 k179_16 ?_
        refine E_get k179_17 (by assumption) rfl ?_
        refine E_bipush k179_18 ?_
        refine E_il1 k179_19 ?_
        refine E_iadd k179_20 ?_
        refine E_alx k179_21 (ixa (show (24 : Int32) = nI 24 from rfl) hp.1) rfl (by assumption) (by omega) (by decide) ?_
        exact E_iret k179_22 hd179 rfl (by rw [rCell, if_neg (by rw [c4]; decide), if_neg (by decide), if_pos rfl] <;> rfl)
      | 2, hjk =>
        cases hjk
        have eq8 : q = 2 := Int32.toInt_inj.mp (by rw [hx8]; rfl)
        subst eq8
        refine E_al0 k179_23 ?_
        refine E_il1 k179_24 ?_
        refine E_cv1 k179_25 (Or.inl rfl) (by assumption) cl140 rfl rfl (r_isTorn h0 h1 hp.1 hp.2) ?_
        refine E_zeq k179_26 (fun c26 => ?_) (fun d26 => ?_)
        · skip
          refine E_iconst k179_29 ?_
          exact E_iret k179_30 hd179 rfl (by (rw [rCell, if_neg (by rw [c4]; decide), if_neg (by decide), if_neg (by decide), if_pos rfl]) <;> first | (rw [c26]; rfl) | (rw [d26]; rfl))
        · skip
          refine E_iconst k179_27 ?_
          refine E_goto k179_28 ?_
          exact E_iret k179_30 hd179 rfl (by (rw [rCell, if_neg (by rw [c4]; decide), if_neg (by decide), if_neg (by decide), if_pos rfl]) <;> first | (rw [c26]; rfl) | (rw [d26]; rfl))
      | 3, hjk =>
        cases hjk
        have eq8 : q = 3 := Int32.toInt_inj.mp (by rw [hx8]; rfl)
        subst eq8
        refine E_al0 k179_31 ?_
        refine E_get k179_32 (by assumption) rfl ?_
        refine E_bipush k179_33 ?_
        refine E_il1 k179_34 ?_
        refine E_iadd k179_35 ?_
        refine E_alx k179_36 (ixa (show (48 : Int32) = nI 48 from rfl) hp.1) rfl (by assumption) (by omega) (by decide) ?_
        exact E_iret k179_37 hd179 rfl (by rw [rCell, if_neg (by rw [c4]; decide), if_neg (by decide), if_neg (by decide), if_neg (by decide), if_pos rfl] <;> rfl)
      | 4, hjk =>
        cases hjk
        have eq8 : q = 4 := Int32.toInt_inj.mp (by rw [hx8]; rfl)
        subst eq8
        refine E_al0 k179_38 ?_
        refine E_il1 k179_39 ?_
        refine E_cv1 k179_40 (Or.inl rfl) (by assumption) cl139 rfl rfl (r_isFree h0 h1 hm hk) ?_
        refine E_zeq k179_41 (fun c41 => ?_) (fun d41 => ?_)
        · skip
          refine E_iconst k179_44 ?_
          exact E_iret k179_45 hd179 rfl (by (rw [rCell, if_neg (by rw [c4]; decide), if_neg (by decide), if_neg (by decide), if_neg (by decide), if_neg (by decide), if_pos rfl]) <;> first | (rw [c41]; rfl) | (rw [d41]; rfl))
        · skip
          refine E_iconst k179_42 ?_
          refine E_goto k179_43 ?_
          exact E_iret k179_45 hd179 rfl (by (rw [rCell, if_neg (by rw [c4]; decide), if_neg (by decide), if_neg (by decide), if_neg (by decide), if_neg (by decide), if_pos rfl]) <;> first | (rw [c41]; rfl) | (rw [d41]; rfl))
      | 5, hjk =>
        cases hjk
        have eq8 : q = 5 := Int32.toInt_inj.mp (by rw [hx8]; rfl)
        subst eq8
        refine E_al0 k179_46 ?_
        refine E_il1 k179_47 ?_
        refine E_cv1 k179_48 (Or.inl rfl) (by assumption) cl135 rfl rfl (r_pageOld h0 h1 hm hk) ?_
        exact E_iret k179_49 hd179 rfl (by rw [rCell, if_neg (by rw [c4]; decide), if_neg (by decide), if_neg (by decide), if_neg (by decide), if_neg (by decide), if_neg (by decide), if_pos rfl] <;> rfl)
      | 6, hjk =>
        cases hjk
        have eq8 : q = 6 := Int32.toInt_inj.mp (by rw [hx8]; rfl)
        subst eq8
        refine E_al0 k179_50 ?_
        refine E_il1 k179_51 ?_
        refine E_cv1 k179_52 (Or.inl rfl) (by assumption) cl137 rfl rfl (r_readersOf h0 h1) ?_
        exact E_iret k179_53 hd179 rfl (by rw [rCell, if_neg (by rw [c4]; decide), if_neg (by decide), if_neg (by decide), if_neg (by decide), if_neg (by decide), if_neg (by decide), if_neg (by decide), if_pos rfl] <;> rfl)
      | 7, hjk =>
        cases hjk
        have eq8 : q = 7 := Int32.toInt_inj.mp (by rw [hx8]; rfl)
        subst eq8
        refine E_al0 k179_54 ?_
        refine E_il1 k179_55 ?_
        refine E_cv1 k179_56 (Or.inl rfl) (by assumption) cl138 rfl rfl (r_pageWritten h0 h1) ?_
        exact E_iret k179_57 hd179 rfl (by rw [rCell, if_neg (by rw [c4]; decide), if_neg (by decide), if_neg (by decide), if_neg (by decide), if_neg (by decide), if_neg (by decide), if_neg (by decide), if_neg (by decide), if_pos rfl] <;> rfl)
      | jj + 8, hjk => simp at hjk
    · skip
      refine E_bipush k179_58 ?_
      exact E_iret k179_59 hd179 rfl (by rw [rCell, if_neg (by rw [c4]; decide), if_neg (out_ne hx8 0 (by decide)), if_neg (out_ne hx8 1 (by decide)), if_neg (out_ne hx8 2 (by decide)), if_neg (out_ne hx8 3 (by decide)), if_neg (out_ne hx8 4 (by decide)), if_neg (out_ne hx8 5 (by decide)), if_neg (out_ne hx8 6 (by decide)), if_neg (out_ne hx8 7 (by decide))])
  · skip
    rw [inB_24] at d4
    refine E_iconst k179_5 ?_
    exact E_iret k179_6 hd179 rfl (by rw [rCell, if_pos d4])
set_option maxRecDepth 20000 in
theorem r_table {X : az_X} {w : az_W} {sz sl : Nat} {a b : Nat} {f : Nat → Int32} {fs : List Value} {t q : Int32} (h0 : w a = .inr (9, .ref b :: fs)) (h1 : w b = .inl (0, 153, .inl f)) : az_M X 181 [.ref a, .int t, .int q] w sz sl (some (.int (rTab f t q)), w, sz, sl) := by
  refine az_Mof hd181 ?_
  show az_Ev X 181 0 [.ref a, .int t, .int q] [] w sz sl _
  refine E_il1 k181_0 ?_
  refine E_iconst k181_1 ?_
  refine E_iconst k181_2 ?_
  refine E_cs3 k181_3 (Or.inl rfl) rfl rfl r_in ?_
  refine E_zne k181_4 (fun c4 => ?_) (fun d4 => ?_)
  · skip
    rw [inB_2] at c4
    have hp := pgn_c c4 (by decide)
    refine E_il2 k181_7 ?_
    refine E_bipush k181_8 ?_
    refine E_bipush k181_9 ?_
    refine E_cs3 k181_10 (Or.inl rfl) rfl rfl r_in ?_
    refine E_zeq k181_11 (fun c11 => ?_) (fun d11 => ?_)
    · skip
      refine E_il2 k181_27 ?_
      refine E_sw k181_28 (by decide) (fun jj kk hjk hx28 => ?_) (fun hx28 => ?_)
      · match jj, hjk with
        | 0, hjk =>
          cases hjk
          have hq0 : q = nI 0 := Int32.toInt_inj.mp (by rw [hx28]; rfl)
          have hz0 : q = 0 := hq0
          refine E_al0 k181_29 ?_
          refine E_get k181_30 (by assumption) rfl ?_
          refine E_bipush k181_31 ?_
          refine E_bipush k181_32 ?_
          refine E_il1 k181_33 ?_
          refine E_imul k181_34 ?_
          refine E_iadd k181_35 ?_
          refine E_il2 k181_36 ?_
          refine E_iadd k181_37 ?_
          refine E_alx k181_38 (ixa (ixa (show (72 : Int32) = nI 72 from rfl) (ixm (show (10 : Int32) = nI 10 from rfl) hp.1)) hq0) rfl (by assumption) (by omega) (by decide) ?_
          exact E_iret k181_39 hd181 rfl (by first | (rw [rTab, if_neg (by rw [c4]; decide), if_neg (by rw [c11]; decide), if_pos hz0] <;> rfl) | (rw [rTab, if_neg (by rw [c4]; decide), if_neg (by rw [c11]; decide), if_neg hn, if_pos hz1] <;> rfl))
        | 1, hjk =>
          cases hjk
          have hq0 : q = nI 1 := Int32.toInt_inj.mp (by rw [hx28]; rfl)
          have hz1 : q = 1 := hq0
          have hn : ¬ q = 0 := by rw [hz1]; decide
          refine E_al0 k181_29 ?_
          refine E_get k181_30 (by assumption) rfl ?_
          refine E_bipush k181_31 ?_
          refine E_bipush k181_32 ?_
          refine E_il1 k181_33 ?_
          refine E_imul k181_34 ?_
          refine E_iadd k181_35 ?_
          refine E_il2 k181_36 ?_
          refine E_iadd k181_37 ?_
          refine E_alx k181_38 (ixa (ixa (show (72 : Int32) = nI 72 from rfl) (ixm (show (10 : Int32) = nI 10 from rfl) hp.1)) hq0) rfl (by assumption) (by omega) (by decide) ?_
          exact E_iret k181_39 hd181 rfl (by first | (rw [rTab, if_neg (by rw [c4]; decide), if_neg (by rw [c11]; decide), if_pos hz0] <;> rfl) | (rw [rTab, if_neg (by rw [c4]; decide), if_neg (by rw [c11]; decide), if_neg hn, if_pos hz1] <;> rfl))
        | 2, hjk =>
          cases hjk
          have eq28 : q = 2 := Int32.toInt_inj.mp (by rw [hx28]; rfl)
          subst eq28
          refine E_al0 k181_40 ?_
          refine E_get k181_41 (by assumption) rfl ?_
          refine E_bipush k181_42 ?_
          refine E_alx k181_43 (show (92 : Int32) = nI 92 from rfl) rfl (by assumption) (by omega) (by decide) ?_
          refine E_il1 k181_44 ?_
          refine E_icne k181_45 (fun c45 => ?_) (fun d45 => ?_)
          · skip
            refine E_iconst k181_48 ?_
            exact E_iret k181_49 hd181 rfl (by first | (rw [rTab, if_neg (by rw [c4]; decide), if_neg (by rw [c11]; decide), if_neg (by decide), if_neg (by decide), if_pos rfl, if_pos c45] <;> rfl) | (rw [rTab, if_neg (by rw [c4]; decide), if_neg (by rw [c11]; decide), if_neg (by decide), if_neg (by decide), if_pos rfl, if_neg d45] <;> rfl))
          · skip
            refine E_iconst k181_46 ?_
            refine E_goto k181_47 ?_
            exact E_iret k181_49 hd181 rfl (by first | (rw [rTab, if_neg (by rw [c4]; decide), if_neg (by rw [c11]; decide), if_neg (by decide), if_neg (by decide), if_pos rfl, if_pos c45] <;> rfl) | (rw [rTab, if_neg (by rw [c4]; decide), if_neg (by rw [c11]; decide), if_neg (by decide), if_neg (by decide), if_pos rfl, if_neg d45] <;> rfl))
        | 3, hjk =>
          cases hjk
          have eq28 : q = 3 := Int32.toInt_inj.mp (by rw [hx28]; rfl)
          subst eq28
          refine E_al0 k181_50 ?_
          refine E_il1 k181_51 ?_
          refine E_cv1 k181_52 (Or.inl rfl) (by assumption) cl180 rfl rfl (r_pagesOf h0 h1 hp.1 (by omega)) ?_
          exact E_iret k181_53 hd181 rfl (by rw [rTab, if_neg (by rw [c4]; decide), if_neg (by rw [c11]; decide), if_neg (by decide), if_neg (by decide), if_neg (by decide), if_pos rfl])
        | jj + 4, hjk => simp at hjk
      · skip
        refine E_bipush k181_54 ?_
        exact E_iret k181_55 hd181 rfl (by rw [rTab, if_neg (by rw [c4]; decide), if_neg (by rw [c11]; decide), if_neg (out_ne hx28 0 (by decide)), if_neg (out_ne hx28 1 (by decide)), if_neg (out_ne hx28 2 (by decide)), if_neg (out_ne hx28 3 (by decide))])
    · skip
      have hq := inB_c d11 (by decide)
      rw [show (10 : Int32).toInt = 10 from rfl, show (17 : Int32).toInt = 17 from rfl] at hq
      refine E_al0 k181_12 ?_
      refine E_get k181_13 (by assumption) rfl ?_
      refine E_bipush k181_14 ?_
      refine E_bipush k181_15 ?_
      refine E_il1 k181_16 ?_
      refine E_imul k181_17 ?_
      refine E_iadd k181_18 ?_
      refine E_iconst k181_19 ?_
      refine E_iadd k181_20 ?_
      refine E_il2 k181_21 ?_
      refine E_iadd k181_22 ?_
      refine E_bipush k181_23 ?_
      refine E_isub k181_24 ?_
      refine E_alx k181_25 (ixs (ixa (ixa (ixa (show (72 : Int32) = nI 72 from rfl) (ixm (show (10 : Int32) = nI 10 from rfl) hp.1)) (show (2 : Int32) = nI 2 from rfl)) hq.1) (show (10 : Int32) = nI 10 from rfl) (by omega)) rfl h1 (by omega) (by decide) ?_
      exact E_iret k181_26 hd181 rfl (by rw [rTab, if_neg (by rw [c4]; decide), if_pos d11])
  · skip
    rw [inB_2] at d4
    refine E_iconst k181_5 ?_
    exact E_iret k181_6 hd181 rfl (by rw [rTab, if_pos d4])
set_option maxRecDepth 20000 in
theorem r_count {X : az_X} {w : az_W} {sz sl : Nat} {a b : Nat} {f : Nat → Int32} {fs : List Value} {mk : Nat} {y1 y3 y4 y5 : Value} {pn tl q : Int32} (h0 : w a = .inr (9, .ref b :: y1 :: .int pn :: y3 :: y4 :: y5 :: .int tl :: fs)) (h1 : w b = .inl (0, 153, .inl f)) (hm : f 92 = nI mk) (hk : mk ≤ 1) : az_M X 191 [.ref a, .int q] w sz sl (some (.int (rCount f mk pn tl q)), w, sz, sl) := by
  refine az_Mof hd191 ?_
  show az_Ev X 191 0 [.ref a, .int q] [] w sz sl _
  refine E_il1 k191_0 ?_
  refine E_sw k191_1 (by decide) (fun jj kk hjk hx1 => ?_) (fun hx1 => ?_)
  · match jj, hjk with
    | 0, hjk =>
      cases hjk
      have eq1 : q = 0 := Int32.toInt_inj.mp (by rw [hx1]; rfl)
      subst eq1
      refine E_al0 k191_2 ?_
      refine E_iconst k191_3 ?_
      refine E_cv1 k191_4 (Or.inl rfl) (by assumption) cl133 rfl rfl (r_old h0 h1 hm hk (show (0 : Int32) = nI 0 from rfl) (by omega)) ?_
      exact E_iret k191_5 hd191 rfl (by rw [rCount, if_pos rfl] <;> rfl)
    | 1, hjk =>
      cases hjk
      have eq1 : q = 1 := Int32.toInt_inj.mp (by rw [hx1]; rfl)
      subst eq1
      refine E_al0 k191_6 ?_
      refine E_get k191_7 (by assumption) rfl ?_
      refine E_bipush k191_8 ?_
      refine E_alx k191_9 (show (92 : Int32) = nI 92 from rfl) rfl (by assumption) (by omega) (by decide) ?_
      exact E_iret k191_10 hd191 rfl (by rw [rCount, if_neg (by decide), if_pos rfl] <;> rfl)
    | 2, hjk =>
      cases hjk
      have eq1 : q = 2 := Int32.toInt_inj.mp (by rw [hx1]; rfl)
      subst eq1
      refine E_al0 k191_11 ?_
      refine E_al0 k191_12 ?_
      refine E_get k191_13 (by assumption) rfl ?_
      refine E_bipush k191_14 ?_
      refine E_alx k191_15 (show (92 : Int32) = nI 92 from rfl) rfl (by assumption) (by omega) (by decide) ?_
      refine E_cv1 k191_16 (Or.inl rfl) (by assumption) cl180 rfl rfl (r_pagesOf h0 h1 hm hk) ?_
      refine E_cs1 k191_17 (Or.inl rfl) rfl rfl r_ones ?_
      exact E_iret k191_18 hd191 rfl (by rw [rCount, if_neg (by decide), if_neg (by decide), if_pos rfl] <;> rfl)
    | 3, hjk =>
      cases hjk
      have eq1 : q = 3 := Int32.toInt_inj.mp (by rw [hx1]; rfl)
      subst eq1
      refine E_al0 k191_19 ?_
      refine E_cv0 k191_20 (Or.inl rfl) (by assumption) cl143 rfl rfl (r_told h0 h1) ?_
      exact E_iret k191_21 hd191 rfl (by rw [rCount, if_neg (by decide), if_neg (by decide), if_neg (by decide), if_pos rfl] <;> rfl)
    | 4, hjk =>
      cases hjk
      have eq1 : q = 4 := Int32.toInt_inj.mp (by rw [hx1]; rfl)
      subst eq1
      refine E_al0 k191_22 ?_
      refine E_cv0 k191_23 (Or.inl rfl) (by assumption) cl151 rfl rfl (r_owes h0 h1) ?_
      exact E_iret k191_24 hd191 rfl (by rw [rCount, if_neg (by decide), if_neg (by decide), if_neg (by decide), if_neg (by decide), if_pos rfl] <;> rfl)
    | 5, hjk =>
      cases hjk
      have eq1 : q = 5 := Int32.toInt_inj.mp (by rw [hx1]; rfl)
      subst eq1
      refine E_al0 k191_25 ?_
      refine E_get k191_26 (by assumption) rfl ?_
      refine E_bipush k191_27 ?_
      refine E_alx k191_28 (show (102 : Int32) = nI 102 from rfl) rfl (by assumption) (by omega) (by decide) ?_
      exact E_iret k191_29 hd191 rfl rfl
    | 6, hjk =>
      cases hjk
      have eq1 : q = 6 := Int32.toInt_inj.mp (by rw [hx1]; rfl)
      subst eq1
      refine E_al0 k191_30 ?_
      refine E_iconst k191_31 ?_
      refine E_cv1 k191_32 (Or.inl rfl) (by assumption) cl189 rfl rfl (r_cellsThat (by assumption) (by assumption) (by assumption) (by assumption)) ?_
      exact E_iret k191_33 hd191 rfl rfl
    | 7, hjk =>
      cases hjk
      have eq1 : q = 7 := Int32.toInt_inj.mp (by rw [hx1]; rfl)
      subst eq1
      refine E_al0 k191_34 ?_
      refine E_iconst k191_35 ?_
      refine E_cv1 k191_36 (Or.inl rfl) (by assumption) cl189 rfl rfl (r_cellsThat (by assumption) (by assumption) (by assumption) (by assumption)) ?_
      exact E_iret k191_37 hd191 rfl rfl
    | 8, hjk =>
      cases hjk
      have eq1 : q = 8 := Int32.toInt_inj.mp (by rw [hx1]; rfl)
      subst eq1
      refine E_al0 k191_38 ?_
      refine E_cv0 k191_39 (Or.inl rfl) (by assumption) cl163 rfl rfl (r_readers (by assumption) (by assumption)) ?_
      exact E_iret k191_40 hd191 rfl rfl
    | 9, hjk =>
      cases hjk
      have eq1 : q = 9 := Int32.toInt_inj.mp (by rw [hx1]; rfl)
      subst eq1
      refine E_al0 k191_41 ?_
      refine E_get k191_42 (by assumption) rfl ?_
      refine E_sipush k191_43 ?_
      refine E_alx k191_44 (show (151 : Int32) = nI 151 from rfl) rfl (by assumption) (by omega) (by decide) ?_
      exact E_iret k191_45 hd191 rfl (by rw [rCount, if_neg (by decide), if_neg (by decide), if_neg (by decide), if_neg (by decide), if_neg (by decide), if_neg (by decide), if_neg (by decide), if_neg (by decide), if_neg (by decide), if_pos rfl] <;> rfl)
    | 10, hjk =>
      cases hjk
      have eq1 : q = 10 := Int32.toInt_inj.mp (by rw [hx1]; rfl)
      subst eq1
      refine E_al0 k191_46 ?_
      refine E_cv0 k191_47 (Or.inl rfl) (by assumption) cl185 rfl rfl (r_greatestWear h0 h1) ?_
      exact E_iret k191_48 hd191 rfl (by rw [rCount, if_neg (by decide), if_neg (by decide), if_neg (by decide), if_neg (by decide), if_neg (by decide), if_neg (by decide), if_neg (by decide), if_neg (by decide), if_neg (by decide), if_neg (by decide), if_pos rfl] <;> rfl)
    | 11, hjk =>
      cases hjk
      have eq1 : q = 11 := Int32.toInt_inj.mp (by rw [hx1]; rfl)
      subst eq1
      refine E_al0 k191_49 ?_
      refine E_cv0 k191_50 (Or.inl rfl) (by assumption) cl184 rfl rfl (r_allWear h0 h1) ?_
      exact E_iret k191_51 hd191 rfl (by rw [rCount, if_neg (by decide), if_neg (by decide), if_neg (by decide), if_neg (by decide), if_neg (by decide), if_neg (by decide), if_neg (by decide), if_neg (by decide), if_neg (by decide), if_neg (by decide), if_neg (by decide), if_pos rfl] <;> rfl)
    | 12, hjk =>
      cases hjk
      have eq1 : q = 12 := Int32.toInt_inj.mp (by rw [hx1]; rfl)
      subst eq1
      refine E_al0 k191_52 ?_
      refine E_iconst k191_53 ?_
      refine E_cv1 k191_54 (Or.inl rfl) (by assumption) cl189 rfl rfl (r_cellsThat h0 h1 hm hk) ?_
      exact E_iret k191_55 hd191 rfl (by rw [rCount, if_neg (by decide), if_neg (by decide), if_neg (by decide), if_neg (by decide), if_neg (by decide), if_neg (by decide), if_neg (by decide), if_neg (by decide), if_neg (by decide), if_neg (by decide), if_neg (by decide), if_neg (by decide), if_pos rfl] <;> rfl)
    | 13, hjk =>
      cases hjk
      have eq1 : q = 13 := Int32.toInt_inj.mp (by rw [hx1]; rfl)
      subst eq1
      refine E_al0 k191_56 ?_
      refine E_get k191_57 (by assumption) rfl ?_
      refine E_sipush k191_58 ?_
      refine E_alx k191_59 (show (152 : Int32) = nI 152 from rfl) rfl (by assumption) (by omega) (by decide) ?_
      exact E_iret k191_60 hd191 rfl (by rw [rCount, if_neg (by decide), if_neg (by decide), if_neg (by decide), if_neg (by decide), if_neg (by decide), if_neg (by decide), if_neg (by decide), if_neg (by decide), if_neg (by decide), if_neg (by decide), if_neg (by decide), if_neg (by decide), if_neg (by decide), if_pos rfl] <;> rfl)
    | 14, hjk =>
      cases hjk
      have eq1 : q = 14 := Int32.toInt_inj.mp (by rw [hx1]; rfl)
      subst eq1
      refine E_al0 k191_61 ?_
      refine E_get k191_62 (by assumption) rfl ?_
      exact E_iret k191_63 hd191 rfl (by rw [rCount, if_neg (by decide), if_neg (by decide), if_neg (by decide), if_neg (by decide), if_neg (by decide), if_neg (by decide), if_neg (by decide), if_neg (by decide), if_neg (by decide), if_neg (by decide), if_neg (by decide), if_neg (by decide), if_neg (by decide), if_neg (by decide), if_pos rfl] <;> rfl)
    | 15, hjk =>
      cases hjk
      have eq1 : q = 15 := Int32.toInt_inj.mp (by rw [hx1]; rfl)
      subst eq1
      refine E_al0 k191_64 ?_
      refine E_get k191_65 (by assumption) rfl ?_
      exact E_iret k191_66 hd191 rfl (by rw [rCount, if_neg (by decide), if_neg (by decide), if_neg (by decide), if_neg (by decide), if_neg (by decide), if_neg (by decide), if_neg (by decide), if_neg (by decide), if_neg (by decide), if_neg (by decide), if_neg (by decide), if_neg (by decide), if_neg (by decide), if_neg (by decide), if_neg (by decide), if_pos rfl] <;> rfl)
    | 16, hjk =>
      cases hjk
      have eq1 : q = 16 := Int32.toInt_inj.mp (by rw [hx1]; rfl)
      subst eq1
      refine E_al0 k191_67 ?_
      refine E_cv0 k191_68 (Or.inl rfl) (by assumption) cl190 rfl rfl (r_owedCells h0 h1) ?_
      exact E_iret k191_69 hd191 rfl (by rw [rCount, if_neg (by decide), if_neg (by decide), if_neg (by decide), if_neg (by decide), if_neg (by decide), if_neg (by decide), if_neg (by decide), if_neg (by decide), if_neg (by decide), if_neg (by decide), if_neg (by decide), if_neg (by decide), if_neg (by decide), if_neg (by decide), if_neg (by decide), if_neg (by decide), if_pos rfl] <;> rfl)
    | jj + 17, hjk => simp at hjk
  · skip
    refine E_bipush k191_70 ?_
    exact E_iret k191_71 hd191 rfl (by rw [rCount, if_neg (out_ne hx1 0 (by decide)), if_neg (out_ne hx1 1 (by decide)), if_neg (out_ne hx1 2 (by decide)), if_neg (out_ne hx1 3 (by decide)), if_neg (out_ne hx1 4 (by decide)), if_neg (out_ne hx1 5 (by decide)), if_neg (out_ne hx1 6 (by decide)), if_neg (out_ne hx1 7 (by decide)), if_neg (out_ne hx1 8 (by decide)), if_neg (out_ne hx1 9 (by decide)), if_neg (out_ne hx1 10 (by decide)), if_neg (out_ne hx1 11 (by decide)), if_neg (out_ne hx1 12 (by decide)), if_neg (out_ne hx1 13 (by decide)), if_neg (out_ne hx1 14 (by decide)), if_neg (out_ne hx1 15 (by decide)), if_neg (out_ne hx1 16 (by decide))])
