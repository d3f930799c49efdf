/-! methods' runs, laid by wip/whole/walk.py out of wip/whole/specs2.py -/
/-- what Integer.bitCount does -/
def bcI (x : Int32) : Int32 :=
  let s1 := fun (a b : Int32) => (a.toUInt32 >>> (b.toUInt32 &&& Int32.toUInt32 31)).toInt32
  let a := x - (s1 x 1 &&& 1431655765)
  let b := (a &&& 858993459) + (s1 a 2 &&& 858993459)
  let c := (b + s1 b 4) &&& 252645135
  let d := c + s1 c 8
  let e := d + s1 d 16
  e &&& 63
theorem az_fm4 {k : Nat} (hk : k < 1000) : nI k - nI k / 4 * 4 = nI (k % 4) := pk_rem (d := 4) (by omega) (by decide) (by decide)
theorem az_fmx {k : Nat} (hk : k < 1000) : 0 ≤ nI k ^^^ 4 := by
  have h : ∀ j, j < 1000 → 0 ≤ nI j ^^^ 4 := by decide +kernel
  exact h k hk

set_option maxRecDepth 20000 in
theorem s_sealOf {X : az_X} {w : az_W} {sz sl : Nat} {x : Int32}  : az_M X 2 [.int x] w sz sl (some (.int (sealOf x)), w, sz, sl) := by
  refine az_Mof hd2 ?_
  show az_Ev X 2 0 [.int x] [] w sz sl _
  refine E_il0 k2_0 ?_
  refine E_bipush k2_1 ?_
  refine E_imul k2_2 ?_
  refine E_bipush k2_3 ?_
  refine E_iadd k2_4 ?_
  refine E_bipush k2_5 ?_
  refine E_irem k2_6 (by decide) ?_
  exact E_iret k2_7 hd2 rfl rfl
set_option maxRecDepth 20000 in
theorem s_cTorn {X : az_X} {w : az_W} {sz sl : Nat} {a b0 b1 b2 : Nat} {f g : Nat → Int32} {p : Int32} (h0 : w a = .inr (0, [.ref b0, .ref b1, .ref b2])) (hc0 : w b0 = .inl (0, 24, .inl f)) (hc1 : w b1 = .inl (0, 24, .inl g)) : az_M X 7 [.ref a, .int p] w sz sl (some (.int (zb (pgn 24 p && decide (¬ g p.toNatClampNeg = sealOf (f p.toNatClampNeg))))), w, sz, sl) := by
  refine az_Mof hd7 ?_
  show az_Ev X 7 0 [.ref a, .int p] [] w sz sl _
  refine E_il1 k7_0 ?_
  refine E_cs1 k7_1 (Or.inr rfl) rfl rfl (s_isCell) ?_
  refine E_zeq k7_2 (fun c2 => ?_) (fun d2 => ?_)
  · skip
    refine E_iconst k7_15 ?_
    exact E_zret k7_16 hd7 rfl (by first | exact Or.inl rfl | exact Or.inr rfl | exact zb01 _ | assumption) (by first | (rw [c2]; rfl) | (rw [e2, decide_eq_false (fun q => q c12)]; rfl) | (rw [e2, decide_eq_true d12]; rfl))
  · skip
    have e2 := d2
    obtain ⟨j, hj, rfl⟩ := pgn_nI d2 (by decide)
    rw [nI_clamp (by omega)]
    refine E_al0 k7_3 ?_
    refine E_get k7_4 h0 rfl ?_
    refine E_il1 k7_5 ?_
    refine E_ald k7_6 rfl hc1 hj (by decide) ?_
    refine E_al0 k7_7 ?_
    refine E_get k7_8 h0 rfl ?_
    refine E_il1 k7_9 ?_
    refine E_ald k7_10 rfl hc0 hj (by decide) ?_
    refine E_cs1 k7_11 (Or.inl rfl) rfl rfl s_sealOf ?_
    refine E_iceq k7_12 (fun c12 => ?_) (fun d12 => ?_)
    · skip
      refine E_iconst k7_15 ?_
      exact E_zret k7_16 hd7 rfl (by first | exact Or.inl rfl | exact Or.inr rfl | exact zb01 _ | assumption) (by first | (rw [c2]; rfl) | (rw [e2, decide_eq_false (fun q => q c12)]; rfl) | (rw [e2, decide_eq_true d12]; rfl))
    · skip
      refine E_iconst k7_13 ?_
      refine E_goto k7_14 ?_
      exact E_zret k7_16 hd7 rfl (by first | exact Or.inl rfl | exact Or.inr rfl | exact zb01 _ | assumption) (by first | (rw [c2]; rfl) | (rw [e2, decide_eq_false (fun q => q c12)]; rfl) | (rw [e2, decide_eq_true d12]; rfl))
set_option maxRecDepth 20000 in
theorem s_tornCells {X : az_X} {w : az_W} {sz sl : Nat} {a b0 b1 b2 : Nat} {f g : Nat → Int32} (h0 : w a = .inr (0, [.ref b0, .ref b1, .ref b2])) (hc0 : w b0 = .inl (0, 24, .inl f)) (hc1 : w b1 = .inl (0, 24, .inl g)) : az_M X 8 [.ref a] w sz sl (some (.int (nI (cnt (fun i => decide (¬ g i = sealOf (f i))) 24))), w, sz, sl) := by
  refine az_Mof hd8 ?_
  show az_Ev X 8 0 [.ref a, .null, .null] [] w sz sl _
  refine E_iconst k8_0 ?_
  refine E_is1 k8_1 rfl ?_
  refine E_iconst k8_2 ?_
  refine E_is2 k8_3 rfl ?_
  have loop4 : ∀ j : Nat, j ≤ 24 → az_Ev X 8 4 [.ref a, .int (nI (cnt (fun i => decide (¬ g i = sealOf (f i))) j)), .int (nI j)] [] w sz sl (some (.int (nI (cnt (fun i => decide (¬ g i = sealOf (f i))) 24))), w, sz, sl) := by
    refine az_ind 24 _ (fun j hj4 ih4 => ?_)
    refine E_il2 k8_4 ?_
    refine E_bipush k8_5 ?_
    refine E_icge k8_6 (fun c6 => ?_) (fun d6 => ?_)
    · skip
      have he4 := lp_t hj4 (by decide) rfl c6
      subst he4
      refine E_il1 k8_14 ?_
      exact E_iret k8_15 hd8 rfl rfl
    · skip
      have hlt4 := lp_f (by omega) (by decide) rfl d6
      refine E_al0 k8_7 ?_
      refine E_il2 k8_8 ?_
      refine E_cv1 k8_9 (Or.inl rfl) (by assumption) cl7 rfl rfl (s_cTorn h0 hc0 hc1) ?_
      refine E_zeq k8_10 (fun c10 => ?_) (fun d10 => ?_)
      · skip
        rw [pgn_of hlt4 (by decide), Bool.true_and, nI_clamp (by omega)] at c10
        refine E_inc2 k8_12 rfl ?_
        refine E_goto k8_13 ?_
        exact ev_cong (ih4 hlt4) (by first | (rw [cnt_t (by exact d10), nI_1, nI_1]; done) | (rw [cnt_f (by exact c10), nI_1]; done)) rfl rfl
      · skip
        rw [pgn_of hlt4 (by decide), Bool.true_and, nI_clamp (by omega)] at d10
        refine E_inc1 k8_11 rfl ?_
        refine E_inc2 k8_12 rfl ?_
        refine E_goto k8_13 ?_
        exact ev_cong (ih4 hlt4) (by first | (rw [cnt_t (by exact d10), nI_1, nI_1]; done) | (rw [cnt_f (by exact c10), nI_1]; done)) rfl rfl
  exact ev_cong (loop4 0 (Nat.zero_le _)) rfl rfl rfl
set_option maxRecDepth 20000 in
theorem s_greatestWear {X : az_X} {w : az_W} {sz sl : Nat} {a b : Nat} {f : Nat → Int32} {y0 y1 : Value} (h0 : w a = .inr (0, [y0, y1, .ref b])) (h1 : w b = .inl (0, 24, .inl f)) : az_M X 9 [.ref a] w sz sl (some (.int (mxf f 24)), w, sz, sl) := by
  refine az_Mof hd9 ?_
  show az_Ev X 9 0 [.ref a, .null, .null] [] w sz sl _
  refine E_iconst k9_0 ?_
  refine E_is1 k9_1 rfl ?_
  refine E_iconst k9_2 ?_
  refine E_is2 k9_3 rfl ?_
  have loop4 : ∀ j : Nat, j ≤ 24 → az_Ev X 9 4 [.ref a, .int (mxf f j), .int (nI j)] [] w sz sl (some (.int (mxf f 24)), w, sz, sl) := by
    refine az_ind 24 _ (fun j hj4 ih4 => ?_)
    refine E_il2 k9_4 ?_
    refine E_bipush k9_5 ?_
    refine E_icge k9_6 (fun c6 => ?_) (fun d6 => ?_)
    · skip
      have he4 := lp_t hj4 (by decide) rfl c6
      subst he4
      refine E_il1 k9_22 ?_
      exact E_iret k9_23 hd9 rfl rfl
    · skip
      have hlt4 := lp_f (by omega) (by decide) rfl d6
      refine E_al0 k9_7 ?_
      refine E_get k9_8 h0 rfl ?_
      refine E_il2 k9_9 ?_
      refine E_ald k9_10 rfl h1 hlt4 (by decide) ?_
      refine E_il1 k9_11 ?_
      refine E_icle k9_12 (fun c12 => ?_) (fun d12 => ?_)
      · skip
        refine E_il1 k9_18 ?_
        refine E_is1 k9_19 rfl ?_
        refine E_inc2 k9_20 rfl ?_
        refine E_goto k9_21 ?_
        exact ev_cong (ih4 hlt4) (by first | (rw [nI_1, mxf, if_pos c12]; done) | (rw [nI_1, mxf, if_neg d12]; done)) rfl rfl
      · skip
        refine E_al0 k9_13 ?_
        refine E_get k9_14 h0 rfl ?_
        refine E_il2 k9_15 ?_
        refine E_ald k9_16 rfl h1 hlt4 (by decide) ?_
        refine E_goto k9_17 ?_
        refine E_is1 k9_19 rfl ?_
        refine E_inc2 k9_20 rfl ?_
        refine E_goto k9_21 ?_
        exact ev_cong (ih4 hlt4) (by first | (rw [nI_1, mxf, if_pos c12]; done) | (rw [nI_1, mxf, if_neg d12]; done)) rfl rfl
  exact ev_cong (loop4 0 (Nat.zero_le _)) rfl rfl rfl
set_option maxRecDepth 20000 in
theorem s_allWear {X : az_X} {w : az_W} {sz sl : Nat} {a b : Nat} {f : Nat → Int32} {y0 y1 : Value} (h0 : w a = .inr (0, [y0, y1, .ref b])) (h1 : w b = .inl (0, 24, .inl f)) : az_M X 10 [.ref a] w sz sl (some (.int (smf f 24)), w, sz, sl) := by
  refine az_Mof hd10 ?_
  show az_Ev X 10 0 [.ref a, .null, .null] [] w sz sl _
  refine E_iconst k10_0 ?_
  refine E_is1 k10_1 rfl ?_
  refine E_iconst k10_2 ?_
  refine E_is2 k10_3 rfl ?_
  have loop4 : ∀ j : Nat, j ≤ 24 → az_Ev X 10 4 [.ref a, .int (smf f j), .int (nI j)] [] w sz sl (some (.int (smf f 24)), w, sz, sl) := by
    refine az_ind 24 _ (fun j hj4 ih4 => ?_)
    refine E_il2 k10_4 ?_
    refine E_bipush k10_5 ?_
    refine E_icge k10_6 (fun c6 => ?_) (fun d6 => ?_)
    · skip
      have he4 := lp_t hj4 (by decide) rfl c6
      subst he4
      refine E_il1 k10_16 ?_
      exact E_iret k10_17 hd10 rfl rfl
    · skip
      have hlt4 := lp_f (by omega) (by decide) rfl d6
      refine E_il1 k10_7 ?_
      refine E_al0 k10_8 ?_
      refine E_get k10_9 h0 rfl ?_
      refine E_il2 k10_10 ?_
      refine E_ald k10_11 rfl h1 hlt4 (by decide) ?_
      refine E_iadd k10_12 ?_
      refine E_is1 k10_13 rfl ?_
      refine E_inc2 k10_14 rfl ?_
      refine E_goto k10_15 ?_
      exact ev_cong (ih4 hlt4) (by rw [nI_1]; rfl) rfl rfl
  exact ev_cong (loop4 0 (Nat.zero_le _)) rfl rfl rfl
set_option maxRecDepth 20000 in
theorem s_gNumber {X : az_X} {w : az_W} {sz sl : Nat} {a b : Nat} {n t : Int32} (h0 : w a = .inr (2, [.int n, .int t, .ref b])) : az_M X 22 [.ref a] w sz sl (some (.int (n)), w, sz, sl) := by
  refine az_Mof hd22 ?_
  show az_Ev X 22 0 [.ref a] [] w sz sl _
  refine E_al0 k22_0 ?_
  refine E_get k22_1 (by assumption) rfl ?_
  exact E_iret k22_2 hd22 rfl rfl
set_option maxRecDepth 20000 in
theorem s_gTorn {X : az_X} {w : az_W} {sz sl : Nat} {a b : Nat} {n t : Int32} (h0 : w a = .inr (2, [.int n, .int t, .ref b])) (ht : t = 0 ∨ t = 1) : az_M X 23 [.ref a] w sz sl (some (.int (t)), w, sz, sl) := by
  refine az_Mof hd23 ?_
  show az_Ev X 23 0 [.ref a] [] w sz sl _
  refine E_al0 k23_0 ?_
  refine E_get k23_1 (by assumption) rfl ?_
  exact E_zret k23_2 hd23 rfl (by first | exact Or.inl rfl | exact Or.inr rfl | exact zb01 _ | assumption) rfl
set_option maxRecDepth 20000 in
theorem s_pageSet {X : az_X} {w : az_W} {sz sl : Nat} {a b : Nat} {f : Nat → Int32} {y0 y1 : Value} (h0 : w a = .inr (2, [y0, y1, .ref b])) (h1 : w b = .inl (0, 8, .inl f)) : az_M X 28 [.ref a] w sz sl (some (.int (psf f 8)), w, sz, sl) := by
  refine az_Mof hd28 ?_
  show az_Ev X 28 0 [.ref a, .null, .null] [] w sz sl _
  refine E_iconst k28_0 ?_
  refine E_is1 k28_1 rfl ?_
  refine E_iconst k28_2 ?_
  refine E_is2 k28_3 rfl ?_
  have loop4 : ∀ j : Nat, j ≤ 8 → az_Ev X 28 4 [.ref a, .int (psf f j), .int (nI j)] [] w sz sl (some (.int (psf f 8)), w, sz, sl) := by
    refine az_ind 8 _ (fun j hj4 ih4 => ?_)
    refine E_il2 k28_4 ?_
    refine E_bipush k28_5 ?_
    refine E_icge k28_6 (fun c6 => ?_) (fun d6 => ?_)
    · skip
      have he4 := lp_t hj4 (by decide) rfl c6
      subst he4
      refine E_il1 k28_21 ?_
      exact E_iret k28_22 hd28 rfl rfl
    · skip
      have hlt4 := lp_f (by omega) (by decide) rfl d6
      refine E_al0 k28_7 ?_
      refine E_get k28_8 h0 rfl ?_
      refine E_il2 k28_9 ?_
      refine E_ald k28_10 rfl h1 hlt4 (by decide) ?_
      refine E_bipush k28_11 ?_
      refine E_iceq k28_12 (fun c12 => ?_) (fun d12 => ?_)
      · skip
        refine E_inc2 k28_19 rfl ?_
        refine E_goto k28_20 ?_
        exact ev_cong (ih4 hlt4) (by first | (rw [nI_1, psf, if_pos c12]; done) | (rw [nI_1, psf, if_neg d12]; done)) rfl rfl
      · skip
        refine E_il1 k28_13 ?_
        refine E_iconst k28_14 ?_
        refine E_il2 k28_15 ?_
        refine E_ishl k28_16 ?_
        refine E_ior k28_17 ?_
        refine E_is1 k28_18 rfl ?_
        refine E_inc2 k28_19 rfl ?_
        refine E_goto k28_20 ?_
        exact ev_cong (ih4 hlt4) (by first | (rw [nI_1, psf, if_pos c12]; done) | (rw [nI_1, psf, if_neg d12]; done)) rfl rfl
  exact ev_cong (loop4 0 (Nat.zero_le _)) rfl rfl rfl
set_option maxRecDepth 20000 in
theorem s_bitCount {X : az_X} {w : az_W} {sz sl : Nat} {x : Int32}  : az_M X 194 [.int x] w sz sl (some (.int (bcI x)), w, sz, sl) := by
  refine az_Mof hd194 ?_
  show az_Ev X 194 0 [.int x] [] w sz sl _
  refine E_il0 k194_0 ?_
  refine E_il0 k194_1 ?_
  refine E_iconst k194_2 ?_
  refine E_iushr k194_3 ?_
  refine E_ldc_wI k194_4 ?_
  refine E_iand k194_5 ?_
  refine E_isub k194_6 ?_
  refine E_is0 k194_7 rfl ?_
  refine E_il0 k194_8 ?_
  refine E_ldc_wI k194_9 ?_
  refine E_iand k194_10 ?_
  refine E_il0 k194_11 ?_
  refine E_iconst k194_12 ?_
  refine E_iushr k194_13 ?_
  refine E_ldc_wI k194_14 ?_
  refine E_iand k194_15 ?_
  refine E_iadd k194_16 ?_
  refine E_is0 k194_17 rfl ?_
  refine E_il0 k194_18 ?_
  refine E_il0 k194_19 ?_
  refine E_iconst k194_20 ?_
  refine E_iushr k194_21 ?_
  refine E_iadd k194_22 ?_
  refine E_ldc_wI k194_23 ?_
  refine E_iand k194_24 ?_
  refine E_is0 k194_25 rfl ?_
  refine E_il0 k194_26 ?_
  refine E_il0 k194_27 ?_
  refine E_bipush k194_28 ?_
  refine E_iushr k194_29 ?_
  refine E_iadd k194_30 ?_
  refine E_is0 k194_31 rfl ?_
  refine E_il0 k194_32 ?_
  refine E_il0 k194_33 ?_
  refine E_bipush k194_34 ?_
  refine E_iushr k194_35 ?_
  refine E_iadd k194_36 ?_
  refine E_is0 k194_37 rfl ?_
  refine E_il0 k194_38 ?_
  refine E_bipush k194_39 ?_
  refine E_iand k194_40 ?_
  exact E_iret k194_41 hd194 rfl rfl
set_option maxRecDepth 20000 in
theorem s_pages {X : az_X} {w : az_W} {sz sl : Nat} {a b : Nat} {f : Nat → Int32} {y0 y1 : Value} (h0 : w a = .inr (2, [y0, y1, .ref b])) (h1 : w b = .inl (0, 8, .inl f)) : az_M X 29 [.ref a] w sz sl (some (.int (bcI (psf f 8))), w, sz, sl) := by
  refine az_Mof hd29 ?_
  show az_Ev X 29 0 [.ref a] [] w sz sl _
  refine E_al0 k29_0 ?_
  refine E_cv0 k29_1 (Or.inl rfl) (by assumption) cl28 rfl rfl (s_pageSet (by assumption) (by assumption)) ?_
  refine E_cs1 k29_2 (Or.inl rfl) rfl rfl (s_bitCount) ?_
  exact E_iret k29_3 hd29 rfl rfl
set_option maxRecDepth 20000 in
theorem s_floorMod4 {X : az_X} {w : az_W} {sz sl : Nat} {k : Nat} (hk : k < 1000) : az_M X 195 [.int (nI k), .int 4] w sz sl (some (.int (nI (k % 4))), w, sz, sl) := by
  refine az_Mof hd195 ?_
  show az_Ev X 195 0 [.int (nI k), .int 4, .null] [] w sz sl _
  refine E_il0 k195_0 ?_
  refine E_il1 k195_1 ?_
  refine E_irem k195_2 (by decide) ?_
  rw [az_fm4 hk]
  refine E_is2 k195_3 rfl ?_
  refine E_il0 k195_4 ?_
  refine E_il1 k195_5 ?_
  refine E_ixor k195_6 ?_
  refine E_ifge k195_7 (fun c7 => ?_) (fun d7 => ?_)
  · skip
    refine E_il2 k195_14 ?_
    exact E_iret k195_15 hd195 rfl rfl
  · skip
    exact absurd (az_fmx hk) d7
