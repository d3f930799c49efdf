/-! methods' runs, laid by wip/whole/walk.py out of wip/whole/specs1.py -/
theorem and_f1 {a b : Bool} (h : a = false) : (a && b) = false := by rw [h]; rfl
theorem and_f2 {a b : Bool} (h : b = false) : (a && b) = false := by rw [h, Bool.and_false]

set_option maxRecDepth 20000 in
theorem s_isPage {X : az_X} {w : az_W} {sz sl : Nat} {p : Int32}  : az_M X 121 [.int p] w sz sl (some (.int (zb (pgn 8 p))), w, sz, sl) := by
  refine az_Mof hd121 ?_
  show az_Ev X 121 0 [.int p] [] w sz sl _
  refine E_il0 k121_0 ?_
  refine E_iflt k121_1 (fun c1 => ?_) (fun d1 => ?_)
  · skip
    refine E_iconst k121_7 ?_
    exact E_zret k121_8 hd121 rfl (by first | exact Or.inl rfl | exact Or.inr rfl | exact zb01 _ | assumption) (by first | (rw [pgn_neg c1]; rfl) | (rw [pgn_big rfl c4]; rfl) | (rw [pgn_mid d1 rfl d4]; rfl))
  · skip
    refine E_il0 k121_2 ?_
    refine E_bipush k121_3 ?_
    refine E_icge k121_4 (fun c4 => ?_) (fun d4 => ?_)
    · skip
      refine E_iconst k121_7 ?_
      exact E_zret k121_8 hd121 rfl (by first | exact Or.inl rfl | exact Or.inr rfl | exact zb01 _ | assumption) (by first | (rw [pgn_neg c1]; rfl) | (rw [pgn_big rfl c4]; rfl) | (rw [pgn_mid d1 rfl d4]; rfl))
    · skip
      refine E_iconst k121_5 ?_
      refine E_goto k121_6 ?_
      exact E_zret k121_8 hd121 rfl (by first | exact Or.inl rfl | exact Or.inr rfl | exact zb01 _ | assumption) (by first | (rw [pgn_neg c1]; rfl) | (rw [pgn_big rfl c4]; rfl) | (rw [pgn_mid d1 rfl d4]; rfl))
set_option maxRecDepth 20000 in
theorem s_isCell {X : az_X} {w : az_W} {sz sl : Nat} {p : Int32}  : az_M X 122 [.int p] w sz sl (some (.int (zb (pgn 24 p))), w, sz, sl) := by
  refine az_Mof hd122 ?_
  show az_Ev X 122 0 [.int p] [] w sz sl _
  refine E_il0 k122_0 ?_
  refine E_iflt k122_1 (fun c1 => ?_) (fun d1 => ?_)
  · skip
    refine E_iconst k122_7 ?_
    exact E_zret k122_8 hd122 rfl (by first | exact Or.inl rfl | exact Or.inr rfl | exact zb01 _ | assumption) (by first | (rw [pgn_neg c1]; rfl) | (rw [pgn_big rfl c4]; rfl) | (rw [pgn_mid d1 rfl d4]; rfl))
  · skip
    refine E_il0 k122_2 ?_
    refine E_bipush k122_3 ?_
    refine E_icge k122_4 (fun c4 => ?_) (fun d4 => ?_)
    · skip
      refine E_iconst k122_7 ?_
      exact E_zret k122_8 hd122 rfl (by first | exact Or.inl rfl | exact Or.inr rfl | exact zb01 _ | assumption) (by first | (rw [pgn_neg c1]; rfl) | (rw [pgn_big rfl c4]; rfl) | (rw [pgn_mid d1 rfl d4]; rfl))
    · skip
      refine E_iconst k122_5 ?_
      refine E_goto k122_6 ?_
      exact E_zret k122_8 hd122 rfl (by first | exact Or.inl rfl | exact Or.inr rfl | exact zb01 _ | assumption) (by first | (rw [pgn_neg c1]; rfl) | (rw [pgn_big rfl c4]; rfl) | (rw [pgn_mid d1 rfl d4]; rfl))
set_option maxRecDepth 20000 in
theorem s_asNumber {X : az_X} {w : az_W} {sz sl : Nat} {b : Bool}  : az_M X 123 [.int (zb b)] w sz sl (some (.int (zb b)), w, sz, sl) := by
  refine az_Mof hd123 ?_
  show az_Ev X 123 0 [.int (zb b)] [] w sz sl _
  refine E_il0 k123_0 ?_
  refine E_zeq k123_1 (fun c1 => ?_) (fun d1 => ?_)
  · skip
    refine E_iconst k123_4 ?_
    exact E_iret k123_5 hd123 rfl (by first | (rw [c1]; rfl) | (rw [d1]; rfl))
  · skip
    refine E_iconst k123_2 ?_
    refine E_goto k123_3 ?_
    exact E_iret k123_5 hd123 rfl (by first | (rw [c1]; rfl) | (rw [d1]; rfl))
set_option maxRecDepth 20000 in
theorem s_fillInts {X : az_X} {w : az_W} {sz sl : Nat} {r n : Nat} {f : Nat → Int32} {v : Int32} (h0 : w r = .inl (0, n, .inl f)) (hn : n < 2 ^ 31) : az_M X 124 [.ref r, .int v] w sz sl (none, va_up w r (.inl (0, n, .inl (flf f v n))), sz, sl) := by
  refine az_Mof hd124 ?_
  show az_Ev X 124 0 [.ref r, .int v, .null] [] w sz sl _
  refine E_iconst k124_0 ?_
  refine E_is2 k124_1 rfl ?_
  have loop2 : ∀ j : Nat, j ≤ n → az_Ev X 124 2 [.ref r, .int v, .int (nI j)] [] (va_up w r (.inl (0, n, .inl (flf f v j)))) sz sl (none, va_up w r (.inl (0, n, .inl (flf f v n))), sz, sl) := by
    refine az_ind n _ (fun j hj2 ih2 => ?_)
    refine E_il2 k124_2 ?_
    refine E_al0 k124_3 ?_
    refine E_alen k124_4 up_eq (by decide) ?_
    refine E_icge k124_5 (fun c5 => ?_) (fun d5 => ?_)
    · skip
      have he2 := lp_t hj2 hn rfl c5
      subst he2
      exact E_vret k124_12 hd124 rfl rfl
    · skip
      have hlt2 := lp_f (by omega) hn rfl d5
      refine E_al0 k124_6 ?_
      refine E_il2 k124_7 ?_
      refine E_il1 k124_8 ?_
      refine E_iast k124_9 up_eq hlt2 hn ?_
      refine E_inc2 k124_10 rfl ?_
      refine E_goto k124_11 ?_
      exact ev_cong (ih2 hlt2) (by rw [nI_1]) rfl (by rw [up_up, flf_s])
  exact ev_cong (loop2 0 (Nat.zero_le _)) rfl rfl (by rw [flf_0, up_self h0])
set_option maxRecDepth 20000 in
theorem s_copyInts {X : az_X} {w : az_W} {sz sl : Nat} {r q n : Nat} {f g : Nat → Int32} (h0 : w r = .inl (0, n, .inl f)) (h1 : w q = .inl (0, n, .inl g)) (hne : r ≠ q) (hn : n < 2 ^ 31) : az_M X 125 [.ref r, .ref q] w sz sl (none, va_up w q (.inl (0, n, .inl (cpf f g n))), sz, sl) := by
  refine az_Mof hd125 ?_
  show az_Ev X 125 0 [.ref r, .ref q, .null] [] w sz sl _
  refine E_iconst k125_0 ?_
  refine E_is2 k125_1 rfl ?_
  have loop2 : ∀ j : Nat, j ≤ n → az_Ev X 125 2 [.ref r, .ref q, .int (nI j)] [] (va_up w q (.inl (0, n, .inl (cpf f g j)))) sz sl (none, va_up w q (.inl (0, n, .inl (cpf f g n))), sz, sl) := by
    refine az_ind n _ (fun j hj2 ih2 => ?_)
    refine E_il2 k125_2 ?_
    refine E_al0 k125_3 ?_
    refine E_alen k125_4 (up_ne h0 hne) (by decide) ?_
    refine E_icge k125_5 (fun c5 => ?_) (fun d5 => ?_)
    · skip
      have he2 := lp_t hj2 hn rfl c5
      subst he2
      exact E_vret k125_18 hd125 rfl rfl
    · skip
      have hlt2 := lp_f (by omega) hn rfl d5
      refine E_il2 k125_6 ?_
      refine E_al1 k125_7 ?_
      refine E_alen k125_8 up_eq (by decide) ?_
      refine E_icge k125_9 (fun c9 => ?_) (fun d9 => ?_)
      · skip
        exact absurd ((nI_leI hn (by omega)).mp c9) (by omega)
      · skip
        refine E_al1 k125_10 ?_
        refine E_il2 k125_11 ?_
        refine E_al0 k125_12 ?_
        refine E_il2 k125_13 ?_
        refine E_ald k125_14 rfl (up_ne h0 hne) hlt2 hn ?_
        refine E_iast k125_15 up_eq hlt2 hn ?_
        refine E_inc2 k125_16 rfl ?_
        refine E_goto k125_17 ?_
        exact ev_cong (ih2 hlt2) (by rw [nI_1]) rfl (by rw [up_up, cpf_s])
  exact ev_cong (loop2 0 (Nat.zero_le _)) rfl rfl (by rw [cpf_0, up_self h1])
set_option maxRecDepth 20000 in
theorem s_toldOf {X : az_X} {w : az_W} {sz sl : Nat} {a b : Nat} {f : Nat → Int32} {p : Int32} (h0 : w a = .inr (1, [.ref b])) (h1 : w b = .inl (0, 8, .inl f)) : az_M X 13 [.ref a, .int p] w sz sl (some (.int (ix 8 (-1) f p)), w, sz, sl) := by
  refine az_Mof hd13 ?_
  show az_Ev X 13 0 [.ref a, .int p] [] w sz sl _
  refine E_il1 k13_0 ?_
  refine E_cs1 k13_1 (Or.inr rfl) rfl rfl (s_isPage) ?_
  refine E_zeq k13_2 (fun c2 => ?_) (fun d2 => ?_)
  · skip
    refine E_iconst k13_8 ?_
    exact E_iret k13_9 hd13 rfl (by first | rw [ix_out c2] | rw [ix_in hj (by decide)])
  · skip
    obtain ⟨j, hj, rfl⟩ := pgn_nI d2 (by decide)
    refine E_al0 k13_3 ?_
    refine E_get k13_4 (by assumption) rfl ?_
    refine E_il1 k13_5 ?_
    refine E_ald k13_6 rfl h1 hj (by decide) ?_
    refine E_goto k13_7 ?_
    exact E_iret k13_9 hd13 rfl (by first | rw [ix_out c2] | rw [ix_in hj (by decide)])
set_option maxRecDepth 20000 in
theorem s_cellOf {X : az_X} {w : az_W} {sz sl : Nat} {a b : Nat} {f : Nat → Int32} {p : Int32} {y0 : Value} {y1 : Value} (h0 : w a = .inr (2, [y0, y1, .ref b])) (h1 : w b = .inl (0, 8, .inl f)) : az_M X 25 [.ref a, .int p] w sz sl (some (.int (ix 8 (-5) f p)), w, sz, sl) := by
  refine az_Mof hd25 ?_
  show az_Ev X 25 0 [.ref a, .int p] [] w sz sl _
  refine E_il1 k25_0 ?_
  refine E_cs1 k25_1 (Or.inr rfl) rfl rfl (s_isPage) ?_
  refine E_zeq k25_2 (fun c2 => ?_) (fun d2 => ?_)
  · skip
    refine E_bipush k25_8 ?_
    exact E_iret k25_9 hd25 rfl (by first | rw [ix_out c2] | rw [ix_in hj (by decide)])
  · skip
    obtain ⟨j, hj, rfl⟩ := pgn_nI d2 (by decide)
    refine E_al0 k25_3 ?_
    refine E_get k25_4 (by assumption) rfl ?_
    refine E_il1 k25_5 ?_
    refine E_ald k25_6 rfl h1 hj (by decide) ?_
    refine E_goto k25_7 ?_
    exact E_iret k25_9 hd25 rfl (by first | rw [ix_out c2] | rw [ix_in hj (by decide)])
set_option maxRecDepth 20000 in
theorem s_cellWrittenFor {X : az_X} {w : az_W} {sz sl : Nat} {a b : Nat} {f : Nat → Int32} {p : Int32} {y0 : Value} {y1 : Value} (h0 : w a = .inr (7, [y0, y1, .ref b])) (h1 : w b = .inl (0, 8, .inl f)) : az_M X 90 [.ref a, .int p] w sz sl (some (.int (ix 8 (-5) f p)), w, sz, sl) := by
  refine az_Mof hd90 ?_
  show az_Ev X 90 0 [.ref a, .int p] [] w sz sl _
  refine E_il1 k90_0 ?_
  refine E_cs1 k90_1 (Or.inr rfl) rfl rfl (s_isPage) ?_
  refine E_zeq k90_2 (fun c2 => ?_) (fun d2 => ?_)
  · skip
    refine E_bipush k90_8 ?_
    exact E_iret k90_9 hd90 rfl (by first | rw [ix_out c2] | rw [ix_in hj (by decide)])
  · skip
    obtain ⟨j, hj, rfl⟩ := pgn_nI d2 (by decide)
    refine E_al0 k90_3 ?_
    refine E_get k90_4 (by assumption) rfl ?_
    refine E_il1 k90_5 ?_
    refine E_ald k90_6 rfl h1 hj (by decide) ?_
    refine E_goto k90_7 ?_
    exact E_iret k90_9 hd90 rfl (by first | rw [ix_out c2] | rw [ix_in hj (by decide)])
set_option maxRecDepth 20000 in
theorem s_contentOf {X : az_X} {w : az_W} {sz sl : Nat} {a b : Nat} {f : Nat → Int32} {p : Int32} {y0 : Value} {y1 : Value} (h0 : w a = .inr (0, [.ref b, y0, y1])) (h1 : w b = .inl (0, 24, .inl f)) : az_M X 4 [.ref a, .int p] w sz sl (some (.int (ix 24 (-5) f p)), w, sz, sl) := by
  refine az_Mof hd4 ?_
  show az_Ev X 4 0 [.ref a, .int p] [] w sz sl _
  refine E_il1 k4_0 ?_
  refine E_cs1 k4_1 (Or.inr rfl) rfl rfl (s_isCell) ?_
  refine E_zeq k4_2 (fun c2 => ?_) (fun d2 => ?_)
  · skip
    refine E_bipush k4_8 ?_
    exact E_iret k4_9 hd4 rfl (by first | rw [ix_out c2] | rw [ix_in hj (by decide)])
  · skip
    obtain ⟨j, hj, rfl⟩ := pgn_nI d2 (by decide)
    refine E_al0 k4_3 ?_
    refine E_get k4_4 (by assumption) rfl ?_
    refine E_il1 k4_5 ?_
    refine E_ald k4_6 rfl h1 hj (by decide) ?_
    refine E_goto k4_7 ?_
    exact E_iret k4_9 hd4 rfl (by first | rw [ix_out c2] | rw [ix_in hj (by decide)])
set_option maxRecDepth 20000 in
theorem s_sealIn {X : az_X} {w : az_W} {sz sl : Nat} {a b : Nat} {f : Nat → Int32} {p : Int32} {y0 : Value} {y1 : Value} (h0 : w a = .inr (0, [y0, .ref b, y1])) (h1 : w b = .inl (0, 24, .inl f)) : az_M X 5 [.ref a, .int p] w sz sl (some (.int (ix 24 (-5) f p)), w, sz, sl) := by
  refine az_Mof hd5 ?_
  show az_Ev X 5 0 [.ref a, .int p] [] w sz sl _
  refine E_il1 k5_0 ?_
  refine E_cs1 k5_1 (Or.inr rfl) rfl rfl (s_isCell) ?_
  refine E_zeq k5_2 (fun c2 => ?_) (fun d2 => ?_)
  · skip
    refine E_bipush k5_8 ?_
    exact E_iret k5_9 hd5 rfl (by first | rw [ix_out c2] | rw [ix_in hj (by decide)])
  · skip
    obtain ⟨j, hj, rfl⟩ := pgn_nI d2 (by decide)
    refine E_al0 k5_3 ?_
    refine E_get k5_4 (by assumption) rfl ?_
    refine E_il1 k5_5 ?_
    refine E_ald k5_6 rfl h1 hj (by decide) ?_
    refine E_goto k5_7 ?_
    exact E_iret k5_9 hd5 rfl (by first | rw [ix_out c2] | rw [ix_in hj (by decide)])
set_option maxRecDepth 20000 in
theorem s_wearOf {X : az_X} {w : az_W} {sz sl : Nat} {a b : Nat} {f : Nat → Int32} {p : Int32} {y0 : Value} {y1 : Value} (h0 : w a = .inr (0, [y0, y1, .ref b])) (h1 : w b = .inl (0, 24, .inl f)) : az_M X 6 [.ref a, .int p] w sz sl (some (.int (ix 24 (0) f p)), w, sz, sl) := by
  refine az_Mof hd6 ?_
  show az_Ev X 6 0 [.ref a, .int p] [] w sz sl _
  refine E_il1 k6_0 ?_
  refine E_cs1 k6_1 (Or.inr rfl) rfl rfl (s_isCell) ?_
  refine E_zeq k6_2 (fun c2 => ?_) (fun d2 => ?_)
  · skip
    refine E_iconst k6_8 ?_
    exact E_iret k6_9 hd6 rfl (by first | rw [ix_out c2] | rw [ix_in hj (by decide)])
  · skip
    obtain ⟨j, hj, rfl⟩ := pgn_nI d2 (by decide)
    refine E_al0 k6_3 ?_
    refine E_get k6_4 (by assumption) rfl ?_
    refine E_il1 k6_5 ?_
    refine E_ald k6_6 rfl h1 hj (by decide) ?_
    refine E_goto k6_7 ?_
    exact E_iret k6_9 hd6 rfl (by first | rw [ix_out c2] | rw [ix_in hj (by decide)])
set_option maxRecDepth 20000 in
theorem s_tell {X : az_X} {w : az_W} {sz sl : Nat} {a b : Nat} {f : Nat → Int32} {p v : Int32} (h0 : w a = .inr (1, [.ref b])) (h1 : w b = .inl (0, 8, .inl f)) : az_M X 15 [.ref a, .int p, .int v] w sz sl (none, va_up w b (.inl (0, 8, .inl (ixu 8 f p v))), sz, sl) := by
  refine az_Mof hd15 ?_
  show az_Ev X 15 0 [.ref a, .int p, .int v] [] w sz sl _
  refine E_il1 k15_0 ?_
  refine E_cs1 k15_1 (Or.inr rfl) rfl rfl (s_isPage) ?_
  refine E_zeq k15_2 (fun c2 => ?_) (fun d2 => ?_)
  · skip
    exact E_vret k15_8 hd15 rfl (by first | rw [ixu_out c2, up_self h1] | rw [ixu_in hj (by decide)])
  · skip
    obtain ⟨j, hj, rfl⟩ := pgn_nI d2 (by decide)
    refine E_al0 k15_3 ?_
    refine E_get k15_4 (by assumption) rfl ?_
    refine E_il1 k15_5 ?_
    refine E_il2 k15_6 ?_
    refine E_iast k15_7 h1 hj (by decide) ?_
    exact E_vret k15_8 hd15 rfl (by first | rw [ixu_out c2, up_self h1] | rw [ixu_in hj (by decide)])
set_option maxRecDepth 20000 in
theorem s_give {X : az_X} {w : az_W} {sz sl : Nat} {a b : Nat} {f : Nat → Int32} {p v : Int32} {y0 : Value} {y1 : Value} (h0 : w a = .inr (2, [y0, y1, .ref b])) (h1 : w b = .inl (0, 8, .inl f)) : az_M X 26 [.ref a, .int p, .int v] w sz sl (none, va_up w b (.inl (0, 8, .inl (ixu 8 f p v))), sz, sl) := by
  refine az_Mof hd26 ?_
  show az_Ev X 26 0 [.ref a, .int p, .int v] [] w sz sl _
  refine E_il1 k26_0 ?_
  refine E_cs1 k26_1 (Or.inr rfl) rfl rfl (s_isPage) ?_
  refine E_zeq k26_2 (fun c2 => ?_) (fun d2 => ?_)
  · skip
    exact E_vret k26_8 hd26 rfl (by first | rw [ixu_out c2, up_self h1] | rw [ixu_in hj (by decide)])
  · skip
    obtain ⟨j, hj, rfl⟩ := pgn_nI d2 (by decide)
    refine E_al0 k26_3 ?_
    refine E_get k26_4 (by assumption) rfl ?_
    refine E_il1 k26_5 ?_
    refine E_il2 k26_6 ?_
    refine E_iast k26_7 h1 hj (by decide) ?_
    exact E_vret k26_8 hd26 rfl (by first | rw [ixu_out c2, up_self h1] | rw [ixu_in hj (by decide)])
set_option maxRecDepth 20000 in
theorem s_noteWritten {X : az_X} {w : az_W} {sz sl : Nat} {a b : Nat} {f : Nat → Int32} {p v : Int32} {y0 : Value} {y1 : Value} (h0 : w a = .inr (7, [y0, y1, .ref b])) (h1 : w b = .inl (0, 8, .inl f)) : az_M X 89 [.ref a, .int p, .int v] w sz sl (none, va_up w b (.inl (0, 8, .inl (ixu 8 f p v))), sz, sl) := by
  refine az_Mof hd89 ?_
  show az_Ev X 89 0 [.ref a, .int p, .int v] [] w sz sl _
  refine E_il1 k89_0 ?_
  refine E_cs1 k89_1 (Or.inr rfl) rfl rfl (s_isPage) ?_
  refine E_zeq k89_2 (fun c2 => ?_) (fun d2 => ?_)
  · skip
    exact E_vret k89_8 hd89 rfl (by first | rw [ixu_out c2, up_self h1] | rw [ixu_in hj (by decide)])
  · skip
    obtain ⟨j, hj, rfl⟩ := pgn_nI d2 (by decide)
    refine E_al0 k89_3 ?_
    refine E_get k89_4 (by assumption) rfl ?_
    refine E_il1 k89_5 ?_
    refine E_il2 k89_6 ?_
    refine E_iast k89_7 h1 hj (by decide) ?_
    exact E_vret k89_8 hd89 rfl (by first | rw [ixu_out c2, up_self h1] | rw [ixu_in hj (by decide)])
set_option maxRecDepth 20000 in
theorem s_tellsOf {X : az_X} {w : az_W} {sz sl : Nat} {a b : Nat} {f : Nat → Int32} {p : Int32} (h0 : w a = .inr (1, [.ref b])) (h1 : w b = .inl (0, 8, .inl f)) : az_M X 14 [.ref a, .int p] w sz sl (some (.int (zb (decide (¬ ix 8 (-1) f p = -1)))), w, sz, sl) := by
  refine az_Mof hd14 ?_
  show az_Ev X 14 0 [.ref a, .int p] [] w sz sl _
  refine E_al0 k14_0 ?_
  refine E_il1 k14_1 ?_
  refine E_cv1 k14_2 (Or.inl rfl) (by assumption) cl13 rfl rfl (s_toldOf (by assumption) (by assumption)) ?_
  refine E_iconst k14_3 ?_
  refine E_iceq k14_4 (fun c4 => ?_) (fun d4 => ?_)
  · skip
    refine E_iconst k14_7 ?_
    exact E_zret k14_8 hd14 rfl (by first | exact Or.inl rfl | exact Or.inr rfl | exact zb01 _ | assumption) (by first | (rw [decide_eq_false (fun q => q c4)]; rfl) | (rw [decide_eq_true d4]; rfl))
  · skip
    refine E_iconst k14_5 ?_
    refine E_goto k14_6 ?_
    exact E_zret k14_8 hd14 rfl (by first | exact Or.inl rfl | exact Or.inr rfl | exact zb01 _ | assumption) (by first | (rw [decide_eq_false (fun q => q c4)]; rfl) | (rw [decide_eq_true d4]; rfl))
set_option maxRecDepth 20000 in
theorem s_deskEmpty {X : az_X} {w : az_W} {sz sl : Nat} {a b : Nat} {f : Nat → Int32} (h0 : w a = .inr (1, [.ref b])) (h1 : w b = .inl (0, 8, .inl f)) : az_M X 16 [.ref a] w sz sl (none, va_up w b (.inl (0, 8, .inl (flf f (-1) 8))), sz, sl) := by
  refine az_Mof hd16 ?_
  show az_Ev X 16 0 [.ref a] [] w sz sl _
  refine E_al0 k16_0 ?_
  refine E_get k16_1 (by assumption) rfl ?_
  refine E_iconst k16_2 ?_
  refine E_cs2 k16_3 (Or.inr rfl) rfl rfl (s_fillInts h1 (by decide)) ?_
  exact E_vret k16_4 hd16 rfl rfl
set_option maxRecDepth 20000 in
theorem s_pagesTold {X : az_X} {w : az_W} {sz sl : Nat} {a b : Nat} {f : Nat → Int32} (h0 : w a = .inr (1, [.ref b])) (h1 : w b = .inl (0, 8, .inl f)) : az_M X 17 [.ref a] w sz sl (some (.int (nI (cnt (fun i => decide (¬ f i = -1)) 8))), w, sz, sl) := by
  refine az_Mof hd17 ?_
  show az_Ev X 17 0 [.ref a, .null, .null] [] w sz sl _
  refine E_iconst k17_0 ?_
  refine E_is1 k17_1 rfl ?_
  refine E_iconst k17_2 ?_
  refine E_is2 k17_3 rfl ?_
  have loop4 : ∀ j : Nat, j ≤ 8 → az_Ev X 17 4 [.ref a, .int (nI (cnt (fun i => decide (¬ f i = -1)) j)), .int (nI j)] [] w sz sl (some (.int (nI (cnt (fun i => decide (¬ f i = -1)) 8))), w, sz, sl) := by
    refine az_ind 8 _ (fun j hj4 ih4 => ?_)
    refine E_il2 k17_4 ?_
    refine E_bipush k17_5 ?_
    refine E_icge k17_6 (fun c6 => ?_) (fun d6 => ?_)
    · skip
      have he4 := lp_t hj4 (by decide) rfl c6
      subst he4
      refine E_il1 k17_16 ?_
      exact E_iret k17_17 hd17 rfl rfl
    · skip
      have hlt4 := lp_f (by omega) (by decide) rfl d6
      refine E_al0 k17_7 ?_
      refine E_get k17_8 (by assumption) rfl ?_
      refine E_il2 k17_9 ?_
      refine E_ald k17_10 rfl h1 hlt4 (by decide) ?_
      refine E_iconst k17_11 ?_
      refine E_iceq k17_12 (fun c12 => ?_) (fun d12 => ?_)
      · skip
        refine E_inc2 k17_14 rfl ?_
        refine E_goto k17_15 ?_
        exact ev_cong (ih4 hlt4) (by first | (rw [cnt_t (by exact decide_eq_true d12), nI_1, nI_1]; done) | (rw [cnt_f (by exact decide_eq_false (fun q => q c12)), nI_1]; done)) rfl rfl
      · skip
        refine E_inc1 k17_13 rfl ?_
        refine E_inc2 k17_14 rfl ?_
        refine E_goto k17_15 ?_
        exact ev_cong (ih4 hlt4) (by first | (rw [cnt_t (by exact decide_eq_true d12), nI_1, nI_1]; done) | (rw [cnt_f (by exact decide_eq_false (fun q => q c12)), nI_1]; done)) rfl rfl
  exact ev_cong (loop4 0 (Nat.zero_le _)) rfl rfl rfl
set_option maxRecDepth 20000 in
theorem s_contents {X : az_X} {w : az_W} {sz sl : Nat} {a b : Nat} {f : Nat → Int32} (h0 : w a = .inr (1, [.ref b])) (h1 : w b = .inl (0, 8, .inl f)) : az_M X 18 [.ref a] w sz sl (some (.int (nI (cnt (fun i => decide (¬ f i < 0)) 8))), w, sz, sl) := by
  refine az_Mof hd18 ?_
  show az_Ev X 18 0 [.ref a, .null, .null] [] w sz sl _
  refine E_iconst k18_0 ?_
  refine E_is1 k18_1 rfl ?_
  refine E_iconst k18_2 ?_
  refine E_is2 k18_3 rfl ?_
  have loop4 : ∀ j : Nat, j ≤ 8 → az_Ev X 18 4 [.ref a, .int (nI (cnt (fun i => decide (¬ f i < 0)) j)), .int (nI j)] [] w sz sl (some (.int (nI (cnt (fun i => decide (¬ f i < 0)) 8))), w, sz, sl) := by
    refine az_ind 8 _ (fun j hj4 ih4 => ?_)
    refine E_il2 k18_4 ?_
    refine E_bipush k18_5 ?_
    refine E_icge k18_6 (fun c6 => ?_) (fun d6 => ?_)
    · skip
      have he4 := lp_t hj4 (by decide) rfl c6
      subst he4
      refine E_il1 k18_15 ?_
      exact E_iret k18_16 hd18 rfl rfl
    · skip
      have hlt4 := lp_f (by omega) (by decide) rfl d6
      refine E_al0 k18_7 ?_
      refine E_get k18_8 (by assumption) rfl ?_
      refine E_il2 k18_9 ?_
      refine E_ald k18_10 rfl h1 hlt4 (by decide) ?_
      refine E_iflt k18_11 (fun c11 => ?_) (fun d11 => ?_)
      · skip
        refine E_inc2 k18_13 rfl ?_
        refine E_goto k18_14 ?_
        exact ev_cong (ih4 hlt4) (by first | (rw [cnt_t (by exact decide_eq_true d11), nI_1, nI_1]; done) | (rw [cnt_f (by exact decide_eq_false (fun q => q c11)), nI_1]; done)) rfl rfl
      · skip
        refine E_inc1 k18_12 rfl ?_
        refine E_inc2 k18_13 rfl ?_
        refine E_goto k18_14 ?_
        exact ev_cong (ih4 hlt4) (by first | (rw [cnt_t (by exact decide_eq_true d11), nI_1, nI_1]; done) | (rw [cnt_f (by exact decide_eq_false (fun q => q c11)), nI_1]; done)) rfl rfl
  exact ev_cong (loop4 0 (Nat.zero_le _)) rfl rfl rfl
set_option maxRecDepth 20000 in
theorem s_pageOfContent {X : az_X} {w : az_W} {sz sl : Nat} {a b : Nat} {f : Nat → Int32} {p : Int32} (h0 : w a = .inr (1, [.ref b])) (h1 : w b = .inl (0, 8, .inl f)) : az_M X 19 [.ref a, .int p] w sz sl (some (.int (fi (fun i => decide (¬ f i < 0) && decide (nI (cnt (fun i => decide (¬ f i < 0)) i) = p)) 8)), w, sz, sl) := by
  refine az_Mof hd19 ?_
  show az_Ev X 19 0 [.ref a, .int p, .null, .null] [] w sz sl _
  refine E_iconst k19_0 ?_
  refine E_is2 k19_1 rfl ?_
  refine E_iconst k19_2 ?_
  refine E_is3 k19_3 rfl ?_
  have loop4 : ∀ j : Nat, j ≤ 8 → (∀ i, i < j → (decide (¬ f i < 0) && decide (nI (cnt (fun i => decide (¬ f i < 0)) i) = p)) = false) → az_Ev X 19 4 [.ref a, .int p, .int (nI (cnt (fun i => decide (¬ f i < 0)) j)), .int (nI j)] [] w sz sl (some (.int (fi (fun i => decide (¬ f i < 0) && decide (nI (cnt (fun i => decide (¬ f i < 0)) i) = p)) 8)), w, sz, sl) := by
    refine az_ind 8 _ (fun j hj4 ih4 => ?_)
    intro hv4
    refine E_il3 k19_4 ?_
    refine E_bipush k19_5 ?_
    refine E_icge k19_6 (fun c6 => ?_) (fun d6 => ?_)
    · skip
      have he4 := lp_t hj4 (by decide) rfl c6
      subst he4
      refine E_bipush k19_20 ?_
      exact E_iret k19_21 hd19 rfl (by rw [fi_none hv4])
    · skip
      have hlt4 := lp_f (by omega) (by decide) rfl d6
      refine E_al0 k19_7 ?_
      refine E_get k19_8 (by assumption) rfl ?_
      refine E_il3 k19_9 ?_
      refine E_ald k19_10 rfl h1 hlt4 (by decide) ?_
      refine E_iflt k19_11 (fun c11 => ?_) (fun d11 => ?_)
      · skip
        refine E_inc3 k19_18 rfl ?_
        refine E_goto k19_19 ?_
        exact ev_cong (ih4 hlt4 (lt_s hv4 (by first | exact and_f2 (decide_eq_false c14) | exact and_f1 (decide_eq_false (fun q => q c11))))) (by first | (rw [cnt_t (by exact decide_eq_true d11), nI_1, nI_1]; done) | (rw [cnt_f (by exact decide_eq_false (fun q => q c11)), nI_1]; done)) rfl rfl
      · skip
        refine E_il2 k19_12 ?_
        refine E_il1 k19_13 ?_
        refine E_icne k19_14 (fun c14 => ?_) (fun d14 => ?_)
        · skip
          refine E_inc2 k19_17 rfl ?_
          refine E_inc3 k19_18 rfl ?_
          refine E_goto k19_19 ?_
          exact ev_cong (ih4 hlt4 (lt_s hv4 (by first | exact and_f2 (decide_eq_false c14) | exact and_f1 (decide_eq_false (fun q => q c11))))) (by first | (rw [cnt_t (by exact decide_eq_true d11), nI_1, nI_1]; done) | (rw [cnt_f (by exact decide_eq_false (fun q => q c11)), nI_1]; done)) rfl rfl
        · skip
          refine E_il3 k19_15 ?_
          exact E_iret k19_16 hd19 rfl (by rw [fi_hit hv4 (by rw [decide_eq_true d11, decide_eq_true (Classical.not_not.mp d14)]; rfl) hlt4])
  exact ev_cong (loop4 0 (Nat.zero_le _) lt_0) rfl rfl rfl
set_option maxRecDepth 20000 in
theorem s_pageWith {X : az_X} {w : az_W} {sz sl : Nat} {a b : Nat} {f : Nat → Int32} {p : Int32} {y0 y1 : Value} (h0 : w a = .inr (2, [y0, y1, .ref b])) (h1 : w b = .inl (0, 8, .inl f)) : az_M X 27 [.ref a, .int p] w sz sl (some (.int (fi (fun i => decide (f i = p)) 8)), w, sz, sl) := by
  refine az_Mof hd27 ?_
  show az_Ev X 27 0 [.ref a, .int p, .null] [] w sz sl _
  refine E_iconst k27_0 ?_
  refine E_is2 k27_1 rfl ?_
  have loop2 : ∀ j : Nat, j ≤ 8 → (∀ i, i < j → decide (f i = p) = false) → az_Ev X 27 2 [.ref a, .int p, .int (nI j)] [] w sz sl (some (.int (fi (fun i => decide (f i = p)) 8)), w, sz, sl) := by
    refine az_ind 8 _ (fun j hj2 ih2 => ?_)
    intro hv2
    refine E_il2 k27_2 ?_
    refine E_bipush k27_3 ?_
    refine E_icge k27_4 (fun c4 => ?_) (fun d4 => ?_)
    · skip
      have he2 := lp_t hj2 (by decide) rfl c4
      subst he2
      refine E_bipush k27_15 ?_
      exact E_iret k27_16 hd27 rfl (by rw [fi_none hv2])
    · skip
      have hlt2 := lp_f (by omega) (by decide) rfl d4
      refine E_al0 k27_5 ?_
      refine E_get k27_6 (by assumption) rfl ?_
      refine E_il2 k27_7 ?_
      refine E_ald k27_8 rfl h1 hlt2 (by decide) ?_
      refine E_il1 k27_9 ?_
      refine E_icne k27_10 (fun c10 => ?_) (fun d10 => ?_)
      · skip
        refine E_inc2 k27_13 rfl ?_
        refine E_goto k27_14 ?_
        exact ev_cong (ih2 hlt2 (lt_s hv2 (decide_eq_false c10))) (by rw [nI_1]) rfl rfl
      · skip
        refine E_il2 k27_11 ?_
        exact E_iret k27_12 hd27 rfl (by rw [fi_hit hv2 (decide_eq_true (Classical.not_not.mp d10)) hlt2])
  exact ev_cong (loop2 0 (Nat.zero_le _) lt_0) rfl rfl rfl
set_option maxRecDepth 20000 in
theorem s_pageWrittenTo {X : az_X} {w : az_W} {sz sl : Nat} {a b : Nat} {f : Nat → Int32} {p : Int32} {y0 y1 : Value} (h0 : w a = .inr (7, [y0, y1, .ref b])) (h1 : w b = .inl (0, 8, .inl f)) : az_M X 91 [.ref a, .int p] w sz sl (some (.int (fi (fun i => decide (f i = p)) 8)), w, sz, sl) := by
  refine az_Mof hd91 ?_
  show az_Ev X 91 0 [.ref a, .int p, .null] [] w sz sl _
  refine E_iconst k91_0 ?_
  refine E_is2 k91_1 rfl ?_
  have loop2 : ∀ j : Nat, j ≤ 8 → (∀ i, i < j → decide (f i = p) = false) → az_Ev X 91 2 [.ref a, .int p, .int (nI j)] [] w sz sl (some (.int (fi (fun i => decide (f i = p)) 8)), w, sz, sl) := by
    refine az_ind 8 _ (fun j hj2 ih2 => ?_)
    intro hv2
    refine E_il2 k91_2 ?_
    refine E_bipush k91_3 ?_
    refine E_icge k91_4 (fun c4 => ?_) (fun d4 => ?_)
    · skip
      have he2 := lp_t hj2 (by decide) rfl c4
      subst he2
      refine E_bipush k91_15 ?_
      exact E_iret k91_16 hd91 rfl (by rw [fi_none hv2])
    · skip
      have hlt2 := lp_f (by omega) (by decide) rfl d4
      refine E_al0 k91_5 ?_
      refine E_get k91_6 (by assumption) rfl ?_
      refine E_il2 k91_7 ?_
      refine E_ald k91_8 rfl h1 hlt2 (by decide) ?_
      refine E_il1 k91_9 ?_
      refine E_icne k91_10 (fun c10 => ?_) (fun d10 => ?_)
      · skip
        refine E_inc2 k91_13 rfl ?_
        refine E_goto k91_14 ?_
        exact ev_cong (ih2 hlt2 (lt_s hv2 (decide_eq_false c10))) (by rw [nI_1]) rfl rfl
      · skip
        refine E_il2 k91_11 ?_
        exact E_iret k91_12 hd91 rfl (by rw [fi_hit hv2 (decide_eq_true (Classical.not_not.mp d10)) hlt2])
  exact ev_cong (loop2 0 (Nat.zero_le _) lt_0) rfl rfl rfl
