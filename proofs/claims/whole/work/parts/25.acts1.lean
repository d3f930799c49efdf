/-! methods' runs, laid by wip/whole/walk.py out of wip/whole/specs11.py -/
/-! the acts -/
theorem s_tellB {X : az_X} {w : az_W} {sz sl a : Nat} {S : az_S} {p v : Int32} : az_M X 15 [.ref (a + 9), .int p, .int v] (bw w a S) sz sl (none, bw w a (va_up S 5 (ixu 8 (S 5) p v)), sz, sl) := by
  have h := s_tell (X := X) (sz := sz) (sl := sl) (p := p) (v := v) (bw_9 (w := w) (a := a) (S := S)) bw_10
  rw [bu_10] at h
  exact h
theorem s_emptyB {X : az_X} {w : az_W} {sz sl a : Nat} {S : az_S} : az_M X 16 [.ref (a + 9)] (bw w a S) sz sl (none, bw w a (dDesk S), sz, sl) := by
  have h := s_deskEmpty (X := X) (sz := sz) (sl := sl) (bw_9 (w := w) (a := a) (S := S)) bw_10
  rw [bu_10] at h
  exact h
theorem sN_OK {S : az_S} {k : Nat} {x : Int32} (h : OKS S) (h1 : k ≠ 1) (h3 : k ≠ 3) (h4 : k ≠ 4) (h6 : k ≠ 6) (hr : ∀ r, r < 4 → k ≠ 10 + 2 * r) : OKS (sN S k x) := by
  obtain ⟨⟨a1, a2, a3, a4, a5⟩, a6⟩ := h
  refine ⟨⟨fun i hi => ?_, ?_, ?_, ?_, fun r hr2 => ?_⟩, ?_⟩
  · rw [sN_ne (by decide)]; exact a1 i hi
  · rw [sN_12, if_neg (Ne.symm h1)]; exact a2
  · rw [sN_12, if_neg (Ne.symm h3)]; exact a3
  · rw [sN_12, if_neg (Ne.symm h4)]; exact a4
  · rw [sN_12, if_neg (Ne.symm (hr r hr2))]; exact a5 r hr2
  · rw [sN_12, if_neg (Ne.symm h6)]; exact a6
theorem sU_OK {S : az_S} {c : Nat} {g : Nat → Int32} (h : OKS S) (h7 : c ≠ 7) (h12 : c ≠ 12) : OKS (va_up S c g) := by
  obtain ⟨⟨a1, a2, a3, a4, a5⟩, a6⟩ := h
  have e7 : va_up S c g 7 = S 7 := sU_ne (Ne.symm h7)
  have e12 : va_up S c g 12 = S 12 := sU_ne (Ne.symm h12)
  refine ⟨⟨fun i hi => by rw [e7]; exact a1 i hi, by rw [e12]; exact a2, by rw [e12]; exact a3, by rw [e12]; exact a4, fun r hr2 => by rw [e12]; exact a5 r hr2⟩, by rw [e12]; exact a6⟩
theorem sB_OK {S : az_S} {k : Nat} {x : Int32} (h : OKS S) (hx : x = 0 ∨ x = 1) : OKS (sN S k x) := by
  obtain ⟨⟨a1, a2, a3, a4, a5⟩, a6⟩ := h
  have key : ∀ j, (S 12 j = 0 ∨ S 12 j = 1) → (sN S k x 12 j = 0 ∨ sN S k x 12 j = 1) := fun j hj => by
    rw [sN_12]
    by_cases q : j = k
    · rw [if_pos q]; exact hx
    · rw [if_neg q]; exact hj
  exact ⟨⟨fun i hi => by rw [sN_ne (by decide)]; exact a1 i hi, key _ a2, key _ a3, key _ a4, fun r hr2 => key _ (a5 r hr2)⟩, key _ a6⟩
theorem dEnd_OK {S : az_S} (h : OKS S) : OKS (dEnd S) := sU_OK (sN_OK (sB_OK h (Or.inl rfl)) (by decide) (by decide) (by decide) (by decide) (fun r hr => by omega)) (by decide) (by decide)
theorem dDesk_OK {S : az_S} (h : OKS S) : OKS (dDesk S) := sU_OK h (by decide) (by decide)
theorem dMark_OK {S : az_S} (h : OKS S) : OKS (dMark S) := dEnd_OK (dDesk_OK (sN_OK (sB_OK h (by rcases h.2 with q | q <;> rw [q] <;> decide)) (by decide) (by decide) (by decide) (by decide) (fun r hr => by omega)))
theorem dPut_OK {S : az_S} {c x s : Int32} (h : OKS S) : OKS (dPut S c x s) := by
  unfold dPut
  split
  · exact sU_OK (sU_OK (sU_OK h (by decide) (by decide)) (by decide) (by decide)) (by decide) (by decide)
  · exact h
theorem dOwed_OK {S : az_S} (h : OKS S) : OKS (dOwed S) := sN_OK (sU_OK (dPut_OK h) (by decide) (by decide)) (by decide) (by decide) (by decide) (by decide) (fun r hr => by omega)
theorem nT_OK {S : az_S} {y : Int32} {j : Nat} (h : OKS S) (hy : y = 0 ∨ y = 1) : OKS (nT S y j) := by
  have h0 : OKS (T0 S y) := by
    unfold T0
    split
    · exact sB_OK (sN_OK h (by decide) (by decide) (by decide) (by decide) (fun r hr => by omega)) hy
    · exact sB_OK (sN_OK h (by decide) (by decide) (by decide) (by decide) (fun r hr => by omega)) hy
  unfold nT
  split
  · exact sU_OK h0 (by decide) (by decide)
  · exact sU_OK h0 (by decide) (by decide)
theorem dGo_OK {S : az_S} (h : OKS S) : OKS (dGo S) := by
  unfold dGo
  split
  · exact dOwed_OK h
  · split
    · exact sN_OK (nT_OK h (Or.inl rfl)) (by decide) (by decide) (by decide) (by decide) (fun r hr => by omega)
    · exact dMark_OK h
theorem dTear_OK {S : az_S} (h : OKS S) : OKS (dTear S) := by
  unfold dTear
  split
  · exact h
  · split
    · exact dPut_OK h
    · split
      · exact nT_OK h (Or.inr rfl)
      · exact h
/-- steps as far as possible, at most k -/
def fnS : Nat → az_S → az_S
  | 0, S => S
  | k + 1, S => if cgB S = true then fnS k (dGo S) else S
theorem fnS_stop {k : Nat} {S : az_S} (h : cgB S = false) : fnS k S = S := by
  cases k with
  | zero => rfl
  | succ k => rw [fnS, if_neg (by rw [h]; decide)]
def fFin (N : az_S) : Int32 × Option az_S := if N 12 4 = 0 then (-5, none) else if cgB N = false then (-3, none) else (sO (fnS (sO N).toNatClampNeg N), some (fnS (sO N).toNatClampNeg N))
theorem cl_le {x : Int32} {j : Nat} (hj : j < 2 ^ 31) : x ≤ nI j ↔ x.toNatClampNeg ≤ j := by
  by_cases h : x < 0
  · have e : x.toNatClampNeg = 0 := by
      have : x.toInt < 0 := by simpa using Int32.lt_iff_toInt_lt.mp h
      show x.toInt.toNat = 0
      omega
    have e2 : x ≤ nI j := Int32.le_iff_toInt_le.mpr (by
      have h1 : x.toInt < 0 := by simpa using Int32.lt_iff_toInt_lt.mp h
      rw [nI_toInt hj]
      omega)
    rw [e]
    exact ⟨fun _ => Nat.zero_le _, fun _ => e2⟩
  · obtain ⟨i, hi, rfl⟩ := nI_of h
    rw [nI_clamp hi, nI_leI hi hj]
theorem cl_lt (x : Int32) : x.toNatClampNeg < 2 ^ 31 := by
  by_cases h : x < 0
  · have : x.toInt < 0 := by simpa using Int32.lt_iff_toInt_lt.mp h
    show x.toInt.toNat < 2 ^ 31
    omega
  · obtain ⟨i, hi, rfl⟩ := nI_of h
    rw [nI_clamp hi]
    exact hi

set_option maxRecDepth 20000 in
theorem m_tellDesk {X : az_X} {w : az_W} {sz sl : Nat} {N P : az_S} {kp : Int32} {o n : Nat} {Hs : Nat → az_S} {ch pg tl : Nat → Int32} {m : Nat} {e : Int32} {p v : Int32} (hg : GW w N P kp o n Hs ch pg tl m e) : az_M X 96 [.ref 0, .int p, .int v] w sz sl (some (.int ((fTell N p v).1)), aw w o n N Hs (fTell N p v).2, sz, sl) := by
  refine az_Mof hd96 ?_
  show az_Ev X 96 0 [.ref 0, .int p, .int v] [] w sz sl _
  refine E_al0 k96_0 ?_
  refine E_get k96_1 hg.1 rfl ?_
  refine E_get k96_2 (eqw (gw_n hg) bw_0) rfl ?_
  refine E_cv0 k96_3 (Or.inl rfl) (eqw (gw_n hg) bw_11) cl84 rfl rfl (rd_w (gw_n hg) (s_goesOn (gw_ok hg).1.2.2.2.1)) ?_
  refine E_ifeq k96_4 (fun c4 => ?_) (fun d4 => ?_)
  · skip
    refine E_al0 k96_7 ?_
    refine E_get k96_8 hg.1 rfl ?_
    refine E_get k96_9 (eqw (gw_n hg) bw_0) rfl ?_
    refine E_il1 k96_10 ?_
    refine E_cv1 k96_11 (Or.inl rfl) (eqw (gw_n hg) bw_9) cl13 rfl rfl (rd_w (gw_n hg) (s_toldOf bw_9 bw_10)) ?_
    refine E_il2 k96_12 ?_
    refine E_icne k96_13 (fun c13 => ?_) (fun d13 => ?_)
    · skip
      refine E_al0 k96_16 ?_
      refine E_get k96_17 hg.1 rfl ?_
      refine E_al0 k96_18 ?_
      refine E_get k96_19 hg.1 rfl ?_
      refine E_cv1 k96_20 (Or.inl rfl) (gw_hi hg) cl33 rfl rfl (s_rec hg) ?_
      refine E_al0 k96_21 ?_
      refine E_get k96_22 (rec_main hg) rfl ?_
      refine E_get k96_23 (eqw (rec_now hg) bw_0) rfl ?_
      refine E_il1 k96_24 ?_
      refine E_il2 k96_25 ?_
      refine E_cv2 k96_26 (Or.inl rfl) (eqw (rec_now hg) bw_9) cl15 rfl rfl (wr_w (rec_now hg) s_tellB) ?_
      refine E_al0 k96_27 ?_
      refine E_get k96_28 ((bw_out (Or.inl (by decide))).trans (rec_main hg)) rfl ?_
      refine E_get k96_29 bw_0 rfl ?_
      refine E_cv0 k96_30 (Or.inl rfl) bw_9 cl17 rfl rfl (s_pagesTold bw_9 bw_10) ?_
      exact E_iret k96_31 hd96 rfl (by rw [fTell, if_neg (fun z => z c4), if_neg c13]; rfl)
    · skip
      refine E_bipush k96_14 ?_
      exact E_iret k96_15 hd96 rfl (by rw [fTell, if_neg (fun z => z c4), if_pos (Classical.not_not.mp d13)]; rfl)
  · skip
    refine E_bipush k96_5 ?_
    exact E_iret k96_6 hd96 rfl (by rw [fTell, if_pos d4]; rfl)
set_option maxRecDepth 20000 in
theorem m_write {X : az_X} {w : az_W} {sz sl : Nat} {N P : az_S} {kp : Int32} {o n : Nat} {Hs : Nat → az_S} {ch pg tl : Nat → Int32} {m : Nat} {e : Int32} {p c : Int32} (hg : GW w N P kp o n Hs ch pg tl m e) : az_M X 94 [.ref 0, .int p, .int c] w sz sl (some (.int ((fWrite N p c).1)), aw w o n N Hs (fWrite N p c).2, sz, sl) := by
  refine az_Mof hd94 ?_
  show az_Ev X 94 0 [.ref 0, .int p, .int c] [] w sz sl _
  refine E_il1 k94_0 ?_
  refine E_cs1 k94_1 (Or.inl rfl) rfl rfl (s_isPage) ?_
  refine E_zne k94_2 (fun c2 => ?_) (fun d2 => ?_)
  · skip
    refine E_il2 k94_5 ?_
    refine E_iflt k94_6 (fun c6 => ?_) (fun d6 => ?_)
    · skip
      refine E_bipush k94_10 ?_
      exact E_iret k94_11 hd94 rfl (by first | (rw [fWrite, if_neg (by rw [c2]; decide), if_pos c6]; rfl) | (rw [fWrite, if_neg (by rw [c2]; decide), if_neg d6, if_pos d9]; rfl))
    · skip
      refine E_il2 k94_7 ?_
      refine E_sipush k94_8 ?_
      refine E_icle k94_9 (fun c9 => ?_) (fun d9 => ?_)
      · skip
        refine E_al0 k94_12 ?_
        refine E_il1 k94_13 ?_
        refine E_il2 k94_14 ?_
        refine E_cv2 k94_15 (Or.inl rfl) hg.1 cl96 rfl rfl (m_tellDesk hg) ?_
        exact E_iret k94_16 hd94 rfl (by rw [fWrite, if_neg (by rw [c2]; decide), if_neg d6, if_neg (fun z => z c9)])
      · skip
        refine E_bipush k94_10 ?_
        exact E_iret k94_11 hd94 rfl (by first | (rw [fWrite, if_neg (by rw [c2]; decide), if_pos c6]; rfl) | (rw [fWrite, if_neg (by rw [c2]; decide), if_neg d6, if_pos d9]; rfl))
  · skip
    refine E_iconst k94_3 ?_
    exact E_iret k94_4 hd94 rfl (by rw [fWrite, if_pos d2]; rfl)
set_option maxRecDepth 20000 in
theorem m_drop {X : az_X} {w : az_W} {sz sl : Nat} {N P : az_S} {kp : Int32} {o n : Nat} {Hs : Nat → az_S} {ch pg tl : Nat → Int32} {m : Nat} {e : Int32} {p : Int32} (hg : GW w N P kp o n Hs ch pg tl m e) : az_M X 95 [.ref 0, .int p] w sz sl (some (.int ((fDrop N p).1)), aw w o n N Hs (fDrop N p).2, sz, sl) := by
  refine az_Mof hd95 ?_
  show az_Ev X 95 0 [.ref 0, .int p] [] w sz sl _
  refine E_il1 k95_0 ?_
  refine E_cs1 k95_1 (Or.inl rfl) rfl rfl (s_isPage) ?_
  refine E_zne k95_2 (fun c2 => ?_) (fun d2 => ?_)
  · skip
    refine E_al0 k95_5 ?_
    refine E_il1 k95_6 ?_
    refine E_bipush k95_7 ?_
    refine E_cv2 k95_8 (Or.inl rfl) hg.1 cl96 rfl rfl (m_tellDesk hg) ?_
    exact E_iret k95_9 hd95 rfl (by rw [fDrop, if_neg (by rw [c2]; decide)])
  · skip
    refine E_iconst k95_3 ?_
    exact E_iret k95_4 hd95 rfl (by rw [fDrop, if_pos d2]; rfl)
set_option maxRecDepth 20000 in
theorem m_clear {X : az_X} {w : az_W} {sz sl : Nat} {N P : az_S} {kp : Int32} {o n : Nat} {Hs : Nat → az_S} {ch pg tl : Nat → Int32} {m : Nat} {e : Int32}  (hg : GW w N P kp o n Hs ch pg tl m e) : az_M X 98 [.ref 0] w sz sl (some (.int ((fClear N).1)), aw w o n N Hs (fClear N).2, sz, sl) := by
  refine az_Mof hd98 ?_
  show az_Ev X 98 0 [.ref 0, .null] [] w sz sl _
  refine E_al0 k98_0 ?_
  refine E_get k98_1 hg.1 rfl ?_
  refine E_get k98_2 (eqw (gw_n hg) bw_0) rfl ?_
  refine E_cv0 k98_3 (Or.inl rfl) (eqw (gw_n hg) bw_11) cl84 rfl rfl (rd_w (gw_n hg) (s_goesOn (gw_ok hg).1.2.2.2.1)) ?_
  refine E_ifeq k98_4 (fun c4 => ?_) (fun d4 => ?_)
  · skip
    refine E_al0 k98_7 ?_
    refine E_get k98_8 hg.1 rfl ?_
    refine E_get k98_9 (eqw (gw_n hg) bw_0) rfl ?_
    refine E_cv0 k98_10 (Or.inl rfl) (eqw (gw_n hg) bw_9) cl17 rfl rfl (rd_w (gw_n hg) (s_pagesTold bw_9 bw_10)) ?_
    refine E_is1 k98_11 rfl ?_
    refine E_il1 k98_12 ?_
    refine E_ifne k98_13 (fun c13 => ?_) (fun d13 => ?_)
    · skip
      refine E_al0 k98_16 ?_
      refine E_get k98_17 hg.1 rfl ?_
      refine E_al0 k98_18 ?_
      refine E_get k98_19 hg.1 rfl ?_
      refine E_cv1 k98_20 (Or.inl rfl) (gw_hi hg) cl33 rfl rfl (s_rec hg) ?_
      refine E_al0 k98_21 ?_
      refine E_get k98_22 (rec_main hg) rfl ?_
      refine E_get k98_23 (eqw (rec_now hg) bw_0) rfl ?_
      refine E_cv0 k98_24 (Or.inl rfl) (eqw (rec_now hg) bw_9) cl16 rfl rfl (wr_w (rec_now hg) s_emptyB) ?_
      refine E_il1 k98_25 ?_
      exact E_iret k98_26 hd98 rfl (by rw [fClear, if_neg (fun z => z c4), if_neg (fun z => c13 ((nI_eq0 (pT_lt N)).mpr z))]; rfl)
    · skip
      refine E_bipush k98_14 ?_
      exact E_iret k98_15 hd98 rfl (by rw [fClear, if_neg (fun z => z c4), if_pos ((nI_eq0 (pT_lt N)).mp (Classical.not_not.mp d13))]; rfl)
  · skip
    refine E_bipush k98_5 ?_
    exact E_iret k98_6 hd98 rfl (by rw [fClear, if_pos d4]; rfl)
set_option maxRecDepth 20000 in
theorem m_begin {X : az_X} {w : az_W} {sz sl : Nat} {N P : az_S} {kp : Int32} {o n : Nat} {Hs : Nat → az_S} {ch pg tl : Nat → Int32} {m : Nat} {e : Int32}  (hg : GW w N P kp o n Hs ch pg tl m e) : az_M X 99 [.ref 0] w sz sl (some (.int ((fBegin N).1)), aw w o n N Hs (fBegin N).2, sz, sl) := by
  refine az_Mof hd99 ?_
  show az_Ev X 99 0 [.ref 0] [] w sz sl _
  refine E_al0 k99_0 ?_
  refine E_get k99_1 hg.1 rfl ?_
  refine E_get k99_2 (eqw (gw_n hg) bw_0) rfl ?_
  refine E_cv0 k99_3 (Or.inl rfl) (eqw (gw_n hg) bw_11) cl84 rfl rfl (rd_w (gw_n hg) (s_goesOn (gw_ok hg).1.2.2.2.1)) ?_
  refine E_ifeq k99_4 (fun c4 => ?_) (fun d4 => ?_)
  · skip
    refine E_al0 k99_7 ?_
    refine E_get k99_8 hg.1 rfl ?_
    refine E_get k99_9 (eqw (gw_n hg) bw_0) rfl ?_
    refine E_cv0 k99_10 (Or.inl rfl) (eqw (gw_n hg) bw_9) cl17 rfl rfl (rd_w (gw_n hg) (s_pagesTold bw_9 bw_10)) ?_
    refine E_ifne k99_11 (fun c11 => ?_) (fun d11 => ?_)
    · skip
      refine E_al0 k99_14 ?_
      refine E_get k99_15 hg.1 rfl ?_
      refine E_al0 k99_16 ?_
      refine E_get k99_17 hg.1 rfl ?_
      refine E_cv1 k99_18 (Or.inl rfl) (gw_hi hg) cl33 rfl rfl (s_rec hg) ?_
      refine E_al0 k99_19 ?_
      refine E_get k99_20 (rec_main hg) rfl ?_
      refine E_get k99_21 (eqw (rec_now hg) bw_0) rfl ?_
      refine E_cv0 k99_22 (Or.inl rfl) (eqw (rec_now hg) bw_11) cl86 rfl rfl (wr_w (rec_now hg) s_start) ?_
      refine E_al0 k99_23 ?_
      refine E_get k99_24 ((bw_out (Or.inl (by decide))).trans (rec_main hg)) rfl ?_
      refine E_cv0 k99_25 (Or.inl rfl) bw_0 cl71 rfl rfl (s_stepsOwed (sB_OK (k := 4) (gw_ok hg) (Or.inr rfl)).1.2.2.2.1) ?_
      exact E_iret k99_26 hd99 rfl (by rw [fBegin, if_neg (fun z => z c4), if_neg (fun z => c11 ((nI_eq0 (pT_lt N)).mpr z))]; rfl)
    · skip
      refine E_bipush k99_12 ?_
      exact E_iret k99_13 hd99 rfl (by rw [fBegin, if_neg (fun z => z c4), if_pos ((nI_eq0 (pT_lt N)).mp (Classical.not_not.mp d11))]; rfl)
  · skip
    refine E_bipush k99_5 ?_
    exact E_iret k99_6 hd99 rfl (by rw [fBegin, if_pos d4]; rfl)
set_option maxRecDepth 20000 in
theorem m_step {X : az_X} {w : az_W} {sz sl : Nat} {N P : az_S} {kp : Int32} {o n : Nat} {Hs : Nat → az_S} {ch pg tl : Nat → Int32} {m : Nat} {e : Int32}  (hg : GW w N P kp o n Hs ch pg tl m e) : az_M X 100 [.ref 0] w sz sl (some (.int ((fStep N).1)), aw w o n N Hs (fStep N).2, sz, sl) := by
  refine az_Mof hd100 ?_
  show az_Ev X 100 0 [.ref 0] [] w sz sl _
  refine E_al0 k100_0 ?_
  refine E_get k100_1 hg.1 rfl ?_
  refine E_get k100_2 (eqw (gw_n hg) bw_0) rfl ?_
  refine E_cv0 k100_3 (Or.inl rfl) (eqw (gw_n hg) bw_11) cl84 rfl rfl (rd_w (gw_n hg) (s_goesOn (gw_ok hg).1.2.2.2.1)) ?_
  refine E_ifne k100_4 (fun c4 => ?_) (fun d4 => ?_)
  · skip
    refine E_al0 k100_7 ?_
    refine E_get k100_8 hg.1 rfl ?_
    refine E_cv0 k100_9 (Or.inl rfl) (eqw (gw_n hg) bw_0) cl75 rfl rfl (rd_w (gw_n hg) (s_canGoOn (gw_ok hg).1.2.2.2.1)) ?_
    refine E_zne k100_10 (fun c10 => ?_) (fun d10 => ?_)
    · skip
      refine E_al0 k100_13 ?_
      refine E_get k100_14 hg.1 rfl ?_
      refine E_al0 k100_15 ?_
      refine E_get k100_16 hg.1 rfl ?_
      refine E_cv1 k100_17 (Or.inl rfl) (gw_hi hg) cl33 rfl rfl (s_rec hg) ?_
      refine E_al0 k100_18 ?_
      refine E_get k100_19 (rec_main hg) rfl ?_
      refine E_cv0 k100_20 (Or.inl rfl) (eqw (rec_now hg) bw_0) cl76 rfl rfl (wr_w (rec_now hg) (s_goOn (gw_ok hg).1 (gw_ok hg).2)) ?_
      refine E_al0 k100_21 ?_
      refine E_get k100_22 ((bw_out (Or.inl (by decide))).trans (rec_main hg)) rfl ?_
      refine E_cv0 k100_23 (Or.inl rfl) bw_0 cl71 rfl rfl (s_stepsOwed (dGo_OK (gw_ok hg)).1.2.2.2.1) ?_
      exact E_iret k100_24 hd100 rfl (by rw [fStep, if_neg c4, if_neg (by rw [c10]; decide)]; rfl)
    · skip
      refine E_bipush k100_11 ?_
      exact E_iret k100_12 hd100 rfl (by rw [fStep, if_neg c4, if_pos d10]; rfl)
  · skip
    refine E_bipush k100_5 ?_
    exact E_iret k100_6 hd100 rfl (by rw [fStep, if_pos (Classical.not_not.mp d4)]; rfl)
set_option maxRecDepth 20000 in
theorem m_giveUp {X : az_X} {w : az_W} {sz sl : Nat} {N P : az_S} {kp : Int32} {o n : Nat} {Hs : Nat → az_S} {ch pg tl : Nat → Int32} {m : Nat} {e : Int32}  (hg : GW w N P kp o n Hs ch pg tl m e) : az_M X 102 [.ref 0] w sz sl (some (.int ((fGive N).1)), aw w o n N Hs (fGive N).2, sz, sl) := by
  refine az_Mof hd102 ?_
  show az_Ev X 102 0 [.ref 0, .null] [] w sz sl _
  refine E_al0 k102_0 ?_
  refine E_get k102_1 hg.1 rfl ?_
  refine E_get k102_2 (eqw (gw_n hg) bw_0) rfl ?_
  refine E_cv0 k102_3 (Or.inl rfl) (eqw (gw_n hg) bw_11) cl84 rfl rfl (rd_w (gw_n hg) (s_goesOn (gw_ok hg).1.2.2.2.1)) ?_
  refine E_ifne k102_4 (fun c4 => ?_) (fun d4 => ?_)
  · skip
    refine E_al0 k102_7 ?_
    refine E_get k102_8 hg.1 rfl ?_
    refine E_al0 k102_9 ?_
    refine E_get k102_10 hg.1 rfl ?_
    refine E_cv1 k102_11 (Or.inl rfl) (gw_hi hg) cl33 rfl rfl (s_rec hg) ?_
    refine E_al0 k102_12 ?_
    refine E_get k102_13 (rec_main hg) rfl ?_
    refine E_get k102_14 (eqw (rec_now hg) bw_0) rfl ?_
    refine E_cv0 k102_15 (Or.inl rfl) (eqw (rec_now hg) bw_11) cl85 rfl rfl (rd_w (rec_now hg) s_stepsDone) ?_
    refine E_is1 k102_16 rfl ?_
    refine E_al0 k102_17 ?_
    refine E_get k102_18 (rec_main hg) rfl ?_
    refine E_get k102_19 (eqw (rec_now hg) bw_0) rfl ?_
    refine E_cv0 k102_20 (Or.inl rfl) (eqw (rec_now hg) bw_11) cl87 rfl rfl (wr_w (rec_now hg) s_end) ?_
    refine E_il1 k102_21 ?_
    exact E_iret k102_22 hd102 rfl (by rw [fGive, if_neg c4]; rfl)
  · skip
    refine E_bipush k102_5 ?_
    exact E_iret k102_6 hd102 rfl (by rw [fGive, if_pos (Classical.not_not.mp d4)]; rfl)
set_option maxRecDepth 20000 in
theorem m_crash10 {X : az_X} {w : az_W} {sz sl : Nat} {N P : az_S} {kp : Int32} {o n : Nat} {Hs : Nat → az_S} {ch pg tl : Nat → Int32} {m : Nat} {e : Int32} {z : Int32} {T : az_S} (hg : GW w N P kp o n Hs ch pg tl m e) : az_Ev X 103 10 [.ref 0, .int z] [] (bw (recW w o n N (Hs ((o + n) % 4))) 1 T) sz sl (some (.int (gN (dLose T))), bw (recW w o n N (Hs ((o + n) % 4))) 1 (dLose T), sz, sl) := by
  refine E_al0 k103_10 ?_
  refine E_get k103_11 ((bw_out (Or.inl (by decide))).trans (rec_main hg)) rfl ?_
  refine E_cv0 k103_12 (Or.inl rfl) bw_0 cl81 rfl rfl s_lose ?_
  refine E_al0 k103_13 ?_
  refine E_get k103_14 ((bw_out (Or.inl (by decide))).trans (rec_main hg)) rfl ?_
  refine E_cv0 k103_15 (Or.inl rfl) bw_0 cl64 rfl rfl s_oldGeneration ?_
  refine E_cv0 k103_16 (Or.inl rfl) (bw_tA _) cl22 rfl rfl (s_gNumber (bw_tA _)) ?_
  exact E_iret k103_17 hd103 rfl rfl
set_option maxRecDepth 20000 in
theorem m_crash {X : az_X} {w : az_W} {sz sl : Nat} {N P : az_S} {kp : Int32} {o n : Nat} {Hs : Nat → az_S} {ch pg tl : Nat → Int32} {m : Nat} {e : Int32} {b : Bool} (hg : GW w N P kp o n Hs ch pg tl m e) : az_M X 103 [.ref 0, .int (zb b)] w sz sl (some (.int ((fCrash N b).1)), aw w o n N Hs (fCrash N b).2, sz, sl) := by
  refine az_Mof hd103 ?_
  show az_Ev X 103 0 [.ref 0, .int (zb b)] [] w sz sl _
  refine E_al0 k103_0 ?_
  refine E_get k103_1 hg.1 rfl ?_
  refine E_al0 k103_2 ?_
  refine E_get k103_3 hg.1 rfl ?_
  refine E_cv1 k103_4 (Or.inl rfl) (gw_hi hg) cl33 rfl rfl (s_rec hg) ?_
  refine E_il1 k103_5 ?_
  refine E_zeq k103_6 (fun c6 => ?_) (fun d6 => ?_)
  · skip
    subst c6
    exact ev_cong (m_crash10 hg (T := N)) rfl rfl (rec_now hg).symm
  · skip
    subst d6
    refine E_al0 k103_7 ?_
    refine E_get k103_8 (rec_main hg) rfl ?_
    refine E_cv0 k103_9 (Or.inl rfl) (eqw (rec_now hg) bw_0) cl80 rfl rfl (wr_w (rec_now hg) (s_tear (gw_ok hg).1 (gw_ok hg).2)) ?_
    exact m_crash10 hg (T := dTear N)
set_option maxRecDepth 20000 in
theorem m_close {X : az_X} {w : az_W} {sz sl : Nat} {N P : az_S} {kp : Int32} {o n : Nat} {Hs : Nat → az_S} {ch pg tl : Nat → Int32} {m : Nat} {e : Int32} {r : Int32} (hg : GW w N P kp o n Hs ch pg tl m e) : az_M X 105 [.ref 0, .int r] w sz sl (some (.int ((fClose N r).1)), aw w o n N Hs (fClose N r).2, sz, sl) := by
  refine az_Mof hd105 ?_
  show az_Ev X 105 0 [.ref 0, .int r] [] w sz sl _
  refine E_al0 k105_0 ?_
  refine E_get k105_1 hg.1 rfl ?_
  refine E_get k105_2 (eqw (gw_n hg) bw_0) rfl ?_
  refine E_il1 k105_3 ?_
  refine E_cv1 k105_4 (Or.inl rfl) (eqw (gw_n hg) bw_13) cl49 rfl rfl (rd_w (gw_n hg) s_has) ?_
  refine E_zne k105_5 (fun c5 => ?_) (fun d5 => ?_)
  · skip
    have c5b := c5
    obtain ⟨j, hj, rfl⟩ := hsB_nI c5
    refine E_al0 k105_8 ?_
    refine E_get k105_9 hg.1 rfl ?_
    refine E_al0 k105_10 ?_
    refine E_get k105_11 hg.1 rfl ?_
    refine E_cv1 k105_12 (Or.inl rfl) (gw_hi hg) cl33 rfl rfl (s_rec hg) ?_
    refine E_al0 k105_13 ?_
    refine E_get k105_14 (rec_main hg) rfl ?_
    refine E_get k105_15 (eqw (rec_now hg) bw_0) rfl ?_
    refine E_il1 k105_16 ?_
    refine E_cv1 k105_17 (Or.inl rfl) (eqw (rec_now hg) bw_13) cl54 rfl rfl (wr_w (rec_now hg) (s_dismiss hj)) ?_
    refine E_al0 k105_18 ?_
    refine E_get k105_19 ((bw_out (Or.inl (by decide))).trans (rec_main hg)) rfl ?_
    refine E_get k105_20 bw_0 rfl ?_
    refine E_cv0 k105_21 (Or.inl rfl) bw_13 cl51 rfl rfl s_howMany ?_
    exact E_iret k105_22 hd105 rfl (by rw [fClose, if_neg (by rw [c5b]; decide), nI_clamp (by omega)]; rfl)
  · skip
    refine E_iconst k105_6 ?_
    exact E_iret k105_7 hd105 rfl (by rw [fClose, if_pos d5]; rfl)
set_option maxRecDepth 20000 in
theorem m_restore {X : az_X} {w : az_W} {sz sl : Nat} {N P : az_S} {kp : Int32} {o n : Nat} {Hs : Nat → az_S} {ch pg tl : Nat → Int32} {m : Nat} {e : Int32}  (hg : GW w N P kp o n Hs ch pg tl m e) : az_M X 110 [.ref 0] w sz sl (some (.int ((fRest N P kp).1)), aw w o n N Hs (fRest N P kp).2, sz, sl) := by
  refine az_Mof hd110 ?_
  show az_Ev X 110 0 [.ref 0] [] w sz sl _
  refine E_al0 k110_0 ?_
  refine E_get k110_1 hg.1 rfl ?_
  refine E_ifne k110_2 (fun c2 => ?_) (fun d2 => ?_)
  · skip
    refine E_al0 k110_5 ?_
    refine E_get k110_6 hg.1 rfl ?_
    refine E_al0 k110_7 ?_
    refine E_get k110_8 hg.1 rfl ?_
    refine E_cv1 k110_9 (Or.inl rfl) (gw_hi hg) cl33 rfl rfl (s_rec hg) ?_
    refine E_al0 k110_10 ?_
    refine E_get k110_11 (rec_main hg) rfl ?_
    refine E_al0 k110_12 ?_
    refine E_get k110_13 (rec_main hg) rfl ?_
    refine E_cv1 k110_14 (Or.inl rfl) (eqw (rec_now hg) bw_0) cl82 rfl rfl (wr_w (rec_now hg) (s_stateCopy (fun k hk => (rec_out hg (Or.inl (by omega))).trans (hg.2.2.1 k hk)) (by omega) hg.2.2.2.2.2.2.2.2.2.2.2.2.1.1)) ?_
    refine E_al0 k110_15 ?_
    refine E_get k110_16 ((bw_out (Or.inl (by decide))).trans (rec_main hg)) rfl ?_
    refine E_cv0 k110_17 (Or.inl rfl) bw_0 cl64 rfl rfl s_oldGeneration ?_
    refine E_cv0 k110_18 (Or.inl rfl) (bw_tA _) cl22 rfl rfl (s_gNumber (bw_tA _)) ?_
    exact E_iret k110_19 hd110 rfl (by rw [fRest, if_neg c2]; rfl)
  · skip
    refine E_bipush k110_3 ?_
    exact E_iret k110_4 hd110 rfl (by rw [fRest, if_pos (Classical.not_not.mp d2)]; rfl)
set_option maxRecDepth 20000 in
theorem m_finish {X : az_X} {w : az_W} {sz sl : Nat} {N P : az_S} {kp : Int32} {o n : Nat} {Hs : Nat → az_S} {ch pg tl : Nat → Int32} {m : Nat} {e : Int32} (hg : GW w N P kp o n Hs ch pg tl m e) : az_M X 101 [.ref 0] w sz sl (some (.int ((fFin N).1)), aw w o n N Hs (fFin N).2, sz, sl) := by
  refine az_Mof hd101 ?_
  show az_Ev X 101 0 [.ref 0, .null, .null] [] w sz sl _
  refine E_al0 k101_0 ?_
  refine E_get k101_1 hg.1 rfl ?_
  refine E_get k101_2 (eqw (gw_n hg) bw_0) rfl ?_
  refine E_cv0 k101_3 (Or.inl rfl) (eqw (gw_n hg) bw_11) cl84 rfl rfl (rd_w (gw_n hg) (s_goesOn (gw_ok hg).1.2.2.2.1)) ?_
  refine E_ifne k101_4 (fun c4 => ?_) (fun d4 => ?_)
  · skip
    refine E_al0 k101_7 ?_
    refine E_get k101_8 hg.1 rfl ?_
    refine E_cv0 k101_9 (Or.inl rfl) (eqw (gw_n hg) bw_0) cl75 rfl rfl (rd_w (gw_n hg) (s_canGoOn (gw_ok hg).1.2.2.2.1)) ?_
    refine E_zne k101_10 (fun c10 => ?_) (fun d10 => ?_)
    · skip
      refine E_al0 k101_13 ?_
      refine E_get k101_14 hg.1 rfl ?_
      refine E_al0 k101_15 ?_
      refine E_get k101_16 hg.1 rfl ?_
      refine E_cv1 k101_17 (Or.inl rfl) (gw_hi hg) cl33 rfl rfl (s_rec hg) ?_
      refine E_al0 k101_18 ?_
      refine E_get k101_19 (rec_main hg) rfl ?_
      refine E_cv0 k101_20 (Or.inl rfl) (eqw (rec_now hg) bw_0) cl71 rfl rfl (rd_w (rec_now hg) (s_stepsOwed (gw_ok hg).1.2.2.2.1)) ?_
      refine E_is1 k101_21 rfl ?_
      refine E_iconst k101_22 ?_
      refine E_is2 k101_23 rfl ?_
      have loop24 : ∀ j : Nat, j ≤ (sO N).toNatClampNeg → ∀ S : az_S, OKS S → fnS ((sO N).toNatClampNeg - j) S = fnS (sO N).toNatClampNeg N → az_Ev X 101 24 [.ref 0, .int (sO N), .int (nI j)] [] (bw (recW w o n N (Hs ((o + n) % 4))) 1 S) sz sl (some (.int ((fFin N).1)), aw w o n N Hs (fFin N).2, sz, sl) := by
        refine az_ind (sO N).toNatClampNeg _ (fun j hj24 ih24 => ?_)
        intro S hS hf
        refine E_il2 k101_24 ?_
        refine E_il1 k101_25 ?_
        refine E_icge k101_26 (fun c26 => ?_) (fun d26 => ?_)
        · skip
          have hcl := cl_lt (sO N)
          have he : S = fnS (sO N).toNatClampNeg N := by
            rw [← hf, show (sO N).toNatClampNeg - j = 0 by have := (cl_le (by omega)).mp c26; omega]
            rfl
          refine E_al0 k101_36 ?_
          refine E_get k101_37 ((bw_out (Or.inl (by decide))).trans (rec_main hg)) rfl ?_
          refine E_cv0 k101_38 (Or.inl rfl) bw_0 cl71 rfl rfl (s_stepsOwed hS.1.2.2.2.1) ?_
          exact E_iret k101_39 hd101 rfl (by rw [fFin, if_neg c4, if_neg (by rw [c10]; decide), ← he]; rfl)
        · skip
          have hcl := cl_lt (sO N)
          have hlt24 : j < (sO N).toNatClampNeg := by
            rcases Nat.lt_or_ge j (sO N).toNatClampNeg with z | z
            · exact z
            · exact absurd ((cl_le (by omega)).mpr z) d26
          refine E_al0 k101_27 ?_
          refine E_get k101_28 ((bw_out (Or.inl (by decide))).trans (rec_main hg)) rfl ?_
          refine E_cv0 k101_29 (Or.inl rfl) bw_0 cl75 rfl rfl (s_canGoOn hS.1.2.2.2.1) ?_
          refine E_zeq k101_30 (fun c30 => ?_) (fun d30 => ?_)
          · skip
            have he : S = fnS (sO N).toNatClampNeg N := by rw [← hf, fnS_stop c30]
            refine E_al0 k101_36 ?_
            refine E_get k101_37 ((bw_out (Or.inl (by decide))).trans (rec_main hg)) rfl ?_
            refine E_cv0 k101_38 (Or.inl rfl) bw_0 cl71 rfl rfl (s_stepsOwed hS.1.2.2.2.1) ?_
            exact E_iret k101_39 hd101 rfl (by rw [fFin, if_neg c4, if_neg (by rw [c10]; decide), ← he]; rfl)
          · skip
            refine E_al0 k101_31 ?_
            refine E_get k101_32 ((bw_out (Or.inl (by decide))).trans (rec_main hg)) rfl ?_
            refine E_cv0 k101_33 (Or.inl rfl) bw_0 cl76 rfl rfl (s_goOn hS.1 hS.2) ?_
            refine E_inc2 k101_34 rfl ?_
            refine E_goto k101_35 ?_
            exact ev_cong (ih24 hlt24 _ (dGo_OK hS) (by rw [← hf, show (sO N).toNatClampNeg - j = ((sO N).toNatClampNeg - (j + 1)) + 1 by omega, fnS, if_pos d30])) (by rw [nI_1]) rfl rfl
      exact ev_cong (loop24 0 (Nat.zero_le _) N (gw_ok hg) rfl) rfl rfl (rec_now hg).symm
    · skip
      refine E_bipush k101_11 ?_
      exact E_iret k101_12 hd101 rfl (by rw [fFin, if_neg c4, if_pos d10]; rfl)
  · skip
    refine E_bipush k101_5 ?_
    exact E_iret k101_6 hd101 rfl (by rw [fFin, if_pos (Classical.not_not.mp d4)]; rfl)
