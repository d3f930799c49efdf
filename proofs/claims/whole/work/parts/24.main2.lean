/-! methods' runs, laid by wip/whole/walk.py out of wip/whole/specs10.py -/
theorem s_asNumber2 {X : az_X} {w : az_W} {sz sl : Nat} {x : Int32} (h : x = 0 ∨ x = 1) : az_M X 123 [.int x] w sz sl (some (.int x), w, sz, sl) := by
  rcases h with rfl | rfl
  · exact s_asNumber (b := false)
  · exact s_asNumber (b := true)
def tnB (N : az_S) (c : Int32) : Bool := pgn 24 c && decide (¬ N 1 c.toNatClampNeg = sealOf (N 0 c.toNatClampNeg))
def fCell (N : az_S) (c q : Int32) : Int32 := if pgn 24 c = false then -1 else if q = 0 then ix 24 (-5) (N 0) c else if q = 1 then ix 24 (-5) (N 1) c else if q = 2 then zb (tnB N c) else if q = 3 then ix 24 0 (N 2) c else if q = 4 then zb (frB N c) else if q = 5 then fc (cO N) c else if q = 6 then nI (hm N c) else if q = 7 then fc (N 6) c else -2
def fTab (N : az_S) (t q : Int32) : Int32 := if ¬ t = 0 ∧ ¬ t = 1 then -1 else if q = 0 then tN N t else if q = 1 then tT N t else if q = 2 then (if ¬ t = N 12 6 then 0 else 1) else if q = 3 then psf (tb N t) 8 else if q < 10 then -2 else if q < 18 then ix 8 (-5) (tb N t) (q - 10) else -2
def fCount (N : az_S) (n m : Nat) (q : Int32) : Int32 := if q = 0 then gN N else if q = 1 then N 12 6 else if q = 2 then bcI (psf (cO N) 8) else if q = 3 then nI (pT N) else if q = 4 then sO N else if q = 5 then N 12 5 else if q = 6 then nI (cnt (fun i => frB N (nI i)) 24) else if q = 7 then nI (cnt (fun i => decide (¬ N 1 i = sealOf (N 0 i))) 24) else if q = 8 then nI (cnt (fun i => decide (¬ N 7 i = 0)) 4) else if q = 9 then N 12 7 else if q = 10 then mxf (N 2) 24 else if q = 11 then smf (N 2) 24 else if q = 12 then nI (cnt (fun i => roB N (nI i)) 24) else if q = 13 then N 12 8 else if q = 14 then nI n else if q = 15 then nI m else if q = 16 then cOw N else -2
theorem out_ne {q : Int32} {h : Int} (hx : q.toInt < 0 ∨ h < q.toInt) (z : Int32) (hz : 0 ≤ z.toInt ∧ z.toInt ≤ h) : ¬ q = z := fun e => by subst e; omega
theorem fCell_0 {N : az_S} {c : Int32} (h : pgn 24 c = true) : fCell N c 0 = ix 24 (-5) (N 0) c := by unfold fCell; rw [if_neg (by rw [h]; decide), if_pos rfl]
theorem fCell_1 {N : az_S} {c : Int32} (h : pgn 24 c = true) : fCell N c 1 = ix 24 (-5) (N 1) c := by unfold fCell; rw [if_neg (by rw [h]; decide), if_neg (by decide), if_pos rfl]
theorem fCell_2 {N : az_S} {c : Int32} (h : pgn 24 c = true) : fCell N c 2 = zb (tnB N c) := by unfold fCell; rw [if_neg (by rw [h]; decide), if_neg (by decide), if_neg (by decide), if_pos rfl]
theorem fCell_3 {N : az_S} {c : Int32} (h : pgn 24 c = true) : fCell N c 3 = ix 24 0 (N 2) c := by unfold fCell; rw [if_neg (by rw [h]; decide), if_neg (by decide), if_neg (by decide), if_neg (by decide), if_pos rfl]
theorem fCell_4 {N : az_S} {c : Int32} (h : pgn 24 c = true) : fCell N c 4 = zb (frB N c) := by unfold fCell; rw [if_neg (by rw [h]; decide), if_neg (by decide), if_neg (by decide), if_neg (by decide), if_neg (by decide), if_pos rfl]
theorem fCell_5 {N : az_S} {c : Int32} (h : pgn 24 c = true) : fCell N c 5 = fc (cO N) c := by unfold fCell; rw [if_neg (by rw [h]; decide), if_neg (by decide), if_neg (by decide), if_neg (by decide), if_neg (by decide), if_neg (by decide), if_pos rfl]
theorem fCell_6 {N : az_S} {c : Int32} (h : pgn 24 c = true) : fCell N c 6 = nI (hm N c) := by unfold fCell; rw [if_neg (by rw [h]; decide), if_neg (by decide), if_neg (by decide), if_neg (by decide), if_neg (by decide), if_neg (by decide), if_neg (by decide), if_pos rfl]
theorem fCell_7 {N : az_S} {c : Int32} (h : pgn 24 c = true) : fCell N c 7 = fc (N 6) c := by unfold fCell; rw [if_neg (by rw [h]; decide), if_neg (by decide), if_neg (by decide), if_neg (by decide), if_neg (by decide), if_neg (by decide), if_neg (by decide), if_neg (by decide), if_pos rfl]
theorem fTab_0 {N : az_S} {t : Int32} (h : ¬ (¬ t = 0 ∧ ¬ t = 1)) : fTab N t 0 = tN N t := by unfold fTab; rw [if_neg h, if_pos rfl]
theorem fTab_1 {N : az_S} {t : Int32} (h : ¬ (¬ t = 0 ∧ ¬ t = 1)) : fTab N t 1 = tT N t := by unfold fTab; rw [if_neg h, if_neg (by decide), if_pos rfl]
theorem fTab_2 {N : az_S} {t : Int32} (h : ¬ (¬ t = 0 ∧ ¬ t = 1)) : fTab N t 2 = (if ¬ t = N 12 6 then 0 else 1) := by unfold fTab; rw [if_neg h, if_neg (by decide), if_neg (by decide), if_pos rfl]
theorem fTab_3 {N : az_S} {t : Int32} (h : ¬ (¬ t = 0 ∧ ¬ t = 1)) : fTab N t 3 = psf (tb N t) 8 := by unfold fTab; rw [if_neg h, if_neg (by decide), if_neg (by decide), if_neg (by decide), if_pos rfl]
theorem fCount_0 {N : az_S} {n m : Nat} : fCount N n m 0 = gN N := by unfold fCount; rw [if_pos rfl]
theorem fCount_1 {N : az_S} {n m : Nat} : fCount N n m 1 = N 12 6 := by unfold fCount; rw [if_neg (by decide), if_pos rfl]
theorem fCount_2 {N : az_S} {n m : Nat} : fCount N n m 2 = bcI (psf (cO N) 8) := by unfold fCount; rw [if_neg (by decide), if_neg (by decide), if_pos rfl]
theorem fCount_3 {N : az_S} {n m : Nat} : fCount N n m 3 = nI (pT N) := by unfold fCount; rw [if_neg (by decide), if_neg (by decide), if_neg (by decide), if_pos rfl]
theorem fCount_4 {N : az_S} {n m : Nat} : fCount N n m 4 = sO N := by unfold fCount; rw [if_neg (by decide), if_neg (by decide), if_neg (by decide), if_neg (by decide), if_pos rfl]
theorem fCount_5 {N : az_S} {n m : Nat} : fCount N n m 5 = N 12 5 := by unfold fCount; rw [if_neg (by decide), if_neg (by decide), if_neg (by decide), if_neg (by decide), if_neg (by decide), if_pos rfl]
theorem fCount_6 {N : az_S} {n m : Nat} : fCount N n m 6 = nI (cnt (fun i => frB N (nI i)) 24) := by unfold fCount; rw [if_neg (by decide), if_neg (by decide), if_neg (by decide), if_neg (by decide), if_neg (by decide), if_neg (by decide), if_pos rfl]
theorem fCount_7 {N : az_S} {n m : Nat} : fCount N n m 7 = nI (cnt (fun i => decide (¬ N 1 i = sealOf (N 0 i))) 24) := by unfold fCount; rw [if_neg (by decide), if_neg (by decide), if_neg (by decide), if_neg (by decide), if_neg (by decide), if_neg (by decide), if_neg (by decide), if_pos rfl]
theorem fCount_8 {N : az_S} {n m : Nat} : fCount N n m 8 = nI (cnt (fun i => decide (¬ N 7 i = 0)) 4) := by unfold fCount; rw [if_neg (by decide), if_neg (by decide), if_neg (by decide), if_neg (by decide), if_neg (by decide), if_neg (by decide), if_neg (by decide), if_neg (by decide), if_pos rfl]
theorem fCount_9 {N : az_S} {n m : Nat} : fCount N n m 9 = N 12 7 := by unfold fCount; rw [if_neg (by decide), if_neg (by decide), if_neg (by decide), if_neg (by decide), if_neg (by decide), if_neg (by decide), if_neg (by decide), if_neg (by decide), if_neg (by decide), if_pos rfl]
theorem fCount_10 {N : az_S} {n m : Nat} : fCount N n m 10 = mxf (N 2) 24 := by unfold fCount; rw [if_neg (by decide), if_neg (by decide), if_neg (by decide), if_neg (by decide), if_neg (by decide), if_neg (by decide), if_neg (by decide), if_neg (by decide), if_neg (by decide), if_neg (by decide), if_pos rfl]
theorem fCount_11 {N : az_S} {n m : Nat} : fCount N n m 11 = smf (N 2) 24 := by unfold fCount; rw [if_neg (by decide), if_neg (by decide), if_neg (by decide), if_neg (by decide), if_neg (by decide), if_neg (by decide), if_neg (by decide), if_neg (by decide), if_neg (by decide), if_neg (by decide), if_neg (by decide), if_pos rfl]
theorem fCount_12 {N : az_S} {n m : Nat} : fCount N n m 12 = nI (cnt (fun i => roB N (nI i)) 24) := by unfold fCount; rw [if_neg (by decide), if_neg (by decide), if_neg (by decide), if_neg (by decide), if_neg (by decide), if_neg (by decide), if_neg (by decide), if_neg (by decide), if_neg (by decide), if_neg (by decide), if_neg (by decide), if_neg (by decide), if_pos rfl]
theorem fCount_13 {N : az_S} {n m : Nat} : fCount N n m 13 = N 12 8 := by unfold fCount; rw [if_neg (by decide), if_neg (by decide), if_neg (by decide), if_neg (by decide), if_neg (by decide), if_neg (by decide), if_neg (by decide), if_neg (by decide), if_neg (by decide), if_neg (by decide), if_neg (by decide), if_neg (by decide), if_neg (by decide), if_pos rfl]
theorem fCount_14 {N : az_S} {n m : Nat} : fCount N n m 14 = nI n := by unfold fCount; rw [if_neg (by decide), if_neg (by decide), if_neg (by decide), if_neg (by decide), if_neg (by decide), if_neg (by decide), if_neg (by decide), if_neg (by decide), if_neg (by decide), if_neg (by decide), if_neg (by decide), if_neg (by decide), if_neg (by decide), if_neg (by decide), if_pos rfl]
theorem fCount_15 {N : az_S} {n m : Nat} : fCount N n m 15 = nI m := by unfold fCount; rw [if_neg (by decide), if_neg (by decide), if_neg (by decide), if_neg (by decide), if_neg (by decide), if_neg (by decide), if_neg (by decide), if_neg (by decide), if_neg (by decide), if_neg (by decide), if_neg (by decide), if_neg (by decide), if_neg (by decide), if_neg (by decide), if_neg (by decide), if_pos rfl]
theorem fCount_16 {N : az_S} {n m : Nat} : fCount N n m 16 = cOw N := by unfold fCount; rw [if_neg (by decide), if_neg (by decide), if_neg (by decide), if_neg (by decide), if_neg (by decide), if_neg (by decide), if_neg (by decide), if_neg (by decide), if_neg (by decide), if_neg (by decide), if_neg (by decide), if_neg (by decide), if_neg (by decide), if_neg (by decide), if_neg (by decide), if_neg (by decide), if_pos rfl]

set_option maxRecDepth 20000 in
theorem m_cell {X : az_X} {w : az_W} {sz sl : Nat} {N P : az_S} {kp : Int32} {o n : Nat} {Hs : Nat → az_S} {ch pg tl : Nat → Int32} {m : Nat} {e : Int32} {c q : Int32} (hg : GW w N P kp o n Hs ch pg tl m e) : az_M X 114 [.ref 0, .int c, .int q] w sz sl (some (.int (fCell N c q)), w, sz, sl) := by
  refine az_Mof hd114 ?_
  show az_Ev X 114 0 [.ref 0, .int c, .int q] [] w sz sl _
  refine E_il1 k114_0 ?_
  refine E_cs1 k114_1 (Or.inl rfl) rfl rfl (s_isCell) ?_
  refine E_zne k114_2 (fun c2 => ?_) (fun d2 => ?_)
  · skip
    refine E_il2 k114_5 ?_
    refine E_sw k114_6 (by decide) (fun jj kk hjk hx6 => ?_) (fun hx6 => ?_)
    · match jj, hjk with
      | 0, hjk =>
        cases hjk
        have eq6 : q = 0 := Int32.toInt_inj.mp (by rw [hx6]; rfl)
        subst eq6
        refine E_al0 k114_7 ?_
        refine E_get k114_8 hg.1 rfl ?_
        refine E_get k114_9 (eqw (gw_n hg) bw_0) rfl ?_
        refine E_il1 k114_10 ?_
        refine E_cv1 k114_11 (Or.inl rfl) (eqw (gw_n hg) bw_1) cl4 rfl rfl (rd_w (gw_n hg) (s_contentOf bw_1 bw_2)) ?_
        exact E_iret k114_12 hd114 rfl (by rw [fCell_0 c2])
      | 1, hjk =>
        cases hjk
        have eq6 : q = 1 := Int32.toInt_inj.mp (by rw [hx6]; rfl)
        subst eq6
        refine E_al0 k114_13 ?_
        refine E_get k114_14 hg.1 rfl ?_
        refine E_get k114_15 (eqw (gw_n hg) bw_0) rfl ?_
        refine E_il1 k114_16 ?_
        refine E_cv1 k114_17 (Or.inl rfl) (eqw (gw_n hg) bw_1) cl5 rfl rfl (rd_w (gw_n hg) (s_sealIn bw_1 bw_3)) ?_
        exact E_iret k114_18 hd114 rfl (by rw [fCell_1 c2])
      | 2, hjk =>
        cases hjk
        have eq6 : q = 2 := Int32.toInt_inj.mp (by rw [hx6]; rfl)
        subst eq6
        refine E_al0 k114_19 ?_
        refine E_get k114_20 hg.1 rfl ?_
        refine E_get k114_21 (eqw (gw_n hg) bw_0) rfl ?_
        refine E_il1 k114_22 ?_
        refine E_cv1 k114_23 (Or.inl rfl) (eqw (gw_n hg) bw_1) cl7 rfl rfl (rd_w (gw_n hg) (s_cTorn bw_1 bw_2 bw_3)) ?_
        refine E_cs1 k114_24 (Or.inl rfl) rfl rfl s_asNumber ?_
        exact E_iret k114_25 hd114 rfl (by rw [fCell_2 c2]; rfl)
      | 3, hjk =>
        cases hjk
        have eq6 : q = 3 := Int32.toInt_inj.mp (by rw [hx6]; rfl)
        subst eq6
        refine E_al0 k114_26 ?_
        refine E_get k114_27 hg.1 rfl ?_
        refine E_get k114_28 (eqw (gw_n hg) bw_0) rfl ?_
        refine E_il1 k114_29 ?_
        refine E_cv1 k114_30 (Or.inl rfl) (eqw (gw_n hg) bw_1) cl6 rfl rfl (rd_w (gw_n hg) (s_wearOf bw_1 bw_4)) ?_
        exact E_iret k114_31 hd114 rfl (by rw [fCell_3 c2])
      | 4, hjk =>
        cases hjk
        have eq6 : q = 4 := Int32.toInt_inj.mp (by rw [hx6]; rfl)
        subst eq6
        refine E_al0 k114_32 ?_
        refine E_get k114_33 hg.1 rfl ?_
        refine E_il1 k114_34 ?_
        refine E_cv1 k114_35 (Or.inl rfl) (eqw (gw_n hg) bw_0) cl67 rfl rfl (rd_w (gw_n hg) s_isFree) ?_
        refine E_cs1 k114_36 (Or.inl rfl) rfl rfl s_asNumber ?_
        exact E_iret k114_37 hd114 rfl (by rw [fCell_4 c2])
      | 5, hjk =>
        cases hjk
        have eq6 : q = 5 := Int32.toInt_inj.mp (by rw [hx6]; rfl)
        subst eq6
        refine E_al0 k114_38 ?_
        refine E_get k114_39 hg.1 rfl ?_
        refine E_cv0 k114_40 (Or.inl rfl) (eqw (gw_n hg) bw_0) cl64 rfl rfl (rd_w (gw_n hg) s_oldGeneration) ?_
        refine E_il1 k114_41 ?_
        refine E_cv1 k114_42 (Or.inl rfl) (eqw (gw_n hg) (bw_tA _)) cl27 rfl rfl (rd_w (gw_n hg) (s_pageWith (bw_tA _) (bw_tB _))) ?_
        exact E_iret k114_43 hd114 rfl (by (rw [fCell_5 c2]; rfl))
      | 6, hjk =>
        cases hjk
        have eq6 : q = 6 := Int32.toInt_inj.mp (by rw [hx6]; rfl)
        subst eq6
        refine E_al0 k114_44 ?_
        refine E_get k114_45 hg.1 rfl ?_
        refine E_get k114_46 (eqw (gw_n hg) bw_0) rfl ?_
        refine E_il1 k114_47 ?_
        refine E_cv1 k114_48 (Or.inl rfl) (eqw (gw_n hg) bw_13) cl52 rfl rfl (rd_w (gw_n hg) s_howManyWith) ?_
        exact E_iret k114_49 hd114 rfl (by rw [fCell_6 c2])
      | 7, hjk =>
        cases hjk
        have eq6 : q = 7 := Int32.toInt_inj.mp (by rw [hx6]; rfl)
        subst eq6
        refine E_al0 k114_50 ?_
        refine E_get k114_51 hg.1 rfl ?_
        refine E_get k114_52 (eqw (gw_n hg) bw_0) rfl ?_
        refine E_il1 k114_53 ?_
        refine E_cv1 k114_54 (Or.inl rfl) (eqw (gw_n hg) bw_11) cl91 rfl rfl (rd_w (gw_n hg) (s_pageWrittenTo bw_11 bw_12)) ?_
        exact E_iret k114_55 hd114 rfl (by (rw [fCell_7 c2]; rfl))
      | jj + 8, hjk => simp at hjk
    · skip
      refine E_bipush k114_56 ?_
      exact E_iret k114_57 hd114 rfl (by rw [fCell, if_neg (by rw [c2]; decide), if_neg (out_ne hx6 0 (by decide)), if_neg (out_ne hx6 1 (by decide)), if_neg (out_ne hx6 2 (by decide)), if_neg (out_ne hx6 3 (by decide)), if_neg (out_ne hx6 4 (by decide)), if_neg (out_ne hx6 5 (by decide)), if_neg (out_ne hx6 6 (by decide)), if_neg (out_ne hx6 7 (by decide))])
  · skip
    refine E_iconst k114_3 ?_
    exact E_iret k114_4 hd114 rfl (by rw [fCell, if_pos d2])
set_option maxRecDepth 20000 in
theorem m_table {X : az_X} {w : az_W} {sz sl : Nat} {N P : az_S} {kp : Int32} {o n : Nat} {Hs : Nat → az_S} {ch pg tl : Nat → Int32} {m : Nat} {e : Int32} {t q : Int32} (hg : GW w N P kp o n Hs ch pg tl m e) : az_M X 115 [.ref 0, .int t, .int q] w sz sl (some (.int (fTab N t q)), w, sz, sl) := by
  refine az_Mof hd115 ?_
  show az_Ev X 115 0 [.ref 0, .int t, .int q, .null] [] w sz sl _
  refine E_il1 k115_0 ?_
  refine E_ifeq k115_1 (fun c1 => ?_) (fun d1 => ?_)
  · skip
    have ht : ¬ (¬ t = 0 ∧ ¬ t = 1) := fun z => z.1 c1
    refine E_al0 k115_7 ?_
    refine E_get k115_8 hg.1 rfl ?_
    refine E_il1 k115_9 ?_
    refine E_cv1 k115_10 (Or.inl rfl) (eqw (gw_n hg) bw_0) cl63 rfl rfl (rd_w (gw_n hg) s_tableAt) ?_
    refine E_as3 k115_11 rfl ?_
    refine E_il2 k115_12 ?_
    refine E_sw k115_13 (by decide) (fun jj kk hjk hx13 => ?_) (fun hx13 => ?_)
    · match jj, hjk with
      | 0, hjk =>
        cases hjk
        have eq13 : q = 0 := Int32.toInt_inj.mp (by rw [hx13]; rfl)
        subst eq13
        refine E_al3 k115_14 ?_
        refine E_cv0 k115_15 (Or.inl rfl) (eqw (gw_n hg) (bw_tA _)) cl22 rfl rfl (rd_w (gw_n hg) (s_gNumber (bw_tA _))) ?_
        exact E_iret k115_16 hd115 rfl (by rw [fTab_0 ht])
      | 1, hjk =>
        cases hjk
        have eq13 : q = 1 := Int32.toInt_inj.mp (by rw [hx13]; rfl)
        subst eq13
        refine E_al3 k115_17 ?_
        refine E_cv0 k115_18 (Or.inl rfl) (eqw (gw_n hg) (bw_tA _)) cl23 rfl rfl (rd_w (gw_n hg) (s_gTorn (bw_tA _) (SV_tT (gw_ok hg).1 _))) ?_
        refine E_cs1 k115_19 (Or.inl rfl) rfl rfl (s_asNumber2 (SV_tT (gw_ok hg).1 _)) ?_
        exact E_iret k115_20 hd115 rfl (by rw [fTab_1 ht])
      | 2, hjk =>
        cases hjk
        have eq13 : q = 2 := Int32.toInt_inj.mp (by rw [hx13]; rfl)
        subst eq13
        refine E_il1 k115_21 ?_
        refine E_al0 k115_22 ?_
        refine E_get k115_23 hg.1 rfl ?_
        refine E_cv0 k115_24 (Or.inl rfl) (eqw (gw_n hg) bw_0) cl60 rfl rfl (rd_w (gw_n hg) s_mark) ?_
        refine E_icne k115_25 (fun c25 => ?_) (fun d25 => ?_)
        · skip
          refine E_iconst k115_28 ?_
          refine E_cs1 k115_29 (Or.inl rfl) rfl rfl (s_asNumber2 (by first | exact Or.inl rfl | exact Or.inr rfl)) ?_
          exact E_iret k115_30 hd115 rfl (by first | rw [fTab_2 ht, if_pos c25] | rw [fTab_2 ht, if_neg d25])
        · skip
          refine E_iconst k115_26 ?_
          refine E_goto k115_27 ?_
          refine E_cs1 k115_29 (Or.inl rfl) rfl rfl (s_asNumber2 (by first | exact Or.inl rfl | exact Or.inr rfl)) ?_
          exact E_iret k115_30 hd115 rfl (by first | rw [fTab_2 ht, if_pos c25] | rw [fTab_2 ht, if_neg d25])
      | 3, hjk =>
        cases hjk
        have eq13 : q = 3 := Int32.toInt_inj.mp (by rw [hx13]; rfl)
        subst eq13
        refine E_al3 k115_31 ?_
        refine E_cv0 k115_32 (Or.inl rfl) (eqw (gw_n hg) (bw_tA _)) cl28 rfl rfl (rd_w (gw_n hg) (s_pageSet (bw_tA _) (bw_tB _))) ?_
        exact E_iret k115_33 hd115 rfl (by rw [fTab_3 ht])
      | jj + 4, hjk => simp at hjk
    · skip
      refine E_il2 k115_34 ?_
      refine E_bipush k115_35 ?_
      refine E_iclt k115_36 (fun c36 => ?_) (fun d36 => ?_)
      · skip
        refine E_bipush k115_40 ?_
        exact E_iret k115_41 hd115 rfl (by first | (rw [fTab, if_neg ht, if_neg (out_ne hx13 0 (by decide)), if_neg (out_ne hx13 1 (by decide)), if_neg (out_ne hx13 2 (by decide)), if_neg (out_ne hx13 3 (by decide)), if_pos c36]; done) | (rw [fTab, if_neg ht, if_neg (out_ne hx13 0 (by decide)), if_neg (out_ne hx13 1 (by decide)), if_neg (out_ne hx13 2 (by decide)), if_neg (out_ne hx13 3 (by decide)), if_neg d36, if_neg d39]; done))
      · skip
        refine E_il2 k115_37 ?_
        refine E_bipush k115_38 ?_
        refine E_iclt k115_39 (fun c39 => ?_) (fun d39 => ?_)
        · skip
          refine E_al3 k115_42 ?_
          refine E_il2 k115_43 ?_
          refine E_bipush k115_44 ?_
          refine E_isub k115_45 ?_
          refine E_cv1 k115_46 (Or.inl rfl) (eqw (gw_n hg) (bw_tA _)) cl25 rfl rfl (rd_w (gw_n hg) (s_cellOf (bw_tA _) (bw_tB _))) ?_
          exact E_iret k115_47 hd115 rfl (by rw [fTab, if_neg ht, if_neg (out_ne hx13 0 (by decide)), if_neg (out_ne hx13 1 (by decide)), if_neg (out_ne hx13 2 (by decide)), if_neg (out_ne hx13 3 (by decide)), if_neg d36, if_pos c39])
        · skip
          refine E_bipush k115_40 ?_
          exact E_iret k115_41 hd115 rfl (by first | (rw [fTab, if_neg ht, if_neg (out_ne hx13 0 (by decide)), if_neg (out_ne hx13 1 (by decide)), if_neg (out_ne hx13 2 (by decide)), if_neg (out_ne hx13 3 (by decide)), if_pos c36]; done) | (rw [fTab, if_neg ht, if_neg (out_ne hx13 0 (by decide)), if_neg (out_ne hx13 1 (by decide)), if_neg (out_ne hx13 2 (by decide)), if_neg (out_ne hx13 3 (by decide)), if_neg d36, if_neg d39]; done))
  · skip
    refine E_il1 k115_2 ?_
    refine E_iconst k115_3 ?_
    refine E_iceq k115_4 (fun c4 => ?_) (fun d4 => ?_)
    · skip
      have ht : ¬ (¬ t = 0 ∧ ¬ t = 1) := fun z => z.2 c4
      refine E_al0 k115_7 ?_
      refine E_get k115_8 hg.1 rfl ?_
      refine E_il1 k115_9 ?_
      refine E_cv1 k115_10 (Or.inl rfl) (eqw (gw_n hg) bw_0) cl63 rfl rfl (rd_w (gw_n hg) s_tableAt) ?_
      refine E_as3 k115_11 rfl ?_
      refine E_il2 k115_12 ?_
      refine E_sw k115_13 (by decide) (fun jj kk hjk hx13 => ?_) (fun hx13 => ?_)
      · match jj, hjk with
        | 0, hjk =>
          cases hjk
          have eq13 : q = 0 := Int32.toInt_inj.mp (by rw [hx13]; rfl)
          subst eq13
          refine E_al3 k115_14 ?_
          refine E_cv0 k115_15 (Or.inl rfl) (eqw (gw_n hg) (bw_tA _)) cl22 rfl rfl (rd_w (gw_n hg) (s_gNumber (bw_tA _))) ?_
          exact E_iret k115_16 hd115 rfl (by rw [fTab_0 ht])
        | 1, hjk =>
          cases hjk
          have eq13 : q = 1 := Int32.toInt_inj.mp (by rw [hx13]; rfl)
          subst eq13
          refine E_al3 k115_17 ?_
          refine E_cv0 k115_18 (Or.inl rfl) (eqw (gw_n hg) (bw_tA _)) cl23 rfl rfl (rd_w (gw_n hg) (s_gTorn (bw_tA _) (SV_tT (gw_ok hg).1 _))) ?_
          refine E_cs1 k115_19 (Or.inl rfl) rfl rfl (s_asNumber2 (SV_tT (gw_ok hg).1 _)) ?_
          exact E_iret k115_20 hd115 rfl (by rw [fTab_1 ht])
        | 2, hjk =>
          cases hjk
          have eq13 : q = 2 := Int32.toInt_inj.mp (by rw [hx13]; rfl)
          subst eq13
          refine E_il1 k115_21 ?_
          refine E_al0 k115_22 ?_
          refine E_get k115_23 hg.1 rfl ?_
          refine E_cv0 k115_24 (Or.inl rfl) (eqw (gw_n hg) bw_0) cl60 rfl rfl (rd_w (gw_n hg) s_mark) ?_
          refine E_icne k115_25 (fun c25 => ?_) (fun d25 => ?_)
          · skip
            refine E_iconst k115_28 ?_
            refine E_cs1 k115_29 (Or.inl rfl) rfl rfl (s_asNumber2 (by first | exact Or.inl rfl | exact Or.inr rfl)) ?_
            exact E_iret k115_30 hd115 rfl (by first | rw [fTab_2 ht, if_pos c25] | rw [fTab_2 ht, if_neg d25])
          · skip
            refine E_iconst k115_26 ?_
            refine E_goto k115_27 ?_
            refine E_cs1 k115_29 (Or.inl rfl) rfl rfl (s_asNumber2 (by first | exact Or.inl rfl | exact Or.inr rfl)) ?_
            exact E_iret k115_30 hd115 rfl (by first | rw [fTab_2 ht, if_pos c25] | rw [fTab_2 ht, if_neg d25])
        | 3, hjk =>
          cases hjk
          have eq13 : q = 3 := Int32.toInt_inj.mp (by rw [hx13]; rfl)
          subst eq13
          refine E_al3 k115_31 ?_
          refine E_cv0 k115_32 (Or.inl rfl) (eqw (gw_n hg) (bw_tA _)) cl28 rfl rfl (rd_w (gw_n hg) (s_pageSet (bw_tA _) (bw_tB _))) ?_
          exact E_iret k115_33 hd115 rfl (by rw [fTab_3 ht])
        | jj + 4, hjk => simp at hjk
      · skip
        refine E_il2 k115_34 ?_
        refine E_bipush k115_35 ?_
        refine E_iclt k115_36 (fun c36 => ?_) (fun d36 => ?_)
        · skip
          refine E_bipush k115_40 ?_
          exact E_iret k115_41 hd115 rfl (by first | (rw [fTab, if_neg ht, if_neg (out_ne hx13 0 (by decide)), if_neg (out_ne hx13 1 (by decide)), if_neg (out_ne hx13 2 (by decide)), if_neg (out_ne hx13 3 (by decide)), if_pos c36]; done) | (rw [fTab, if_neg ht, if_neg (out_ne hx13 0 (by decide)), if_neg (out_ne hx13 1 (by decide)), if_neg (out_ne hx13 2 (by decide)), if_neg (out_ne hx13 3 (by decide)), if_neg d36, if_neg d39]; done))
        · skip
          refine E_il2 k115_37 ?_
          refine E_bipush k115_38 ?_
          refine E_iclt k115_39 (fun c39 => ?_) (fun d39 => ?_)
          · skip
            refine E_al3 k115_42 ?_
            refine E_il2 k115_43 ?_
            refine E_bipush k115_44 ?_
            refine E_isub k115_45 ?_
            refine E_cv1 k115_46 (Or.inl rfl) (eqw (gw_n hg) (bw_tA _)) cl25 rfl rfl (rd_w (gw_n hg) (s_cellOf (bw_tA _) (bw_tB _))) ?_
            exact E_iret k115_47 hd115 rfl (by rw [fTab, if_neg ht, if_neg (out_ne hx13 0 (by decide)), if_neg (out_ne hx13 1 (by decide)), if_neg (out_ne hx13 2 (by decide)), if_neg (out_ne hx13 3 (by decide)), if_neg d36, if_pos c39])
          · skip
            refine E_bipush k115_40 ?_
            exact E_iret k115_41 hd115 rfl (by first | (rw [fTab, if_neg ht, if_neg (out_ne hx13 0 (by decide)), if_neg (out_ne hx13 1 (by decide)), if_neg (out_ne hx13 2 (by decide)), if_neg (out_ne hx13 3 (by decide)), if_pos c36]; done) | (rw [fTab, if_neg ht, if_neg (out_ne hx13 0 (by decide)), if_neg (out_ne hx13 1 (by decide)), if_neg (out_ne hx13 2 (by decide)), if_neg (out_ne hx13 3 (by decide)), if_neg d36, if_neg d39]; done))
    · skip
      refine E_iconst k115_5 ?_
      exact E_iret k115_6 hd115 rfl (by rw [fTab, if_pos ⟨d1, d4⟩])
set_option maxRecDepth 20000 in
theorem m_count {X : az_X} {w : az_W} {sz sl : Nat} {N P : az_S} {kp : Int32} {o n : Nat} {Hs : Nat → az_S} {ch pg tl : Nat → Int32} {m : Nat} {e : Int32} {q : Int32} (hg : GW w N P kp o n Hs ch pg tl m e) : az_M X 120 [.ref 0, .int q] w sz sl (some (.int (fCount N n m q)), w, sz, sl) := by
  refine az_Mof hd120 ?_
  show az_Ev X 120 0 [.ref 0, .int q] [] w sz sl _
  refine E_il1 k120_0 ?_
  refine E_sw k120_1 (by decide) (fun jj kk hjk hx1 => ?_) (fun hx1 => ?_)
  · match jj, hjk with
    | 0, hjk =>
      cases hjk
      have eq1 : q = 0 := Int32.toInt_inj.mp (by rw [hx1]; rfl)
      subst eq1
      refine E_al0 k120_2 ?_
      refine E_get k120_3 hg.1 rfl ?_
      refine E_cv0 k120_4 (Or.inl rfl) (eqw (gw_n hg) bw_0) cl64 rfl rfl (rd_w (gw_n hg) s_oldGeneration) ?_
      refine E_cv0 k120_5 (Or.inl rfl) (eqw (gw_n hg) (bw_tA _)) cl22 rfl rfl (rd_w (gw_n hg) (s_gNumber (bw_tA _))) ?_
      exact E_iret k120_6 hd120 rfl (by (rw [fCount_0]; rfl))
    | 1, hjk =>
      cases hjk
      have eq1 : q = 1 := Int32.toInt_inj.mp (by rw [hx1]; rfl)
      subst eq1
      refine E_al0 k120_7 ?_
      refine E_get k120_8 hg.1 rfl ?_
      refine E_cv0 k120_9 (Or.inl rfl) (eqw (gw_n hg) bw_0) cl60 rfl rfl (rd_w (gw_n hg) s_mark) ?_
      exact E_iret k120_10 hd120 rfl (by rw [fCount_1])
    | 2, hjk =>
      cases hjk
      have eq1 : q = 2 := Int32.toInt_inj.mp (by rw [hx1]; rfl)
      subst eq1
      refine E_al0 k120_11 ?_
      refine E_get k120_12 hg.1 rfl ?_
      refine E_cv0 k120_13 (Or.inl rfl) (eqw (gw_n hg) bw_0) cl64 rfl rfl (rd_w (gw_n hg) s_oldGeneration) ?_
      refine E_cv0 k120_14 (Or.inl rfl) (eqw (gw_n hg) (bw_tA _)) cl29 rfl rfl (rd_w (gw_n hg) (s_pages (bw_tA _) (bw_tB _))) ?_
      exact E_iret k120_15 hd120 rfl (by (rw [fCount_2]; rfl))
    | 3, hjk =>
      cases hjk
      have eq1 : q = 3 := Int32.toInt_inj.mp (by rw [hx1]; rfl)
      subst eq1
      refine E_al0 k120_16 ?_
      refine E_get k120_17 hg.1 rfl ?_
      refine E_get k120_18 (eqw (gw_n hg) bw_0) rfl ?_
      refine E_cv0 k120_19 (Or.inl rfl) (eqw (gw_n hg) bw_9) cl17 rfl rfl (rd_w (gw_n hg) (s_pagesTold bw_9 bw_10)) ?_
      exact E_iret k120_20 hd120 rfl (by (rw [fCount_3]; rfl))
    | 4, hjk =>
      cases hjk
      have eq1 : q = 4 := Int32.toInt_inj.mp (by rw [hx1]; rfl)
      subst eq1
      refine E_al0 k120_21 ?_
      refine E_get k120_22 hg.1 rfl ?_
      refine E_cv0 k120_23 (Or.inl rfl) (eqw (gw_n hg) bw_0) cl71 rfl rfl (rd_w (gw_n hg) (s_stepsOwed (gw_ok hg).1.2.2.2.1)) ?_
      exact E_iret k120_24 hd120 rfl (by rw [fCount_4])
    | 5, hjk =>
      cases hjk
      have eq1 : q = 5 := Int32.toInt_inj.mp (by rw [hx1]; rfl)
      subst eq1
      refine E_al0 k120_25 ?_
      refine E_get k120_26 hg.1 rfl ?_
      refine E_get k120_27 (eqw (gw_n hg) bw_0) rfl ?_
      refine E_cv0 k120_28 (Or.inl rfl) (eqw (gw_n hg) bw_11) cl85 rfl rfl (rd_w (gw_n hg) s_stepsDone) ?_
      exact E_iret k120_29 hd120 rfl (by rw [fCount_5])
    | 6, hjk =>
      cases hjk
      have eq1 : q = 6 := Int32.toInt_inj.mp (by rw [hx1]; rfl)
      subst eq1
      refine E_al0 k120_30 ?_
      refine E_get k120_31 hg.1 rfl ?_
      refine E_cv0 k120_32 (Or.inl rfl) (eqw (gw_n hg) bw_0) cl68 rfl rfl (rd_w (gw_n hg) s_freeCells) ?_
      exact E_iret k120_33 hd120 rfl (by rw [fCount_6])
    | 7, hjk =>
      cases hjk
      have eq1 : q = 7 := Int32.toInt_inj.mp (by rw [hx1]; rfl)
      subst eq1
      refine E_al0 k120_34 ?_
      refine E_get k120_35 hg.1 rfl ?_
      refine E_get k120_36 (eqw (gw_n hg) bw_0) rfl ?_
      refine E_cv0 k120_37 (Or.inl rfl) (eqw (gw_n hg) bw_1) cl8 rfl rfl (rd_w (gw_n hg) (s_tornCells bw_1 bw_2 bw_3)) ?_
      exact E_iret k120_38 hd120 rfl (by rw [fCount_7])
    | 8, hjk =>
      cases hjk
      have eq1 : q = 8 := Int32.toInt_inj.mp (by rw [hx1]; rfl)
      subst eq1
      refine E_al0 k120_39 ?_
      refine E_get k120_40 hg.1 rfl ?_
      refine E_get k120_41 (eqw (gw_n hg) bw_0) rfl ?_
      refine E_cv0 k120_42 (Or.inl rfl) (eqw (gw_n hg) bw_13) cl51 rfl rfl (rd_w (gw_n hg) s_howMany) ?_
      exact E_iret k120_43 hd120 rfl (by rw [fCount_8])
    | 9, hjk =>
      cases hjk
      have eq1 : q = 9 := Int32.toInt_inj.mp (by rw [hx1]; rfl)
      subst eq1
      refine E_al0 k120_44 ?_
      refine E_get k120_45 hg.1 rfl ?_
      refine E_cv0 k120_46 (Or.inl rfl) (eqw (gw_n hg) bw_0) cl61 rfl rfl (rd_w (gw_n hg) s_crashes) ?_
      exact E_iret k120_47 hd120 rfl (by rw [fCount_9])
    | 10, hjk =>
      cases hjk
      have eq1 : q = 10 := Int32.toInt_inj.mp (by rw [hx1]; rfl)
      subst eq1
      refine E_al0 k120_48 ?_
      refine E_get k120_49 hg.1 rfl ?_
      refine E_get k120_50 (eqw (gw_n hg) bw_0) rfl ?_
      refine E_cv0 k120_51 (Or.inl rfl) (eqw (gw_n hg) bw_1) cl9 rfl rfl (rd_w (gw_n hg) (s_greatestWear bw_1 bw_4)) ?_
      exact E_iret k120_52 hd120 rfl (by rw [fCount_10])
    | 11, hjk =>
      cases hjk
      have eq1 : q = 11 := Int32.toInt_inj.mp (by rw [hx1]; rfl)
      subst eq1
      refine E_al0 k120_53 ?_
      refine E_get k120_54 hg.1 rfl ?_
      refine E_get k120_55 (eqw (gw_n hg) bw_0) rfl ?_
      refine E_cv0 k120_56 (Or.inl rfl) (eqw (gw_n hg) bw_1) cl10 rfl rfl (rd_w (gw_n hg) (s_allWear bw_1 bw_4)) ?_
      exact E_iret k120_57 hd120 rfl (by rw [fCount_11])
    | 12, hjk =>
      cases hjk
      have eq1 : q = 12 := Int32.toInt_inj.mp (by rw [hx1]; rfl)
      subst eq1
      refine E_al0 k120_58 ?_
      refine E_get k120_59 hg.1 rfl ?_
      refine E_cv0 k120_60 (Or.inl rfl) (eqw (gw_n hg) bw_0) cl69 rfl rfl (rd_w (gw_n hg) s_readersOnly) ?_
      exact E_iret k120_61 hd120 rfl (by rw [fCount_12])
    | 13, hjk =>
      cases hjk
      have eq1 : q = 13 := Int32.toInt_inj.mp (by rw [hx1]; rfl)
      subst eq1
      refine E_al0 k120_62 ?_
      refine E_get k120_63 hg.1 rfl ?_
      refine E_cv0 k120_64 (Or.inl rfl) (eqw (gw_n hg) bw_0) cl62 rfl rfl (rd_w (gw_n hg) s_swaps) ?_
      exact E_iret k120_65 hd120 rfl (by rw [fCount_13])
    | 14, hjk =>
      cases hjk
      have eq1 : q = 14 := Int32.toInt_inj.mp (by rw [hx1]; rfl)
      subst eq1
      refine E_al0 k120_66 ?_
      refine E_get k120_67 hg.1 rfl ?_
      refine E_cv0 k120_68 (Or.inl rfl) (gw_hi hg) cl32 rfl rfl (s_states (gw_hi hg)) ?_
      exact E_iret k120_69 hd120 rfl (by rw [fCount_14])
    | 15, hjk =>
      cases hjk
      have eq1 : q = 15 := Int32.toInt_inj.mp (by rw [hx1]; rfl)
      subst eq1
      refine E_al0 k120_70 ?_
      refine E_get k120_71 hg.1 rfl ?_
      refine E_cv0 k120_72 (Or.inl rfl) (eqt (gw_t hg) tw_0) cl36 rfl rfl (rd_t (gw_t hg) s_tLength) ?_
      exact E_iret k120_73 hd120 rfl (by rw [fCount_15])
    | 16, hjk =>
      cases hjk
      have eq1 : q = 16 := Int32.toInt_inj.mp (by rw [hx1]; rfl)
      subst eq1
      refine E_al0 k120_74 ?_
      refine E_get k120_75 hg.1 rfl ?_
      refine E_cv0 k120_76 (Or.inl rfl) (eqw (gw_n hg) bw_0) cl72 rfl rfl (rd_w (gw_n hg) (s_cellsOwed (gw_ok hg).1.2.2.2.1)) ?_
      exact E_iret k120_77 hd120 rfl (by rw [fCount_16])
    | jj + 17, hjk => simp at hjk
  · skip
    refine E_bipush k120_78 ?_
    exact E_iret k120_79 hd120 rfl (by rw [fCount, if_neg (out_ne hx1 0 (by decide)), if_neg (out_ne hx1 1 (by decide)), if_neg (out_ne hx1 2 (by decide)), if_neg (out_ne hx1 3 (by decide)), if_neg (out_ne hx1 4 (by decide)), if_neg (out_ne hx1 5 (by decide)), if_neg (out_ne hx1 6 (by decide)), if_neg (out_ne hx1 7 (by decide)), if_neg (out_ne hx1 8 (by decide)), if_neg (out_ne hx1 9 (by decide)), if_neg (out_ne hx1 10 (by decide)), if_neg (out_ne hx1 11 (by decide)), if_neg (out_ne hx1 12 (by decide)), if_neg (out_ne hx1 13 (by decide)), if_neg (out_ne hx1 14 (by decide)), if_neg (out_ne hx1 15 (by decide)), if_neg (out_ne hx1 16 (by decide))])
