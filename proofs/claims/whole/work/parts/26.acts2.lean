/-! methods' runs, laid by wip/whole/walk.py out of wip/whole/specs12.py -/
theorem gw_p {w : az_W} {N P : az_S} {kp : Int32} {o n : Nat} {Hs : Nat → az_S} {ch pg tl : Nat → Int32} {m : Nat} {e : Int32} (h : GW w N P kp o n Hs ch pg tl m e) : bw w 25 P = w := bw_in h.2.2.1
theorem gw_m {w : az_W} {N P : az_S} {kp : Int32} {o n : Nat} {Hs : Nat → az_S} {ch pg tl : Nat → Int32} {m : Nat} {e : Int32} (h : GW w N P kp o n Hs ch pg tl m e) : m ≤ 60 := h.2.2.2.2.2.2.2.2.2.1
theorem gw_o {w : az_W} {N P : az_S} {kp : Int32} {o n : Nat} {Hs : Nat → az_S} {ch pg tl : Nat → Int32} {m : Nat} {e : Int32} (h : GW w N P kp o n Hs ch pg tl m e) : o < 4 := h.2.2.2.2.2.2.2.1
theorem gw_nn {w : az_W} {N P : az_S} {kp : Int32} {o n : Nat} {Hs : Nat → az_S} {ch pg tl : Nat → Int32} {m : Nat} {e : Int32} (h : GW w N P kp o n Hs ch pg tl m e) : n ≤ 4 := h.2.2.2.2.2.2.2.2.1
theorem GW_tw {w : az_W} {N P : az_S} {kp : Int32} {o n : Nat} {Hs : Nat → az_S} {ch pg tl ch2 pg2 tl2 : Nat → Int32} {m m2 : Nat} {e e2 : Int32} (h : GW w N P kp o n Hs ch pg tl m e) (hm : m2 ≤ 60) : GW (tw w 147 ch2 pg2 tl2 (nI m2) e2) N P kp o n Hs ch2 pg2 tl2 m2 e2 := by
  obtain ⟨h1, h2, h3, h4, h5, h6, h7, h8, h9, h10, h11⟩ := h
  exact ⟨(tw_out (Or.inl (by decide))).trans h1, fun k hk => (tw_out (Or.inl (by omega))).trans (h2 k hk), fun k hk => (tw_out (Or.inl (by omega))).trans (h3 k hk), (tw_out (Or.inl (by decide))).trans h4, (tw_out (Or.inl (by decide))).trans h5, fun i hi k hk => (tw_out (Or.inl (by omega))).trans (h6 i hi k hk), fun k hk => tw_at k hk, h8, h9, hm, h11⟩
/-- the desk after the first i entries -/
def tlS (pg tl : Nat → Int32) (N : az_S) : Nat → az_S
  | 0 => N
  | i + 1 => va_up (tlS pg tl N i) 5 (ixu 8 (tlS pg tl N i 5) (pg i) (tl i))
theorem fi_some {p : Nat → Bool} {n : Nat} (h : ¬ fi p n = -5) : ∃ j, j < n ∧ fi p n = nI j ∧ p j = true := by
  rcases fi_cases p n with ⟨j, hj, h1, -, h2⟩ | ⟨-, h2⟩
  · exact ⟨j, hj, h2, h1⟩
  · exact absurd h2 h
/-- what the text tells, and its fault -/
def tx (ch pg tl : Nat → Int32) (m : Nat) : tx_S := (scS ch (pg, tl, 0) (rfAt ch (pg, tl, 0) m)).2
theorem tx_le (ch pg tl : Nat → Int32) (m : Nat) : (tx ch pg tl m).2.2 ≤ 20 := scS_le (Nat.zero_le 20) _
def fWA (ch pg tl : Nat → Int32) (m : Nat) (N : az_S) : Int32 × Option az_S := if ¬ scF ch (pg, tl, 0) m = -1 then (-100 - scF ch (pg, tl, 0) m, none) else if ¬ N 12 4 = 0 then (-4, none) else (nI (tx ch pg tl m).2.2, some (tlS (tx ch pg tl m).1 (tx ch pg tl m).2.1 N (tx ch pg tl m).2.2))

set_option maxRecDepth 20000 in
theorem m_open {X : az_X} {w : az_W} {sz sl : Nat} {N P : az_S} {kp : Int32} {o n : Nat} {Hs : Nat → az_S} {ch pg tl : Nat → Int32} {m : Nat} {e : Int32}  (hg : GW w N P kp o n Hs ch pg tl m e) : az_M X 104 [.ref 0] w sz sl (some (.int ((fOpen N).1)), aw w o n N Hs (fOpen N).2, sz, sl) := by
  refine az_Mof hd104 ?_
  show az_Ev X 104 0 [.ref 0, .null] [] w sz sl _
  refine E_al0 k104_0 ?_
  refine E_get k104_1 hg.1 rfl ?_
  refine E_get k104_2 (eqw (gw_n hg) bw_0) rfl ?_
  refine E_cv0 k104_3 (Or.inl rfl) (eqw (gw_n hg) bw_13) cl50 rfl rfl (rd_w (gw_n hg) s_lowestFree) ?_
  refine E_is1 k104_4 rfl ?_
  refine E_il1 k104_5 ?_
  refine E_bipush k104_6 ?_
  refine E_icne k104_7 (fun c7 => ?_) (fun d7 => ?_)
  · skip
    obtain ⟨j, hj, hfi, -⟩ := fi_some c7
    rw [hfi]
    refine E_al0 k104_10 ?_
    refine E_get k104_11 hg.1 rfl ?_
    refine E_al0 k104_12 ?_
    refine E_get k104_13 hg.1 rfl ?_
    refine E_cv1 k104_14 (Or.inl rfl) (gw_hi hg) cl33 rfl rfl (s_rec hg) ?_
    refine E_al0 k104_15 ?_
    refine E_get k104_16 (rec_main hg) rfl ?_
    refine E_get k104_17 (eqw (rec_now hg) bw_0) rfl ?_
    refine E_il1 k104_18 ?_
    refine E_al0 k104_19 ?_
    refine E_get k104_20 (rec_main hg) rfl ?_
    refine E_cv0 k104_21 (Or.inl rfl) (eqw (rec_now hg) bw_0) cl64 rfl rfl (rd_w (rec_now hg) s_oldGeneration) ?_
    refine E_cv2 k104_22 (Or.inl rfl) (eqw (rec_now hg) bw_13) cl53 rfl rfl (wr_w (rec_now hg) (s_adm hj (gw_ok hg).1)) ?_
    refine E_il1 k104_23 ?_
    exact E_iret k104_24 hd104 rfl (by rw [fOpen, if_neg c7, hfi, nI_clamp (by omega)]; rfl)
  · skip
    refine E_bipush k104_8 ?_
    exact E_iret k104_9 hd104 rfl (by rw [fOpen, if_pos (Classical.not_not.mp d7)]; rfl)
set_option maxRecDepth 20000 in
theorem m_type {X : az_X} {w : az_W} {sz sl : Nat} {N P : az_S} {kp : Int32} {o n : Nat} {Hs : Nat → az_S} {ch pg tl : Nat → Int32} {m : Nat} {e : Int32} {c : Int32} (hg : GW w N P kp o n Hs ch pg tl m e) : az_M X 106 [.ref 0, .int c] w sz sl (if m = 60 then (some (.int (-3)), w, sz, sl) else (some (.int (nI (m + 1))), tw w 147 (upd ch m (az_nr 1 c)) pg tl (nI (m + 1)) e, sz, sl)) := by
  refine az_Mof hd106 ?_
  show az_Ev X 106 0 [.ref 0, .int c] [] w sz sl _
  refine E_al0 k106_0 ?_
  refine E_get k106_1 hg.1 rfl ?_
  refine E_cv0 k106_2 (Or.inl rfl) (eqt (gw_t hg) tw_0) cl37 rfl rfl (rd_t (gw_t hg) (s_tFull (gw_m hg))) ?_
  refine E_zeq k106_3 (fun c3 => ?_) (fun d3 => ?_)
  · skip
    have hm := gw_m hg
    have hne := of_decide_eq_false c3
    have hlt : m < 60 := by omega
    refine E_al0 k106_6 ?_
    refine E_get k106_7 hg.1 rfl ?_
    refine E_il1 k106_8 ?_
    refine E_cv1 k106_9 (Or.inl rfl) (eqt (gw_t hg) tw_0) cl38 rfl rfl (wr_t (gw_t hg) (s_tAppend hlt)) ?_
    refine E_al0 k106_10 ?_
    refine E_get k106_11 ((tw_out (Or.inl (by decide))).trans hg.1) rfl ?_
    refine E_cv0 k106_12 (Or.inl rfl) tw_0 cl36 rfl rfl s_tLength ?_
    exact E_iret k106_13 hd106 rfl (by rw [if_neg hne])
  · skip
    have heq := of_decide_eq_true d3
    refine E_bipush k106_4 ?_
    exact E_iret k106_5 hd106 rfl (by rw [if_pos heq])
set_option maxRecDepth 20000 in
theorem m_clearText {X : az_X} {w : az_W} {sz sl : Nat} {N P : az_S} {kp : Int32} {o n : Nat} {Hs : Nat → az_S} {ch pg tl : Nat → Int32} {m : Nat} {e : Int32} (hg : GW w N P kp o n Hs ch pg tl m e) : az_M X 107 [.ref 0] w sz sl (some (.int (nI m)), tw w 147 ch pg tl 0 e, sz, sl) := by
  refine az_Mof hd107 ?_
  show az_Ev X 107 0 [.ref 0, .null] [] w sz sl _
  refine E_al0 k107_0 ?_
  refine E_get k107_1 hg.1 rfl ?_
  refine E_cv0 k107_2 (Or.inl rfl) (eqt (gw_t hg) tw_0) cl36 rfl rfl (rd_t (gw_t hg) s_tLength) ?_
  refine E_is1 k107_3 rfl ?_
  refine E_al0 k107_4 ?_
  refine E_get k107_5 hg.1 rfl ?_
  refine E_cv0 k107_6 (Or.inl rfl) (eqt (gw_t hg) tw_0) cl39 rfl rfl (wr_t (gw_t hg) s_tEmpty) ?_
  refine E_il1 k107_7 ?_
  exact E_iret k107_8 hd107 rfl rfl
set_option maxRecDepth 20000 in
theorem m_undo0 {X : az_X} {w : az_W} {sz sl : Nat} {N P : az_S} {kp : Int32} {o : Nat} {Hs : Nat → az_S} {ch pg tl : Nat → Int32} {m : Nat} {e : Int32} (hg : GW w N P kp o 0 Hs ch pg tl m e) : az_M X 108 [.ref 0] w sz sl (some (.int (-5)), w, sz, sl) := by
  refine az_Mof hd108 ?_
  show az_Ev X 108 0 [.ref 0] [] w sz sl _
  refine E_al0 k108_0 ?_
  refine E_get k108_1 hg.1 rfl ?_
  refine E_cv0 k108_2 (Or.inl rfl) (gw_hi hg) cl32 rfl rfl (s_states (gw_hi hg)) ?_
  refine E_ifne k108_3 (fun c3 => ?_) (fun d3 => ?_)
  · skip
    exact absurd rfl c3
  · skip
    refine E_bipush k108_4 ?_
    exact E_iret k108_5 hd108 rfl rfl
set_option maxRecDepth 20000 in
theorem m_undoS {X : az_X} {w : az_W} {sz sl : Nat} {N P : az_S} {kp : Int32} {o k : Nat} {Hs : Nat → az_S} {ch pg tl : Nat → Int32} {m : Nat} {e : Int32} (hg : GW w N P kp o (k + 1) Hs ch pg tl m e) : az_M X 108 [.ref 0] w sz sl (some (.int (nI k)), bw (va_up w 49 (.inr (3, [.ref 50, .int (nI o), .int (nI k)]))) 1 (dCp (Hs ((o + k) % 4)) N), sz, sl) := by
  refine az_Mof hd108 ?_
  show az_Ev X 108 0 [.ref 0] [] w sz sl _
  refine E_al0 k108_0 ?_
  refine E_get k108_1 hg.1 rfl ?_
  refine E_cv0 k108_2 (Or.inl rfl) (gw_hi hg) cl32 rfl rfl (s_states (gw_hi hg)) ?_
  refine E_ifne k108_3 (fun c3 => ?_) (fun d3 => ?_)
  · skip
    refine E_al0 k108_6 ?_
    refine E_get k108_7 hg.1 rfl ?_
    refine E_al0 k108_8 ?_
    refine E_get k108_9 hg.1 rfl ?_
    refine E_cv1 k108_10 (Or.inl rfl) (gw_hi hg) cl34 rfl rfl (s_takeLatest (gw_hi hg) hg.2.2.2.2.1 (gw_o hg) (Nat.lt_of_succ_le (gw_nn hg)) (hg.2.2.2.2.2.1 _ (Nat.mod_lt _ (by decide))) hg.2.1 (Or.inl (by decide)) (Or.inl (by decide)) (Or.inr (by decide)) (by decide) (hg.2.2.2.2.2.2.2.2.2.2.2.2.2 _ (Nat.mod_lt _ (by decide))).1) ?_
    refine E_al0 k108_11 ?_
    refine E_get k108_12 ((bw_out (Or.inl (by decide))).trans (up_ne hg.1 (by decide))) rfl ?_
    refine E_cv0 k108_13 (Or.inl rfl) ((bw_out (Or.inr (by decide))).trans up_eq) cl32 rfl rfl (s_states ((bw_out (Or.inr (by decide))).trans up_eq)) ?_
    exact E_iret k108_14 hd108 rfl rfl
  · skip
    exact absurd (Classical.not_not.mp d3) (nI_ne0 (Nat.succ_pos k) (by have := gw_nn hg; omega))
set_option maxRecDepth 20000 in
theorem m_keep {X : az_X} {w : az_W} {sz sl : Nat} {N P : az_S} {kp : Int32} {o n : Nat} {Hs : Nat → az_S} {ch pg tl : Nat → Int32} {m : Nat} {e : Int32} (hg : GW w N P kp o n Hs ch pg tl m e) : az_M X 109 [.ref 0] w sz sl (some (.int (gN N)), (va_up (bw w 25 (dCp N P)) 0 (.inr (8, List.set [.ref 1, .ref 25, .ref 49, .ref 147, .int kp] 4 (.int 1)))), sz, sl) := by
  refine az_Mof hd109 ?_
  show az_Ev X 109 0 [.ref 0] [] w sz sl _
  refine E_al0 k109_0 ?_
  refine E_get k109_1 hg.1 rfl ?_
  refine E_al0 k109_2 ?_
  refine E_get k109_3 hg.1 rfl ?_
  refine E_cv1 k109_4 (Or.inl rfl) (eqw (gw_p hg) bw_0) cl82 rfl rfl (wr_w (gw_p hg) (s_stateCopy hg.2.1 (by omega) (gw_ok hg).1)) ?_
  refine E_al0 k109_5 ?_
  refine E_iconst k109_6 ?_
  refine E_put k109_7 ((bw_out (Or.inl (by decide))).trans hg.1) (Nat.le_of_ble_eq_true rfl) (az_fitb (Or.inr rfl)) ?_
  have hN3 : bw (va_up (bw w 25 (dCp N P)) 0 (.inr (8, List.set [.ref 1, .ref 25, .ref 49, .ref 147, .int kp] 4 (.int 1)))) 1 N = (va_up (bw w 25 (dCp N P)) 0 (.inr (8, List.set [.ref 1, .ref 25, .ref 49, .ref 147, .int kp] 4 (.int 1)))) := bw_in (fun k hk => up_ne ((bw_out (by omega)).trans (hg.2.1 k hk)) (by omega))
  refine E_al0 k109_8 ?_
  refine E_get k109_9 up_eq rfl ?_
  refine E_cv0 k109_10 (Or.inl rfl) (eqw hN3 bw_0) cl64 rfl rfl (rd_w hN3 s_oldGeneration) ?_
  refine E_cv0 k109_11 (Or.inl rfl) (eqw hN3 (bw_tA _)) cl22 rfl rfl (rd_w hN3 (s_gNumber (bw_tA _))) ?_
  exact E_iret k109_12 hd109 rfl rfl
set_option maxRecDepth 20000 in
theorem m_writeAll {X : az_X} {w : az_W} {sz sl : Nat} {N P : az_S} {kp : Int32} {o n : Nat} {Hs : Nat → az_S} {ch pg tl : Nat → Int32} {m : Nat} {e : Int32} (hg : GW w N P kp o n Hs ch pg tl m e) : az_M X 97 [.ref 0] w sz sl (some (.int ((fWA ch pg tl m N).1)), aw (tw w 147 ch (tx ch pg tl m).1 (tx ch pg tl m).2.1 (nI m) (nI (tx ch pg tl m).2.2)) o n N Hs (fWA ch pg tl m N).2, sz, sl) := by
  refine az_Mof hd97 ?_
  show az_Ev X 97 0 [.ref 0, .null, .null, .null] [] w sz sl _
  refine E_al0 k97_0 ?_
  refine E_get k97_1 hg.1 rfl ?_
  refine E_cv0 k97_2 (Or.inl rfl) (eqt (gw_t hg) tw_0) cl43 rfl rfl (wr_t (gw_t hg) (s_scan (gw_m hg))) ?_
  have hg2 : GW (tw w 147 ch (tx ch pg tl m).1 (tx ch pg tl m).2.1 (nI m) (nI (tx ch pg tl m).2.2)) N P kp o n Hs ch (tx ch pg tl m).1 (tx ch pg tl m).2.1 m (nI (tx ch pg tl m).2.2) := GW_tw hg (gw_m hg)
  have hE := tx_le ch pg tl m
  refine E_is1 k97_3 rfl ?_
  refine E_il1 k97_4 ?_
  refine E_iconst k97_5 ?_
  refine E_iceq k97_6 (fun c6 => ?_) (fun d6 => ?_)
  · skip
    have hF := c6
    refine E_al0 k97_11 ?_
    refine E_get k97_12 hg2.1 rfl ?_
    refine E_get k97_13 (eqw (gw_n hg2) bw_0) rfl ?_
    refine E_cv0 k97_14 (Or.inl rfl) (eqw (gw_n hg2) bw_11) cl84 rfl rfl (rd_w (gw_n hg2) (s_goesOn (gw_ok hg2).1.2.2.2.1)) ?_
    refine E_ifeq k97_15 (fun c15 => ?_) (fun d15 => ?_)
    · skip
      refine E_al0 k97_18 ?_
      refine E_get k97_19 hg2.1 rfl ?_
      refine E_al0 k97_20 ?_
      refine E_get k97_21 hg2.1 rfl ?_
      refine E_cv1 k97_22 (Or.inl rfl) (gw_hi hg2) cl33 rfl rfl (s_rec hg2) ?_
      refine E_al0 k97_23 ?_
      refine E_get k97_24 (rec_main hg2) rfl ?_
      refine E_cv0 k97_25 (Or.inl rfl) (eqt (rec_text hg2) tw_0) cl40 rfl rfl (rd_t (rec_text hg2) s_tEntries) ?_
      refine E_is2 k97_26 rfl ?_
      refine E_iconst k97_27 ?_
      refine E_is3 k97_28 rfl ?_
      have loop29 : ∀ j : Nat, j ≤ (tx ch pg tl m).2.2 → az_Ev X 97 29 [.ref 0, .int (-1), .int (nI (tx ch pg tl m).2.2), .int (nI j)] [] (bw (recW (tw w 147 ch (tx ch pg tl m).1 (tx ch pg tl m).2.1 (nI m) (nI (tx ch pg tl m).2.2)) o n N (Hs ((o + n) % 4))) 1 (tlS (tx ch pg tl m).1 (tx ch pg tl m).2.1 N j)) sz sl (some (.int ((fWA ch pg tl m N).1)), aw (tw w 147 ch (tx ch pg tl m).1 (tx ch pg tl m).2.1 (nI m) (nI (tx ch pg tl m).2.2)) o n N Hs (fWA ch pg tl m N).2, sz, sl) := by
        refine az_ind (tx ch pg tl m).2.2 _ (fun j hj29 ih29 => ?_)
        have hT : ∀ j, tw (bw (recW (tw w 147 ch (tx ch pg tl m).1 (tx ch pg tl m).2.1 (nI m) (nI (tx ch pg tl m).2.2)) o n N (Hs ((o + n) % 4))) 1 (tlS (tx ch pg tl m).1 (tx ch pg tl m).2.1 N j)) 147 ch (tx ch pg tl m).1 (tx ch pg tl m).2.1 (nI m) (nI (tx ch pg tl m).2.2) = (bw (recW (tw w 147 ch (tx ch pg tl m).1 (tx ch pg tl m).2.1 (nI m) (nI (tx ch pg tl m).2.2)) o n N (Hs ((o + n) % 4))) 1 (tlS (tx ch pg tl m).1 (tx ch pg tl m).2.1 N j)) := fun j => tw_in (fun k hk => (bw_out (Or.inr (by omega))).trans ((rec_out hg2 (Or.inr (by omega))).trans (hg2.2.2.2.2.2.2.1 k hk)))
        refine E_il3 k97_29 ?_
        refine E_il2 k97_30 ?_
        refine E_icge k97_31 (fun c31 => ?_) (fun d31 => ?_)
        · skip
          have he29 := lp_t hj29 (by omega) rfl c31
          subst he29
          refine E_il2 k97_46 ?_
          exact E_iret k97_47 hd97 rfl (by rw [fWA, if_neg (fun z => z hF), if_neg (fun z => z c15)]; rfl)
        · skip
          have hlt29 := lp_f (by omega) (by omega) rfl d31
          refine E_al0 k97_32 ?_
          refine E_get k97_33 ((bw_out (Or.inl (by decide))).trans (rec_main hg2)) rfl ?_
          refine E_get k97_34 bw_0 rfl ?_
          refine E_al0 k97_35 ?_
          refine E_get k97_36 ((bw_out (Or.inl (by decide))).trans (rec_main hg2)) rfl ?_
          refine E_il3 k97_37 ?_
          refine E_cv1 k97_38 (Or.inl rfl) (eqt (hT j) tw_0) cl41 rfl rfl (rd_t (hT j) (s_pageOfEntry (by omega))) ?_
          refine E_al0 k97_39 ?_
          refine E_get k97_40 ((bw_out (Or.inl (by decide))).trans (rec_main hg2)) rfl ?_
          refine E_il3 k97_41 ?_
          refine E_cv1 k97_42 (Or.inl rfl) (eqt (hT j) tw_0) cl42 rfl rfl (rd_t (hT j) (s_toldByEntry (by omega))) ?_
          refine E_cv2 k97_43 (Or.inl rfl) bw_9 cl15 rfl rfl s_tellB ?_
          refine E_inc3 k97_44 rfl ?_
          refine E_goto k97_45 ?_
          exact ev_cong (ih29 hlt29) (by rw [nI_1]) rfl rfl
      exact ev_cong (loop29 0 (Nat.zero_le _)) (by first | rfl | (rw [← hF]; rfl)) rfl (rec_now hg2).symm
    · skip
      refine E_bipush k97_16 ?_
      exact E_iret k97_17 hd97 rfl (by rw [fWA, if_neg (fun z => z c6), if_pos d15]; rfl)
  · skip
    refine E_bipush k97_7 ?_
    refine E_il1 k97_8 ?_
    refine E_isub k97_9 ?_
    exact E_iret k97_10 hd97 rfl (by rw [fWA, if_pos d6]; rfl)
