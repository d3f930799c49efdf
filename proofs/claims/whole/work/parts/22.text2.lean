/-! methods' runs, laid by wip/whole/walk.py out of wip/whole/specs8.py -/
theorem scF_hit {ch : Nat → Int32} {t0 : tx_S} {n j : Nat} (h : rfAt ch t0 n = j) (hj : j < n) : scF ch t0 n = nI j := by
  unfold scF
  simp only [h, if_pos hj]
theorem scF_none {ch : Nat → Int32} {t0 : tx_S} {n : Nat} (h : rfAt ch t0 n = n) : scF ch t0 n = if okE (scS ch t0 n).1 = true then -1 else nI n := by
  unfold scF
  simp only [h, if_neg (Nat.lt_irrefl n)]

set_option maxRecDepth 20000 in
theorem s_addDigit0 {X : az_X} {w : az_W} {sz sl : Nat} {p : Nat} {ch pg tl : Nat → Int32} {n x : Int32}  : az_M X 47 [.ref p, .int x] (tw w p ch pg tl n (nI 0)) sz sl (none, (tw w p ch pg tl n (nI 0)), sz, sl) := by
  refine az_Mof hd47 ?_
  show az_Ev X 47 0 [.ref p, .int x, .null] [] (tw w p ch pg tl n (nI 0)) sz sl _
  refine E_al0 k47_0 ?_
  refine E_get k47_1 tw_0 rfl ?_
  refine E_iconst k47_2 ?_
  refine E_isub k47_3 ?_
  refine E_is2 k47_4 rfl ?_
  refine E_il2 k47_5 ?_
  refine E_iflt k47_6 (fun c6 => ?_) (fun d6 => ?_)
  · skip
    exact E_vret k47_30 hd47 rfl rfl
  · skip
    exact absurd (show nI 0 - 1 < 0 by decide) d6
set_option maxRecDepth 20000 in
theorem s_addDigitS {X : az_X} {w : az_W} {sz sl : Nat} {p m : Nat} {ch pg tl : Nat → Int32} {n x : Int32} (hm : m < 20) : az_M X 47 [.ref p, .int x] (tw w p ch pg tl n (nI (m + 1))) sz sl (none, (tw w p ch pg (upd tl m (if ¬ tl m = -5 then tl m * 10 + x else x)) n (nI (m + 1))), sz, sl) := by
  refine az_Mof hd47 ?_
  show az_Ev X 47 0 [.ref p, .int x, .null] [] (tw w p ch pg tl n (nI (m + 1))) sz sl _
  refine E_al0 k47_0 ?_
  refine E_get k47_1 tw_0 rfl ?_
  refine E_iconst k47_2 ?_
  refine E_isub k47_3 ?_
  rw [nI_pred]
  refine E_is2 k47_4 rfl ?_
  refine E_il2 k47_5 ?_
  refine E_iflt k47_6 (fun c6 => ?_) (fun d6 => ?_)
  · skip
    exact absurd c6 (nI_pos (by omega))
  · skip
    refine E_il2 k47_7 ?_
    refine E_bipush k47_8 ?_
    refine E_icge k47_9 (fun c9 => ?_) (fun d9 => ?_)
    · skip
      exact absurd ((nI_leI (by decide) (by omega)).mp (show nI 20 ≤ nI m from c9)) (by omega)
    · skip
      refine E_al0 k47_10 ?_
      refine E_get k47_11 tw_0 rfl ?_
      refine E_il2 k47_12 ?_
      refine E_al0 k47_13 ?_
      refine E_get k47_14 tw_0 rfl ?_
      refine E_il2 k47_15 ?_
      refine E_ald k47_16 rfl tw_3 hm (by decide) ?_
      refine E_bipush k47_17 ?_
      refine E_icne k47_18 (fun c18 => ?_) (fun d18 => ?_)
      · skip
        refine E_al0 k47_21 ?_
        refine E_get k47_22 tw_0 rfl ?_
        refine E_il2 k47_23 ?_
        refine E_ald k47_24 rfl tw_3 hm (by decide) ?_
        refine E_bipush k47_25 ?_
        refine E_imul k47_26 ?_
        refine E_il1 k47_27 ?_
        refine E_iadd k47_28 ?_
        refine E_iast k47_29 tw_3 hm (by decide) ?_
        rw [tu_3]
        exact E_vret k47_30 hd47 rfl (by first | (rw [if_pos c18]; done) | rw [if_neg d18])
      · skip
        refine E_il1 k47_19 ?_
        refine E_goto k47_20 ?_
        refine E_iast k47_29 tw_3 hm (by decide) ?_
        rw [tu_3]
        exact E_vret k47_30 hd47 rfl (by first | (rw [if_pos c18]; done) | rw [if_neg d18])
theorem s_addDigit {X : az_X} {w : az_W} {sz sl : Nat} {p : Nat} {ch : Nat → Int32} {t : tx_S} {n x : Int32} (ht : t.2.2 ≤ 20) : az_M X 47 [.ref p, .int x] (tw w p ch t.1 t.2.1 n (nI t.2.2)) sz sl (none, (tw w p ch (adD t x).1 (adD t x).2.1 n (nI (adD t x).2.2)), sz, sl) := by
  obtain ⟨t1, t2, te⟩ := t
  cases te with
  | zero => exact s_addDigit0
  | succ m => exact s_addDigitS (Nat.lt_of_succ_le ht)
set_option maxRecDepth 20000 in
theorem s_dueB10 {X : az_X} {w : az_W} {sz sl : Nat} {d c : Int32}  : az_Ev X 44 10 [.int d, .int c, .int (zb (dgB c))] [] w sz sl (some (.int (dueB d c)), w, sz, sl) := by
  refine E_il0 k44_10 ?_
  refine E_sw k44_11 (by decide) (fun jj kk hjk hx11 => ?_) (fun hx11 => ?_)
  · match jj, hjk with
    | 0, hjk =>
      cases hjk
      have ed : d = 0 := Int32.toInt_inj.mp (by rw [hx11]; rfl)
      subst ed
      rw [dueB_0]
      refine E_il1 k44_12 ?_
      refine E_bipush k44_13 ?_
      refine E_iclt k44_14 (fun c14 => ?_) (fun d14 => ?_)
      · skip
        refine E_bipush k44_20 ?_
        exact E_iret k44_21 hd44 rfl (by first | (rw [if_pos c14]; done) | (rw [if_neg d14, if_pos c17]; done) | (rw [if_neg d14, if_neg d17]; done))
      · skip
        refine E_il1 k44_15 ?_
        refine E_bipush k44_16 ?_
        refine E_icgt k44_17 (fun c17 => ?_) (fun d17 => ?_)
        · skip
          refine E_bipush k44_20 ?_
          exact E_iret k44_21 hd44 rfl (by first | (rw [if_pos c14]; done) | (rw [if_neg d14, if_pos c17]; done) | (rw [if_neg d14, if_neg d17]; done))
        · skip
          refine E_iconst k44_18 ?_
          refine E_goto k44_19 ?_
          exact E_iret k44_21 hd44 rfl (by first | (rw [if_pos c14]; done) | (rw [if_neg d14, if_pos c17]; done) | (rw [if_neg d14, if_neg d17]; done))
    | 1, hjk =>
      cases hjk
      have ed : d = 1 := Int32.toInt_inj.mp (by rw [hx11]; rfl)
      subst ed
      rw [dueB_1]
      refine E_il1 k44_22 ?_
      refine E_bipush k44_23 ?_
      refine E_icne k44_24 (fun c24 => ?_) (fun d24 => ?_)
      · skip
        refine E_il1 k44_27 ?_
        refine E_bipush k44_28 ?_
        refine E_icne k44_29 (fun c29 => ?_) (fun d29 => ?_)
        · skip
          refine E_bipush k44_32 ?_
          exact E_iret k44_33 hd44 rfl (by first | (rw [if_pos c24, if_pos c29]; done) | (rw [if_pos c24, if_neg d29]; done) | (rw [if_neg d24]; done))
        · skip
          refine E_iconst k44_30 ?_
          refine E_goto k44_31 ?_
          exact E_iret k44_33 hd44 rfl (by first | (rw [if_pos c24, if_pos c29]; done) | (rw [if_pos c24, if_neg d29]; done) | (rw [if_neg d24]; done))
      · skip
        refine E_iconst k44_25 ?_
        refine E_goto k44_26 ?_
        exact E_iret k44_33 hd44 rfl (by first | (rw [if_pos c24, if_pos c29]; done) | (rw [if_pos c24, if_neg d29]; done) | (rw [if_neg d24]; done))
    | 2, hjk =>
      cases hjk
      have ed : d = 2 := Int32.toInt_inj.mp (by rw [hx11]; rfl)
      subst ed
      rw [dueB_2]
      refine E_il1 k44_34 ?_
      refine E_bipush k44_35 ?_
      refine E_icne k44_36 (fun c36 => ?_) (fun d36 => ?_)
      · skip
        refine E_il2 k44_39 ?_
        refine E_zeq k44_40 (fun c40 => ?_) (fun d40 => ?_)
        · skip
          refine E_bipush k44_43 ?_
          exact E_iret k44_44 hd44 rfl (by first | (rw [if_neg d36]; done) | (rw [if_pos c36, if_pos d40]; done) | (rw [if_pos c36, c40]; rfl))
        · skip
          refine E_iconst k44_41 ?_
          refine E_goto k44_42 ?_
          exact E_iret k44_44 hd44 rfl (by first | (rw [if_neg d36]; done) | (rw [if_pos c36, if_pos d40]; done) | (rw [if_pos c36, c40]; rfl))
      · skip
        refine E_iconst k44_37 ?_
        refine E_goto k44_38 ?_
        exact E_iret k44_44 hd44 rfl (by first | (rw [if_neg d36]; done) | (rw [if_pos c36, if_pos d40]; done) | (rw [if_pos c36, c40]; rfl))
    | 3, hjk =>
      cases hjk
      have ed : d = 3 := Int32.toInt_inj.mp (by rw [hx11]; rfl)
      subst ed
      rw [dueB_3]
      refine E_il2 k44_45 ?_
      refine E_zeq k44_46 (fun c46 => ?_) (fun d46 => ?_)
      · skip
        refine E_il1 k44_49 ?_
        refine E_bipush k44_50 ?_
        refine E_icne k44_51 (fun c51 => ?_) (fun d51 => ?_)
        · skip
          refine E_bipush k44_54 ?_
          exact E_iret k44_55 hd44 rfl (by first | (rw [if_pos d46]; done) | (rw [c46]; simp only [if_pos c51]; rfl) | (rw [c46]; simp only [if_neg d51]; rfl))
        · skip
          refine E_iconst k44_52 ?_
          refine E_goto k44_53 ?_
          exact E_iret k44_55 hd44 rfl (by first | (rw [if_pos d46]; done) | (rw [c46]; simp only [if_pos c51]; rfl) | (rw [c46]; simp only [if_neg d51]; rfl))
      · skip
        refine E_iconst k44_47 ?_
        refine E_goto k44_48 ?_
        exact E_iret k44_55 hd44 rfl (by first | (rw [if_pos d46]; done) | (rw [c46]; simp only [if_pos c51]; rfl) | (rw [c46]; simp only [if_neg d51]; rfl))
    | 4, hjk =>
      cases hjk
      have ed : d = 4 := Int32.toInt_inj.mp (by rw [hx11]; rfl)
      subst ed
      rw [dueB_4]
      refine E_il2 k44_56 ?_
      refine E_zeq k44_57 (fun c57 => ?_) (fun d57 => ?_)
      · skip
        refine E_il1 k44_60 ?_
        refine E_bipush k44_61 ?_
        refine E_icne k44_62 (fun c62 => ?_) (fun d62 => ?_)
        · skip
          refine E_bipush k44_65 ?_
          exact E_iret k44_66 hd44 rfl (by first | (rw [if_pos d57]; done) | (rw [c57]; simp only [if_pos c62]; rfl) | (rw [c57]; simp only [if_neg d62]; rfl))
        · skip
          refine E_iconst k44_63 ?_
          refine E_goto k44_64 ?_
          exact E_iret k44_66 hd44 rfl (by first | (rw [if_pos d57]; done) | (rw [c57]; simp only [if_pos c62]; rfl) | (rw [c57]; simp only [if_neg d62]; rfl))
      · skip
        refine E_iconst k44_58 ?_
        refine E_goto k44_59 ?_
        exact E_iret k44_66 hd44 rfl (by first | (rw [if_pos d57]; done) | (rw [c57]; simp only [if_pos c62]; rfl) | (rw [c57]; simp only [if_neg d62]; rfl))
    | jj + 5, hjk => simp at hjk
  · skip
    rw [dueB_x hx11]
    refine E_il1 k44_67 ?_
    refine E_bipush k44_68 ?_
    refine E_icne k44_69 (fun c69 => ?_) (fun d69 => ?_)
    · skip
      refine E_bipush k44_72 ?_
      exact E_iret k44_73 hd44 rfl (by first | (rw [if_pos c69]; done) | (rw [if_neg d69]; done))
    · skip
      refine E_iconst k44_70 ?_
      refine E_goto k44_71 ?_
      exact E_iret k44_73 hd44 rfl (by first | (rw [if_pos c69]; done) | (rw [if_neg d69]; done))
set_option maxRecDepth 20000 in
theorem s_dueBehind {X : az_X} {w : az_W} {sz sl : Nat} {d c : Int32}  : az_M X 44 [.int d, .int c] w sz sl (some (.int (dueB d c)), w, sz, sl) := by
  refine az_Mof hd44 ?_
  show az_Ev X 44 0 [.int d, .int c, .null] [] w sz sl _
  refine E_il1 k44_0 ?_
  refine E_bipush k44_1 ?_
  refine E_iclt k44_2 (fun c2 => ?_) (fun d2 => ?_)
  · skip
    refine E_iconst k44_8 ?_
    refine E_is2 k44_9 rfl ?_
    exact ev_cong s_dueB10 (by first | (rw [dgB, if_pos c2]; rfl) | (rw [dgB, if_neg d2, if_pos c5]; rfl) | (rw [dgB, if_neg d2, if_neg d5]; rfl)) rfl rfl
  · skip
    refine E_il1 k44_3 ?_
    refine E_bipush k44_4 ?_
    refine E_icgt k44_5 (fun c5 => ?_) (fun d5 => ?_)
    · skip
      refine E_iconst k44_8 ?_
      refine E_is2 k44_9 rfl ?_
      exact ev_cong s_dueB10 (by first | (rw [dgB, if_pos c2]; rfl) | (rw [dgB, if_neg d2, if_pos c5]; rfl) | (rw [dgB, if_neg d2, if_neg d5]; rfl)) rfl rfl
    · skip
      refine E_iconst k44_6 ?_
      refine E_goto k44_7 ?_
      refine E_is2 k44_9 rfl ?_
      exact ev_cong s_dueB10 (by first | (rw [dgB, if_pos c2]; rfl) | (rw [dgB, if_neg d2, if_pos c5]; rfl) | (rw [dgB, if_neg d2, if_neg d5]; rfl)) rfl rfl
set_option maxRecDepth 20000 in
theorem s_note {X : az_X} {w : az_W} {sz sl : Nat} {p : Nat} {ch : Nat → Int32} {t : tx_S} {n d c : Int32} (ht : t.2.2 ≤ 20) : az_M X 45 [.ref p, .int d, .int c] (tw w p ch t.1 t.2.1 n (nI t.2.2)) sz sl (none, (tw w p ch (ntC t d c).1 (ntC t d c).2.1 n (nI (ntC t d c).2.2)), sz, sl) := by
  refine az_Mof hd45 ?_
  show az_Ev X 45 0 [.ref p, .int d, .int c] [] (tw w p ch t.1 t.2.1 n (nI t.2.2)) sz sl _
  refine E_il1 k45_0 ?_
  refine E_ifne k45_1 (fun c1 => ?_) (fun d1 => ?_)
  · skip
    refine E_il2 k45_8 ?_
    refine E_bipush k45_9 ?_
    refine E_iclt k45_10 (fun c10 => ?_) (fun d10 => ?_)
    · skip
      exact E_vret k45_19 hd45 rfl (by first | (rw [ntC, if_neg c1, dgB, if_pos c10]; rfl) | (rw [ntC, if_neg c1, dgB, if_neg d10, if_pos c13]; rfl) | (rw [ntC, if_neg c1, dgB, if_neg d10, if_neg d13]; rfl) | (rw [ntC, if_pos (Classical.not_not.mp d1)]))
    · skip
      refine E_il2 k45_11 ?_
      refine E_bipush k45_12 ?_
      refine E_icgt k45_13 (fun c13 => ?_) (fun d13 => ?_)
      · skip
        exact E_vret k45_19 hd45 rfl (by first | (rw [ntC, if_neg c1, dgB, if_pos c10]; rfl) | (rw [ntC, if_neg c1, dgB, if_neg d10, if_pos c13]; rfl) | (rw [ntC, if_neg c1, dgB, if_neg d10, if_neg d13]; rfl) | (rw [ntC, if_pos (Classical.not_not.mp d1)]))
      · skip
        refine E_al0 k45_14 ?_
        refine E_il2 k45_15 ?_
        refine E_bipush k45_16 ?_
        refine E_isub k45_17 ?_
        refine E_cv1 k45_18 (Or.inl rfl) tw_0 cl47 rfl rfl (s_addDigit ht) ?_
        exact E_vret k45_19 hd45 rfl (by first | (rw [ntC, if_neg c1, dgB, if_pos c10]; rfl) | (rw [ntC, if_neg c1, dgB, if_neg d10, if_pos c13]; rfl) | (rw [ntC, if_neg c1, dgB, if_neg d10, if_neg d13]; rfl) | (rw [ntC, if_pos (Classical.not_not.mp d1)]))
  · skip
    refine E_al0 k45_2 ?_
    refine E_il2 k45_3 ?_
    refine E_bipush k45_4 ?_
    refine E_isub k45_5 ?_
    refine E_cv1 k45_6 (Or.inl rfl) tw_0 cl46 rfl rfl (s_startEntry ht) ?_
    refine E_goto k45_7 ?_
    exact E_vret k45_19 hd45 rfl (by first | (rw [ntC, if_neg c1, dgB, if_pos c10]; rfl) | (rw [ntC, if_neg c1, dgB, if_neg d10, if_pos c13]; rfl) | (rw [ntC, if_neg c1, dgB, if_neg d10, if_neg d13]; rfl) | (rw [ntC, if_pos (Classical.not_not.mp d1)]))
set_option maxRecDepth 20000 in
theorem s_scan {X : az_X} {w : az_W} {sz sl : Nat} {p m : Nat} {ch pg tl : Nat → Int32} {e : Int32} (hm : m ≤ 60) : az_M X 43 [.ref p] (tw w p ch pg tl (nI m) e) sz sl (some (.int (scF ch (pg, tl, 0) m)), (tw w p ch (scS ch (pg, tl, 0) (rfAt ch (pg, tl, 0) m)).2.1 (scS ch (pg, tl, 0) (rfAt ch (pg, tl, 0) m)).2.2.1 (nI m) (nI (scS ch (pg, tl, 0) (rfAt ch (pg, tl, 0) m)).2.2.2)), sz, sl) := by
  refine az_Mof hd43 ?_
  show az_Ev X 43 0 [.ref p, .null, .null, .null] [] (tw w p ch pg tl (nI m) e) sz sl _
  refine E_al0 k43_0 ?_
  refine E_iconst k43_1 ?_
  refine E_put k43_2 tw_0 (Nat.le_of_ble_eq_true rfl) (az_fiti rfl) ?_
  rw [tn_4]
  refine E_iconst k43_3 ?_
  refine E_is1 k43_4 rfl ?_
  refine E_iconst k43_5 ?_
  refine E_is2 k43_6 rfl ?_
  have loop7 : ∀ j : Nat, j ≤ m → ∀ z : Value, (∀ i, i < j → ¬ dueB (scS ch (pg, tl, 0) i).1 (ch i) = 6) → az_Ev X 43 7 [.ref p, .int ((scS ch (pg, tl, 0) j).1), .int (nI j), z] [] (tw w p ch (scS ch (pg, tl, 0) j).2.1 (scS ch (pg, tl, 0) j).2.2.1 (nI m) (nI (scS ch (pg, tl, 0) j).2.2.2)) sz sl (some (.int (scF ch (pg, tl, 0) m)), (tw w p ch (scS ch (pg, tl, 0) (rfAt ch (pg, tl, 0) m)).2.1 (scS ch (pg, tl, 0) (rfAt ch (pg, tl, 0) m)).2.2.1 (nI m) (nI (scS ch (pg, tl, 0) (rfAt ch (pg, tl, 0) m)).2.2.2)), sz, sl) := by
    refine az_ind m _ (fun j hj7 ih7 => ?_)
    intro z hv7
    refine E_il2 k43_7 ?_
    refine E_al0 k43_8 ?_
    refine E_get k43_9 tw_0 rfl ?_
    refine E_icge k43_10 (fun c10 => ?_) (fun d10 => ?_)
    · skip
      have he7 := lp_t hj7 (by omega) rfl c10
      subst he7
      refine E_il1 k43_37 ?_
      refine E_iconst k43_38 ?_
      refine E_iceq k43_39 (fun c39 => ?_) (fun d39 => ?_)
      · skip
        refine E_iconst k43_46 ?_
        refine E_goto k43_47 ?_
        refine E_iret k43_50 hd43 rfl ?_
        have hr := rfAt_none hv7
        rw [scF_none hr, hr]
        first | (rw [okE, if_pos c39]; rfl) | (rw [okE, if_neg d39, if_pos c42]; rfl) | (rw [okE, if_neg d39, if_neg d42, if_neg d45]; rfl) | (rw [okE, if_neg d39, if_neg d42, if_pos c45]; rfl)
      · skip
        refine E_il1 k43_40 ?_
        refine E_iconst k43_41 ?_
        refine E_iceq k43_42 (fun c42 => ?_) (fun d42 => ?_)
        · skip
          refine E_iconst k43_46 ?_
          refine E_goto k43_47 ?_
          refine E_iret k43_50 hd43 rfl ?_
          have hr := rfAt_none hv7
          rw [scF_none hr, hr]
          first | (rw [okE, if_pos c39]; rfl) | (rw [okE, if_neg d39, if_pos c42]; rfl) | (rw [okE, if_neg d39, if_neg d42, if_neg d45]; rfl) | (rw [okE, if_neg d39, if_neg d42, if_pos c45]; rfl)
        · skip
          refine E_il1 k43_43 ?_
          refine E_iconst k43_44 ?_
          refine E_icne k43_45 (fun c45 => ?_) (fun d45 => ?_)
          · skip
            refine E_al0 k43_48 ?_
            refine E_get k43_49 tw_0 rfl ?_
            refine E_iret k43_50 hd43 rfl ?_
            have hr := rfAt_none hv7
            rw [scF_none hr, hr]
            first | (rw [okE, if_pos c39]; rfl) | (rw [okE, if_neg d39, if_pos c42]; rfl) | (rw [okE, if_neg d39, if_neg d42, if_neg d45]; rfl) | (rw [okE, if_neg d39, if_neg d42, if_pos c45]; rfl)
          · skip
            refine E_iconst k43_46 ?_
            refine E_goto k43_47 ?_
            refine E_iret k43_50 hd43 rfl ?_
            have hr := rfAt_none hv7
            rw [scF_none hr, hr]
            first | (rw [okE, if_pos c39]; rfl) | (rw [okE, if_neg d39, if_pos c42]; rfl) | (rw [okE, if_neg d39, if_neg d42, if_neg d45]; rfl) | (rw [okE, if_neg d39, if_neg d42, if_pos c45]; rfl)
    · skip
      have hlt7 := lp_f (by omega) (by omega) rfl d10
      refine E_il2 k43_11 ?_
      refine E_bipush k43_12 ?_
      refine E_icge k43_13 (fun c13 => ?_) (fun d13 => ?_)
      · skip
        exact absurd ((nI_leI (by decide) (by omega)).mp (show nI 60 ≤ nI j from c13)) (by omega)
      · skip
        refine E_il1 k43_14 ?_
        refine E_al0 k43_15 ?_
        refine E_get k43_16 tw_0 rfl ?_
        refine E_il2 k43_17 ?_
        refine E_ald k43_18 rfl tw_1 (by omega) (by decide) ?_
        refine E_cs2 k43_19 (Or.inl rfl) rfl rfl s_dueBehind ?_
        refine E_is3 k43_20 rfl ?_
        refine E_il3 k43_21 ?_
        refine E_bipush k43_22 ?_
        refine E_icne k43_23 (fun c23 => ?_) (fun d23 => ?_)
        · skip
          refine E_al0 k43_26 ?_
          refine E_il1 k43_27 ?_
          refine E_al0 k43_28 ?_
          refine E_get k43_29 tw_0 rfl ?_
          refine E_il2 k43_30 ?_
          refine E_ald k43_31 rfl tw_1 (by omega) (by decide) ?_
          refine E_cv2 k43_32 (Or.inl rfl) tw_0 cl45 rfl rfl (s_note (scS_le (Nat.zero_le 20) j)) ?_
          refine E_il3 k43_33 ?_
          refine E_is1 k43_34 rfl ?_
          refine E_inc2 k43_35 rfl ?_
          refine E_goto k43_36 ?_
          exact ev_cong (ih7 hlt7 _ (lt_s hv7 c23)) (by rw [nI_1]; rfl) rfl rfl
        · skip
          refine E_il2 k43_24 ?_
          refine E_iret k43_25 hd43 rfl ?_
          have hr := rfAt_hit hv7 (Classical.not_not.mp d23) hlt7
          rw [scF_hit hr hlt7, hr]
  exact ev_cong (loop7 0 (Nat.zero_le _) _ lt_0) rfl rfl rfl
