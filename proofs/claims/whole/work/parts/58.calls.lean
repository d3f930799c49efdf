/-! both objects in one world: a call of each, one behind the other -/
def HR (B : Nat) (N P : az_S) (kp : Int32) (o n : Nat) (Hs : Nat → az_S) (ch : Nat → Int32) (m : Nat) (T : az_S) : Prop :=
  (Rel N (T 0) ∧ Inv B N) ∧ T 5 0 = nI n ∧ (∀ j, j < n → Rel (ag o n Hs j) (fun i => T 1 (153 * (n - 1 - j) + i)) ∧ Inv B (ag o n Hs j)) ∧
  T 5 1 = kp ∧ (T 2 92 = 0 ∨ T 2 92 = 1) ∧ (¬ kp = 0 → Rel P (T 2) ∧ Inv B P) ∧ T 5 2 = nI m ∧ (∀ i, i < m → T 3 i = ch i)
def BB (B : Nat) (w : az_W) : Prop := ∃ N P kp o n Hs ch pg tl m e T, GW w N P kp o n Hs ch pg tl m e ∧ MWp w T ∧ HR B N P kp o n Hs ch m T
def Cal (X : az_X) (B M1 M2 : Nat) (as : List Value) (w : az_W) (sz sl : Nat) : Prop := ∃ x w1 w2, (∃ fs, w1 151 = .inr (9, fs)) ∧ az_M X M1 (.ref 0 :: as) w sz sl (some (.int x), w1, sz, sl) ∧ az_M X M2 (.ref 151 :: as) w1 sz sl (some (.int x), w2, sz, sl) ∧ BB B w2
theorem MWp_0 {w : az_W} {T : az_S} (h : MWp w T) : w 151 = .inr (9, [.ref 152, .ref 153, .int (T 5 0), .ref 154, .int (T 5 1), .ref 155, .int (T 5 2), .int (T 5 3), .ref 156, .int (T 5 4)]) := by
  have := mw_0 (w := w) (T := T)
  rwa [mw_in h] at this
theorem MWp_1 {w : az_W} {T : az_S} (h : MWp w T) : w 152 = .inl (0, 153, .inl (T 0)) := by
  have := mw_1 (w := w) (T := T)
  rwa [mw_in h] at this
theorem tRec_3 {T : az_S} {k : Nat} : tRec T k 3 = T 3 := by
  unfold tRec
  split <;> rfl
theorem tRec_50 {T : az_S} {k : Nat} (hk : k ≤ 4) : tRec T k 5 0 = nI (rN k) := by
  unfold tRec rN
  by_cases q : k = 4
  · subst q
    rw [if_pos rfl, if_neg (by decide)]
    rfl
  · rw [if_neg q, if_pos (by omega)]
    rfl
theorem tRec_1 {T : az_S} {k j i : Nat} (hk : k ≤ 4) (hj : j < rN k) (hi : i < 153) : tRec T k 1 (153 * (rN k - 1 - j) + i) = if j = 0 then T 0 i else T 1 (153 * (k - 1 - (j - 1)) + i) := by
  unfold tRec
  by_cases q : k = 4
  · subst q
    rw [if_pos rfl]
    have hj4 : j < 4 := hj
    show lyf (T 0) 0 (shf (T 1) 459) (153 * 3) 153 (153 * (4 - 1 - j) + i) = _
    by_cases q2 : j = 0
    · subst q2
      rw [if_pos rfl]
      exact lyf_i hi
    · rw [if_neg q2, lyf_o (by omega)]
      unfold shf
      rw [if_pos (by omega)]
      congr 1
      omega
  · rw [if_neg q]
    have e : rN k = k + 1 := by unfold rN; rw [if_pos (by omega)]
    rw [e] at hj ⊢
    show lyf (T 0) 0 (T 1) (153 * k) 153 (153 * (k + 1 - 1 - j) + i) = _
    by_cases q2 : j = 0
    · subst q2
      rw [if_pos rfl]
      exact lyf_i hi
    · rw [if_neg q2, lyf_o (by omega)]
      congr 1
      omega
theorem HR_rec {B B' : Nat} {N N' P : az_S} {kp : Int32} {o n : Nat} {Hs : Nat → az_S} {ch : Nat → Int32} {m : Nat} {T : az_S} {f' : Nat → Int32} (hB : B ≤ B') (ho : o < 4) (hn : n ≤ 4) (h : HR B N P kp o n Hs ch m T) (h2 : Rel N' f') (hv2 : Inv B' N') : HR B' N' P kp (rO o n) (rN n) (rH o n N Hs) ch m (va_up (tRec T n) 0 f') := by
  obtain ⟨⟨a1, a2⟩, a3, a4, a5, a6, a7, a8, a9⟩ := h
  refine ⟨⟨h2, hv2⟩, ?_, fun j hj => ?_, ?_, ?_, fun z => ?_, ?_, fun i hi => ?_⟩
  · rw [sU_ne (show 5 ≠ 0 by decide)]
    exact tRec_50 hn
  · have e1 : ∀ i, i < 153 → va_up (tRec T n) 0 f' 1 (153 * (rN n - 1 - j) + i) = if j = 0 then T 0 i else T 1 (153 * (n - 1 - (j - 1)) + i) := fun i hi => by
      rw [sU_ne (show 1 ≠ 0 by decide)]
      exact tRec_1 hn hj hi
    cases j with
    | zero =>
      rw [ag_rec0 ho hn]
      exact ⟨Rel_f (Rel_SE a1 (dCp_SE _ _)) e1, Inv_SE (Inv_mono a2 hB) (dCp_SE _ _)⟩
    | succ j =>
      rw [ag_recS ho hn hj]
      have hj2 : j < n := by unfold rN at hj; split at hj <;> omega
      obtain ⟨b1, b2⟩ := a4 j hj2
      exact ⟨Rel_f b1 e1, Inv_mono b2 hB⟩
  · rw [sU_ne (show 5 ≠ 0 by decide), tRec_5 (by decide)]; exact a5
  · rw [sU_ne (show 2 ≠ 0 by decide), tRec_2]; exact a6
  · rw [sU_ne (show 2 ≠ 0 by decide), tRec_2]
    exact ⟨(a7 z).1, Inv_mono (a7 z).2 hB⟩
  · rw [sU_ne (show 5 ≠ 0 by decide), tRec_5 (by decide)]; exact a8
  · rw [sU_ne (show 3 ≠ 0 by decide), tRec_3]; exact a9 i hi
theorem HR_mono {B B' : Nat} {N P : az_S} {kp : Int32} {o n : Nat} {Hs : Nat → az_S} {ch : Nat → Int32} {m : Nat} {T : az_S} (hB : B ≤ B') (h : HR B N P kp o n Hs ch m T) : HR B' N P kp o n Hs ch m T := by
  obtain ⟨⟨a1, a2⟩, a3, a4, a5, a6, a7, a8, a9⟩ := h
  exact ⟨⟨a1, Inv_mono a2 hB⟩, a3, fun j hj => ⟨(a4 j hj).1, Inv_mono (a4 j hj).2 hB⟩, a5, a6, fun z => ⟨(a7 z).1, Inv_mono (a7 z).2 hB⟩, a8, a9⟩
/-- an act on both sides -/
theorem cal_act {X : az_X} {B B' M1 M2 : Nat} {as : List Value} {w wx : az_W} {sz sl : Nat} {N P : az_S} {kp : Int32} {o n : Nat} {Hs : Nat → az_S} {ch pg tl : Nat → Int32} {m : Nat} {e : Int32} {T TX : az_S} {r : Int32 × Option az_S} {t : Int32 × az_S}
    (hB : B ≤ B') (hg : GW wx N P kp o n Hs ch pg tl m e) (ht : MWp wx T) (hr : HR B N P kp o n Hs ch m TX)
    (m1 : az_M X M1 (.ref 0 :: as) w sz sl (some (.int r.1), aw wx o n N Hs r.2, sz, sl))
    (m2 : ∀ w', az_M X M2 (.ref 151 :: as) (mw w' T) sz sl (some (.int t.1), mw w' t.2, sz, sl))
    (ha : Ac B' r t TX n) (ho : OKO r.2) : Cal X B' M1 M2 as w sz sl := by
  have h1 : MWp (aw wx o n N Hs r.2) T := MW_aw ht
  have h2 := m2 (aw wx o n N Hs r.2)
  rw [mw_in h1, ← ha.1] at h2
  refine ⟨r.1, _, _, ⟨_, MWp_0 h1⟩, m1, h2, ?_⟩
  rcases ha.2 with ⟨e1, e2⟩ | ⟨N', f', e1, e2, e3, e4⟩
  · have h3 : GW (aw wx o n N Hs none) N P kp o n Hs ch pg tl m e := hg
    rw [e1, e2]
    exact ⟨N, P, kp, o, n, Hs, ch, pg, tl, m, e, TX, GW_mw h3, MW_mw, HR_mono hB hr⟩
  · have h3 : GW (aw wx o n N Hs (some N')) N' P kp (rO o n) (rN n) (rH o n N Hs) ch pg tl m e := GW_aw (r := some N') hg (by rw [← e1]; exact ho)
    rw [e1, e2]
    exact ⟨N', P, kp, rO o n, rN n, rH o n N Hs, ch, pg, tl, m, e, _, GW_mw h3, MW_mw, HR_rec hB (gw_o hg) (gw_nn hg) hr e3 e4⟩
/-- a query on both sides -/
theorem cal_qry {X : az_X} {B M1 M2 : Nat} {as : List Value} {w : az_W} {sz sl : Nat} {x y : Int32} (hb : BB B w) (m1 : az_M X M1 (.ref 0 :: as) w sz sl (some (.int x), w, sz, sl)) (m2 : az_M X M2 (.ref 151 :: as) w sz sl (some (.int y), w, sz, sl)) (e : y = x) : Cal X B M1 M2 as w sz sl := by
  subst e
  obtain ⟨N, P, kp, o, n, Hs, ch, pg, tl, m, e, T, hg, ht, hr⟩ := hb
  exact ⟨y, w, w, ⟨_, MWp_0 ht⟩, m1, m2, N, P, kp, o, n, Hs, ch, pg, tl, m, e, T, hg, ht, hr⟩
section
variable {X : az_X} {B : Nat} {w : az_W} {sz sl : Nat}
theorem cal_write {p c : Int32} (h : BB B w) : Cal X B 94 146 [.int p, .int c] w sz sl := by
  obtain ⟨N, P, kp, o, n, Hs, ch, pg, tl, m, e, T, hg, ht, hr⟩ := h
  exact cal_act (Nat.le_refl B) hg ht hr (m_write hg) (fun w' => rf_write hr.2.1 (gw_nn hg)) (ac_write hr.1.1 hr.1.2) (fWrite_OK hr.1.2.1.1)
theorem cal_drop {p : Int32} (h : BB B w) : Cal X B 95 147 [.int p] w sz sl := by
  obtain ⟨N, P, kp, o, n, Hs, ch, pg, tl, m, e, T, hg, ht, hr⟩ := h
  exact cal_act (Nat.le_refl B) hg ht hr (m_drop hg) (fun w' => rf_drop hr.2.1 (gw_nn hg)) (ac_drop hr.1.1 hr.1.2) (fDrop_OK hr.1.2.1.1)
theorem cal_clear (h : BB B w) : Cal X B 98 149 [] w sz sl := by
  obtain ⟨N, P, kp, o, n, Hs, ch, pg, tl, m, e, T, hg, ht, hr⟩ := h
  exact cal_act (Nat.le_refl B) hg ht hr (m_clear hg) (fun w' => rf_clear hr.2.1 (gw_nn hg)) (ac_clear hr.1.1 hr.1.2) (fClear_OK hr.1.2.1.1)
theorem cal_begin (h : BB B w) : Cal X B 99 157 [] w sz sl := by
  obtain ⟨N, P, kp, o, n, Hs, ch, pg, tl, m, e, T, hg, ht, hr⟩ := h
  exact cal_act (Nat.le_refl B) hg ht hr (m_begin hg) (fun w' => rf_begin hr.2.1 (gw_nn hg)) (ac_begin hr.1.1 hr.1.2) (fBegin_OK hr.1.2.1.1)
theorem cal_give (h : BB B w) : Cal X B 102 160 [] w sz sl := by
  obtain ⟨N, P, kp, o, n, Hs, ch, pg, tl, m, e, T, hg, ht, hr⟩ := h
  exact cal_act (Nat.le_refl B) hg ht hr (m_giveUp hg) (fun w' => rf_giveUp hr.2.1 (gw_nn hg)) (ac_give hr.1.1 hr.1.2) (fGive_OK hr.1.2.1.1)
theorem cal_step (h : BB B w) : Cal X (B + 1) 100 158 [] w sz sl := by
  obtain ⟨N, P, kp, o, n, Hs, ch, pg, tl, m, e, T, hg, ht, hr⟩ := h
  obtain ⟨mk, hk, hm⟩ := rel_mk hr.1.1 hr.1.2.1.1
  exact cal_act (Nat.le_succ B) hg ht hr (m_step hg) (fun w' => rf_step hr.2.1 (gw_nn hg) hm hk) (ac_step hr.1.1 hr.1.2 hm hk) (fStep_OK hr.1.2.1.1)
theorem cal_crash {b : Bool} (h : BB B w) : Cal X (B + 1) 103 162 [.int (zb b)] w sz sl := by
  obtain ⟨N, P, kp, o, n, Hs, ch, pg, tl, m, e, T, hg, ht, hr⟩ := h
  obtain ⟨mk, hk, hm⟩ := rel_mk hr.1.1 hr.1.2.1.1
  exact cal_act (Nat.le_succ B) hg ht hr (m_crash hg) (fun w' => rf_crash hr.2.1 (gw_nn hg) hm hk) (ac_crash hr.1.1 hr.1.2 hm hk) (fCrash_OK hr.1.2.1.1)
theorem cal_close {r : Int32} (h : BB B w) : Cal X B 105 165 [.int r] w sz sl := by
  obtain ⟨N, P, kp, o, n, Hs, ch, pg, tl, m, e, T, hg, ht, hr⟩ := h
  exact cal_act (Nat.le_refl B) hg ht hr (m_close hg) (fun w' => rf_close hr.2.1 (gw_nn hg)) (ac_close hr.1.1 hr.1.2) (fClose_OK hr.1.2.1.1)
theorem cal_finish (h : BB B w) : Cal X (B + 10) 101 159 [] w sz sl := by
  obtain ⟨N, P, kp, o, n, Hs, ch, pg, tl, m, e, T, hg, ht, hr⟩ := h
  obtain ⟨mk, hk, hm⟩ := rel_mk hr.1.1 hr.1.2.1.1
  obtain ⟨a1, a2⟩ := ac_fin (k := n) hr.1.1 hr.1.2 hm hk
  exact cal_act (Nat.le_add_right B 10) hg ht hr (m_finish hg) (fun w' => rf_finish hr.2.1 (gw_nn hg) (MK_of hm hk) a2) a1 (fFin_OK hr.1.2.1.1)
theorem cal_open (h : BB B w) : Cal X B 104 164 [] w sz sl := by
  obtain ⟨N, P, kp, o, n, Hs, ch, pg, tl, m, e, T, hg, ht, hr⟩ := h
  obtain ⟨mk, hk, hm⟩ := rel_mk hr.1.1 hr.1.2.1.1
  rcases ac_open (k := n) hr.1.1 hr.1.2 hm hk with ⟨a1, a2⟩ | ⟨a1, r, a2, a3, a4, a5⟩
  · exact cal_act (t := (-3, T)) (Nat.le_refl B) hg ht hr (m_open hg) (fun w' => rf_open0 a1) (by rw [a2]; exact Ac_n) (fOpen_OK hr.1.2.1.1)
  · exact cal_act (t := (nI r, tOp T n mk r)) (Nat.le_refl B) hg ht hr (m_open hg) (fun w' => rf_open1 hr.2.1 (gw_nn hg) hm hk a1 a2 a3 a4) a5 (fOpen_OK hr.1.2.1.1)
theorem cal_restore (h : BB B w) : Cal X B 110 174 [] w sz sl := by
  obtain ⟨N, P, kp, o, n, Hs, ch, pg, tl, m, e, T, hg, ht, hr⟩ := h
  have hs : ∃ sk, sk ≤ 1 ∧ T 2 92 = nI sk := by
    rcases hr.2.2.2.2.1 with q | q
    · exact ⟨0, by decide, q⟩
    · exact ⟨1, by decide, q⟩
  obtain ⟨sk, hs1, hs2⟩ := hs
  exact cal_act (Nat.le_refl B) hg ht hr (m_restore hg) (fun w' => rf_restore hr.2.1 (gw_nn hg) hs2 hs1) (ac_rest hr.2.2.2.1 (fun z => ⟨(hr.2.2.2.2.2.1 z).1, (hr.2.2.2.2.2.1 z).2, hs2, hs1⟩)) (fRest_OK hg.2.2.2.2.2.2.2.2.2.2.2.2.1)
theorem HR_tX {N P : az_S} {kp : Int32} {o n : Nat} {Hs : Nat → az_S} {ch : Nat → Int32} {m : Nat} {T : az_S} {g : Nat → Int32} {s K : Nat} (h : HR B N P kp o n Hs ch m T) : HR B N P kp o n Hs ch m (tX T g s K) := h
theorem cal_writeAll (h : BB B w) : Cal X B 97 148 [] w sz sl := by
  obtain ⟨N, P, kp, o, n, Hs, ch, pg, tl, m, e, T, hg, ht, hr⟩ := h
  obtain ⟨x, g, s, K, h1, h2, h3, h4⟩ := ac_all (k := n) (ch := ch) (pg := pg) (tl := tl) hr.1.1 hr.1.2 hr.2.2.2.2.2.2.2 (gw_m hg)
  exact cal_act (Nat.le_refl B) (GW_tw hg (gw_m hg)) (MW_tw ht) (HR_tX (g := g) (s := s) (K := K) hr) (m_writeAll hg) (fun w' => rf_writeAll hr.2.2.2.2.2.2.1 (gw_m hg) hr.2.1 (gw_nn hg) h1 h2 h3) h4 (fWA_OK hr.1.2.1.1)
theorem cal_type {c : Int32} (h : BB B w) : Cal X B 106 166 [.int c] w sz sl := by
  obtain ⟨N, P, kp, o, n, Hs, ch, pg, tl, m, e, T, hg, ht, hr⟩ := h
  have m1 := m_type (X := X) (sz := sz) (sl := sl) (c := c) hg
  have m2 : ∀ w', az_M X 166 [.ref 151, .int c] (mw w' T) sz sl _ := fun w' => rf_type (c := c) hr.2.2.2.2.2.2.1 (gw_m hg)
  unfold tTy at m2
  by_cases q : m = 60
  · rw [if_pos q] at m1
    have m3 := m2 w
    rw [if_pos q, mw_in ht] at m3
    exact ⟨-3, w, w, ⟨_, MWp_0 ht⟩, m1, m3, N, P, kp, o, n, Hs, ch, pg, tl, m, e, T, hg, ht, hr⟩
  · rw [if_neg q] at m1
    have hm := gw_m hg
    have h1 := MW_tw (ch := upd ch m (az_nr 1 c)) (pg := pg) (tl := tl) (n := nI (m + 1)) (e := e) ht
    have m3 := m2 (tw w 147 (upd ch m (az_nr 1 c)) pg tl (nI (m + 1)) e)
    rw [if_neg q, mw_in h1] at m3
    refine ⟨_, _, _, ⟨_, MWp_0 h1⟩, m1, m3, N, P, kp, o, n, Hs, upd ch m (az_nr 1 c), pg, tl, m + 1, e, _, GW_mw (GW_tw hg (by omega)), MW_mw, ?_⟩
    obtain ⟨a1, a3, a4, a5, a6, a7, a8, a9⟩ := hr
    refine ⟨a1, a3, a4, a5, a6, a7, rfl, fun i hi => ?_⟩
    show upd (T 3) m (az_nr 1 c) i = upd ch m (az_nr 1 c) i
    by_cases q2 : i = m
    · rw [q2, upd_e, upd_e]
    · rw [upd_n q2, upd_n q2]
      exact a9 i (by omega)
theorem cal_clearText (h : BB B w) : Cal X B 107 167 [] w sz sl := by
  obtain ⟨N, P, kp, o, n, Hs, ch, pg, tl, m, e, T, hg, ht, hr⟩ := h
  have m1 := m_clearText (X := X) (sz := sz) (sl := sl) hg
  have h1 := MW_tw (ch := ch) (pg := pg) (tl := tl) (n := 0) (e := e) ht
  have m3 := rf_clearText (X := X) (w := tw w 147 ch pg tl 0 e) (sz := sz) (sl := sl) (T := T)
  rw [mw_in h1] at m3
  unfold tCu at m3
  obtain ⟨a1, a3, a4, a5, a6, a7, a8, a9⟩ := hr
  rw [a8] at m3
  exact ⟨_, _, _, ⟨_, MWp_0 h1⟩, m1, m3, N, P, kp, o, n, Hs, ch, pg, tl, 0, e, _, GW_mw (GW_tw (m2 := 0) hg (Nat.zero_le _)), MW_mw, a1, a3, a4, a5, a6, a7, rfl, fun i hi => absurd hi (by omega)⟩
theorem cal_keep (h : BB B w) : Cal X B 109 173 [] w sz sl := by
  obtain ⟨N, P, kp, o, n, Hs, ch, pg, tl, m, e, T, hg, ht, hr⟩ := h
  obtain ⟨mk, hk, hm⟩ := rel_mk hr.1.1 hr.1.2.1.1
  have m1 := m_keep (X := X) (sz := sz) (sl := sl) hg
  have h1 : MWp (va_up (bw w 25 (dCp N P)) 0 (.inr (8, List.set [.ref 1, .ref 25, .ref 49, .ref 147, .int kp] 4 (.int 1)))) T := MW_up (MW_bw ht (by decide)) (by decide)
  have m3 := rf_keep (X := X) (w := va_up (bw w 25 (dCp N P)) 0 (.inr (8, List.set [.ref 1, .ref 25, .ref 49, .ref 147, .int kp] 4 (.int 1)))) (sz := sz) (sl := sl) hm hk
  rw [mw_in h1] at m3
  unfold tKe at m3
  rw [rel_num hr.1.1 hm hk] at m3
  have e1 : ∀ i, i < 153 → lyf (T 0) 0 (T 2) 0 153 i = T 0 i := fun i hi => by
    have := lyf_i (f := T 0) (g := T 2) (o2 := 0) hi
    rwa [Nat.zero_add] at this
  refine ⟨_, _, _, ⟨_, MWp_0 h1⟩, m1, m3, N, dCp N P, 1, o, n, Hs, ch, pg, tl, m, e, _, GW_mw (GW_keep hg), MW_mw, ?_⟩
  obtain ⟨a1, a3, a4, a5, a6, a7, a8, a9⟩ := hr
  refine ⟨a1, a3, a4, rfl, ?_, fun _ => ⟨Rel_f (Rel_SE a1.1 (dCp_SE N P)) e1, Inv_SE a1.2 (dCp_SE N P)⟩, a8, a9⟩
  show lyf (T 0) 0 (T 2) 0 153 92 = 0 ∨ lyf (T 0) 0 (T 2) 0 153 92 = 1
  rw [e1 92 (by decide), a1.1.mk]
  exact a1.2.1.1.2
theorem cal_undo (h : BB B w) : Cal X B 108 172 [] w sz sl := by
  obtain ⟨N, P, kp, o, n, Hs, ch, pg, tl, m, e, T, hg, ht, hr⟩ := h
  cases n with
  | zero =>
    have m1 := m_undo0 (X := X) (sz := sz) (sl := sl) hg
    have m3 := rf_undo (X := X) (w := w) (sz := sz) (sl := sl) hr.2.1 (Nat.zero_le 4)
    unfold tUn at m3
    rw [if_pos rfl, mw_in ht] at m3
    exact ⟨-5, w, w, ⟨_, MWp_0 ht⟩, m1, m3, N, P, kp, o, 0, Hs, ch, pg, tl, m, e, T, hg, ht, hr⟩
  | succ k =>
    have m1 := m_undoS (X := X) (sz := sz) (sl := sl) hg
    have h1 : MWp (bw (va_up w 49 (.inr (3, [.ref 50, .int (nI o), .int (nI k)]))) 1 (dCp (Hs ((o + k) % 4)) N)) T := MW_bw (MW_up ht (by decide)) (by decide)
    have m3 := rf_undo (X := X) (w := bw (va_up w 49 (.inr (3, [.ref 50, .int (nI o), .int (nI k)]))) 1 (dCp (Hs ((o + k) % 4)) N)) (sz := sz) (sl := sl) hr.2.1 (gw_nn hg)
    unfold tUn at m3
    rw [if_neg (by omega), mw_in h1] at m3
    obtain ⟨a1, a3, a4, a5, a6, a7, a8, a9⟩ := hr
    have e1 : ∀ i, i < 153 → lyf (T 1) (153 * (k + 1 - 1)) (T 0) 0 153 i = T 1 (153 * (k + 1 - 1 - 0) + i) := fun i hi => by
      unfold lyf
      rw [if_pos (by omega)]
      congr 1
    obtain ⟨b1, b2⟩ := a4 0 (by omega)
    rw [← ag_undo0] at b1 b2
    refine ⟨_, _, _, ⟨_, MWp_0 h1⟩, m1, m3, dCp (Hs ((o + k) % 4)) N, P, kp, o, k, Hs, ch, pg, tl, m, e, _, GW_mw (GW_undo hg), MW_mw, ⟨?_, ?_⟩, rfl, fun j hj => ?_, a5, a6, a7, a8, a9⟩
    · exact Rel_f (Rel_SE b1 (dCp_SE _ _)) e1
    · exact Inv_SE b2 (dCp_SE _ _)
    · have := a4 (j + 1) (by omega)
      rw [ag_undo hj, show k + 1 - 1 - (j + 1) = k - 1 - j by omega] at this
      exact this
theorem cal_read {p : Int32} (h : BB B w) : Cal X B 111 176 [.int p] w sz sl := by
  have hb := h
  obtain ⟨N, P, kp, o, n, Hs, ch, pg, tl, m, e, T, hg, ht, hr⟩ := h
  obtain ⟨mk, hk, hm⟩ := rel_mk hr.1.1 hr.1.2.1.1
  exact cal_qry hb (m_read hg) (r_read (MWp_0 ht) (MWp_1 ht) hm hk (rel_ho hr.1.1 hr.1.2 hm hk)) (q_read hr.1.1 hr.1.2 hm hk)
theorem cal_readDesk {p : Int32} (h : BB B w) : Cal X B 112 177 [.int p] w sz sl := by
  have hb := h
  obtain ⟨N, P, kp, o, n, Hs, ch, pg, tl, m, e, T, hg, ht, hr⟩ := h
  obtain ⟨mk, hk, hm⟩ := rel_mk hr.1.1 hr.1.2.1.1
  exact cal_qry hb (m_readDesk hg) (r_readDesk (MWp_0 ht) (MWp_1 ht) hm hk (rel_ho hr.1.1 hr.1.2 hm hk)) (q_readD hr.1.1 hr.1.2 hm hk)
theorem cal_readBy {r p : Int32} (h : BB B w) : Cal X B 113 178 [.int r, .int p] w sz sl := by
  have hb := h
  obtain ⟨N, P, kp, o, n, Hs, ch, pg, tl, m, e, T, hg, ht, hr⟩ := h
  exact cal_qry hb (m_readBy hg) (r_readBy (MWp_0 ht) (MWp_1 ht) (rel_hr hr.1.1 hr.1.2)) (q_readB hr.1.1 hr.1.2)
theorem cal_cell {c q : Int32} (h : BB B w) : Cal X B 114 179 [.int c, .int q] w sz sl := by
  have hb := h
  obtain ⟨N, P, kp, o, n, Hs, ch, pg, tl, m, e, T, hg, ht, hr⟩ := h
  obtain ⟨mk, hk, hm⟩ := rel_mk hr.1.1 hr.1.2.1.1
  exact cal_qry hb (m_cell hg) (r_cell (MWp_0 ht) (MWp_1 ht) hm hk) (q_cell hr.1.1 hr.1.2 hm hk)
theorem cal_table {c q : Int32} (h : BB B w) : Cal X B 115 181 [.int c, .int q] w sz sl := by
  have hb := h
  obtain ⟨N, P, kp, o, n, Hs, ch, pg, tl, m, e, T, hg, ht, hr⟩ := h
  exact cal_qry hb (m_table hg) (r_table (MWp_0 ht) (MWp_1 ht)) (q_table hr.1.1 hr.1.2)
theorem cal_owed {c q : Int32} (h : BB B w) : Cal X B 116 182 [.int c, .int q] w sz sl := by
  have hb := h
  obtain ⟨N, P, kp, o, n, Hs, ch, pg, tl, m, e, T, hg, ht, hr⟩ := h
  exact cal_qry hb (m_owed hg) (r_owed (MWp_0 ht) (MWp_1 ht)) (q_owed hr.1.1 hr.1.2)
theorem cal_reader {r : Int32} (h : BB B w) : Cal X B 117 183 [.int r] w sz sl := by
  have hb := h
  obtain ⟨N, P, kp, o, n, Hs, ch, pg, tl, m, e, T, hg, ht, hr⟩ := h
  exact cal_qry hb (m_reader hg) (r_reader (MWp_0 ht) (MWp_1 ht)) (q_reader hr.1.1 hr.1.2)
theorem cal_count {q : Int32} (h : BB B w) : Cal X B 120 191 [.int q] w sz sl := by
  have hb := h
  obtain ⟨N, P, kp, o, n, Hs, ch, pg, tl, m, e, T, hg, ht, hr⟩ := h
  obtain ⟨mk, hk, hm⟩ := rel_mk hr.1.1 hr.1.2.1.1
  refine cal_qry hb (m_count hg) (r_count (MWp_0 ht) (MWp_1 ht) hm hk) ?_
  rw [hr.2.1, hr.2.2.2.2.2.2.1]
  exact q_count hr.1.1 hr.1.2 hm hk
end
