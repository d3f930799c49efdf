/-! both readers of a text read the same -/
theorem eq_c {c x : Int32} : inB c x x = decide (c = x) := by
  unfold inB
  by_cases q : c = x
  · rw [q, decide_eq_true (rfl : x = x), decide_eq_false (fun z : x < x => by rw [Int32.lt_iff_toInt_lt] at z; omega)]; rfl
  · rw [decide_eq_false q]
    by_cases q2 : c < x
    · rw [decide_eq_true q2]; rfl
    · have q3 : x < c := by
        rw [Int32.lt_iff_toInt_lt] at q2 ⊢
        have : ¬ c.toInt = x.toInt := fun z => q (Int32.toInt_inj.mp z)
        omega
      rw [decide_eq_true q3]
      exact Bool.and_false _
theorem dg_in {c : Int32} : dgB c = inB c 48 57 := by
  unfold dgB inB
  by_cases q : c < 48
  · rw [if_pos q, decide_eq_true q]; rfl
  · rw [if_neg q, decide_eq_false q]
    by_cases q2 : 57 < c
    · rw [if_pos q2, decide_eq_true q2]; rfl
    · rw [if_neg q2, decide_eq_false q2]; rfl
theorem sn_c {T : az_S} {ch : Nat → Int32} {m s : Nat} {lo hi : Int32} (hc : ∀ i, i < m → T 3 i = ch i) (h : s < m) : snT T m s lo hi = inB (ch s) lo hi := by rw [sn_2 h, hc s h]
def GG (g : Nat → Int32) (t : tx_S) (k : Nat) : Prop := ∀ i, i < k → (∃ p, p < 8 ∧ g (2 * i) = nI p ∧ t.1 i = nI p) ∧ g (2 * i + 1) = dk (t.2.1 i) ∧ DV (t.2.1 i)
def NR (ch : Nat → Int32) (t0 : tx_S) (s : Nat) : Prop := ∀ i, i < s → ¬ dueB (scS ch t0 i).1 (ch i) = 6
theorem NR_s {ch : Nat → Int32} {t0 : tx_S} {s : Nat} (h : NR ch t0 s) (h2 : ¬ dueB (scS ch t0 s).1 (ch s) = 6) : NR ch t0 (s + 1) := fun i hi => by
  by_cases q : i = s
  · rw [q]; exact h2
  · exact h i (by omega)
theorem sF_at {ch : Nat → Int32} {t0 : tx_S} {m x : Nat} (h : NR ch t0 x) (hx : x < m) (h2 : dueB (scS ch t0 x).1 (ch x) = 6) : scF ch t0 m = nI x := scF_hit (rfAt_hit h h2 hx) hx
theorem sF_end {ch : Nat → Int32} {t0 : tx_S} {m : Nat} (h : NR ch t0 m) : scF ch t0 m = if okE (scS ch t0 m).1 = true then -1 else nI m := scF_none (rfAt_none h)
/-- the state of a number with value u -/
def dV (u : Nat) : Int32 := if u = 0 then 5 else if u < 10 then 3 else if u < 100 then 4 else 5
theorem upd_sf {f : Nat → Int32} {k : Nat} {x : Int32} (h : f k = x) : upd f k x = f := by
  funext i
  by_cases q : i = k
  · rw [q, upd_e, h]
  · exact upd_n q
theorem upd_ud {f : Nat → Int32} {k : Nat} {x y : Int32} : upd (upd f k x) k y = upd f k y := by
  funext i
  by_cases q : i = k
  · rw [q, upd_e, upd_e]
  · rw [upd_n q, upd_n q, upd_n q]
theorem adD_at {t : tx_S} {k : Nat} {x : Int32} (h : t.2.2 = k + 1) : adD t x = (t.1, upd t.2.1 k (if ¬ t.2.1 k = -5 then t.2.1 k * 10 + x else x), k + 1) := by
  unfold adD
  rw [if_neg (by omega), h]
  rfl
theorem num_go {T : az_S} {ch : Nat → Int32} {t0 : tx_S} {m k : Nat} (hc : ∀ i, i < m → T 3 i = ch i) : ∀ {n s u x y : Nat} {t : tx_S}, u < 1000 → s ≤ m → pV T m n (nI u) s = some (nI x, y) → x < 1000 → scS ch t0 s = (dV u, t) → t.2.2 = k + 1 → t.2.1 k = nI u → NR ch t0 s →
    ∃ t' : tx_S, scS ch t0 y = (dV x, t') ∧ t'.2.2 = k + 1 ∧ t'.1 = t.1 ∧ t'.2.1 = upd t.2.1 k (nI x) ∧ NR ch t0 y ∧ y ≤ m ∧ (y < m → ¬ ch y = 44 → dueB (dV x) (ch y) = 6)
  | 0, _, _, _, _, _, _, _, h, _, _, _, _, _ => by cases h
  | n + 1, s, u, x, y, t, hu, hs, h, hx, h1, h2, h3, h4 => by
    by_cases q1 : u = 0
    · have e := pV_1 h (by rw [q1]; decide)
      injection e with e1 e2
      have e3 : x = u := (nI_eqI (by omega) (by omega)).mp e1
      subst e3 e2
      refine ⟨t, h1, h2, rfl, (upd_sf h3).symm, h4, hs, fun _ z => ?_⟩
      rw [show dV x = 5 from by rw [q1]; rfl, dueB_x (by decide), if_pos z]
    · have p1 : ¬ nI u ≤ 0 := nI_nle (by omega) (by omega)
      by_cases q2 : 100 ≤ u
      · have e := pV_2 h p1 ((nI_leI (a := 100) (b := u) (by decide) (by omega)).mpr q2)
        injection e with e1 e2
        have e3 : x = u := (nI_eqI (by omega) (by omega)).mp e1
        subst e3 e2
        refine ⟨t, h1, h2, rfl, (upd_sf h3).symm, h4, hs, fun _ z => ?_⟩
        rw [show dV x = 5 from by unfold dV; rw [if_neg q1, if_neg (by omega), if_neg (by omega)], dueB_x (by decide), if_pos z]
      · have p2 : ¬ 100 ≤ nI u := fun z => q2 ((nI_leI (a := 100) (b := u) (by decide) (by omega)).mp z)
        cases q3 : snT T m s 48 57
        · have e := pV_3 h p1 p2 q3
          injection e with e1 e2
          have e3 : x = u := (nI_eqI (by omega) (by omega)).mp e1
          subst e3 e2
          refine ⟨t, h1, h2, rfl, (upd_sf h3).symm, h4, hs, fun hy z => ?_⟩
          rw [sn_c hc hy, ← dg_in] at q3
          unfold dV
          rw [if_neg q1]
          by_cases q4 : x < 10
          · rw [if_pos q4, dueB_3, q3, if_neg (by decide), if_pos z]
          · rw [if_neg q4, if_pos (by omega), dueB_4, q3, if_neg (by decide), if_pos z]
        · have h5 := (pV_4 h p1 p2 q3).2
          rw [Nat.add_sub_cancel] at h5
          have hlt := sn_lt q3
          obtain ⟨d, hd, hd2⟩ := dig_v q3
          have hcd : ch s = nI (48 + d) := by rw [← hc s hlt, hd2]
          rw [hd2, dig_n] at h5
          rw [sn_c hc hlt, ← dg_in] at q3
          have hdv : dueB (dV u) (ch s) = dV (10 * u + d) ∧ ¬ dV u = 0 := by
            unfold dV
            rw [if_neg q1, if_neg (show ¬ 10 * u + d = 0 by omega), if_neg (show ¬ 10 * u + d < 10 by omega)]
            by_cases q4 : u < 10
            · rw [if_pos q4, dueB_3, q3, if_pos rfl, if_pos (show 10 * u + d < 100 by omega)]
              exact ⟨rfl, by decide⟩
            · rw [if_neg q4, if_pos (show u < 100 by omega), dueB_4, q3, if_pos rfl, if_neg (show ¬ 10 * u + d < 100 by omega)]
              exact ⟨rfl, by decide⟩
          have h6 : scS ch t0 (s + 1) = (dV (10 * u + d), (t.1, upd t.2.1 k (nI (10 * u + d)), k + 1)) := by
            rw [scS, h1]
            show (dueB (dV u) (ch s), ntC t (dV u) (ch s)) = _
            rw [hdv.1]
            unfold ntC
            rw [if_neg hdv.2, q3, if_pos rfl, adD_at h2, h3, if_pos (nI_ne5 (by omega)), hcd, dig_s]
            have e : nI u * 10 + nI d = nI (10 * u + d) := by
              rw [ixm (x := nI u) (y := 10) (a := u) (b := 10) rfl rfl, nI_add, Nat.mul_comm]
            rw [e]
          obtain ⟨t', a1, a2, a3, a4, a5, a6, a7⟩ := num_go (k := k) hc (n := n) (s := s + 1) (u := 10 * u + d) (by omega) (by omega) h5 hx h6 rfl upd_e (NR_s h4 (by
            rw [h1]
            show ¬ dueB (dV u) (ch s) = 6
            rw [hdv.1]
            unfold dV
            rw [if_neg (show ¬ 10 * u + d = 0 by omega), if_neg (show ¬ 10 * u + d < 10 by omega)]
            split <;> decide))
          exact ⟨t', a1, a2, a3, by rw [a4, upd_ud], a5, a6, a7⟩
/-- one entry -/
theorem ent_go {T : az_S} {ch : Nat → Int32} {t0 t : tx_S} {m k s : Nat} {g : Nat → Int32} (hc : ∀ i, i < m → T 3 i = ch i) (hm : m ≤ 60) (hs : s ≤ m) (hk : 3 * k ≤ s) (h1 : scS ch t0 s = (0, t)) (h2 : t.2.2 = k) (h3 : NR ch t0 s) (hg : GG g t k) :
    ((pE T m s k g).1 = false ∧ scF ch t0 m = nI (pE T m s k g).2.2) ∨
    ((pE T m s k g).1 = true ∧ ∃ D t', scS ch t0 (pE T m s k g).2.2 = (D, t') ∧ (D = 3 ∨ D = 4 ∨ D = 5) ∧ ((pE T m s k g).2.2 < m → ¬ ch (pE T m s k g).2.2 = 44 → dueB D (ch (pE T m s k g).2.2) = 6) ∧ t'.2.2 = k + 1 ∧ GG (pE T m s k g).2.1 t' (k + 1) ∧ NR ch t0 (pE T m s k g).2.2) := by
  cases c1 : snT T m s 48 55
  · left
    have e : pE T m s k g = (false, g, s) := by rw [pE, if_pos c1]
    rw [e]
    refine ⟨rfl, ?_⟩
    by_cases q : s < m
    · rw [sn_c hc q] at c1
      refine sF_at h3 q ?_
      rw [h1, dueB_0]
      by_cases q1 : ch s < 48
      · exact if_pos q1
      · rw [if_neg q1]
        by_cases q2 : 55 < ch s
        · exact if_pos q2
        · unfold inB at c1
          rw [decide_eq_false q1, decide_eq_false q2] at c1
          cases c1
    · have : s = m := by omega
      subst this
      rw [sF_end h3, h1]
      rfl
  · have l1 := sn_lt c1
    have c1' := c1
    rw [sn_c hc l1] at c1'
    obtain ⟨a1, a2⟩ := inB_2x c1'
    obtain ⟨z, hz, hz2⟩ := nI_of2 (x := ch s) (M := 55) (n := 55) rfl (fun z => a1 (Int32.lt_trans z (by decide))) (Int32.not_lt.mp a2)
    have hz3 : 48 ≤ z := by
      rcases Nat.lt_or_ge z 48 with w | w
      · exact absurd (by rw [hz2]; exact (nI_ltI (a := z) (b := 48) (by omega) (by decide)).mpr w) a1
      · exact w
    obtain ⟨p, hp, rfl⟩ : ∃ p, p < 8 ∧ z = 48 + p := ⟨z - 48, by omega, by omega⟩
    have hT : T 3 s - 48 = nI p := by rw [hc s l1, hz2, dig_s]
    have h4 : scS ch t0 (s + 1) = (1, (upd t.1 k (nI p), upd t.2.1 k (-5), k + 1)) := by
      rw [scS, h1]
      show (dueB 0 (ch s), ntC t 0 (ch s)) = _
      rw [dueB_0, if_neg a1, if_neg a2]
      unfold ntC
      rw [if_pos rfl]
      unfold stE
      rw [if_pos (by omega), h2, hz2, dig_s]
    have n4 : NR ch t0 (s + 1) := NR_s h3 (by rw [h1, dueB_0, if_neg a1, if_neg a2]; decide)
    have hgk : ∀ g' : Nat → Int32, (∀ i, i ≠ 2 * k + 1 → g' i = upd g (2 * k) (T 3 s - 48) i) → ∀ (t' : tx_S), t'.1 = upd t.1 k (nI p) → (∀ i, i ≠ k → t'.2.1 i = t.2.1 i) → g' (2 * k + 1) = dk (t'.2.1 k) → DV (t'.2.1 k) → GG g' t' (k + 1) := fun g' e1 t' e2 e3 e4 e5 i hi => by
      by_cases q : i = k
      · subst q
        exact ⟨⟨p, hp, by rw [e1 _ (by omega), upd_e, hT], by rw [e2, upd_e]⟩, e4, e5⟩
      · obtain ⟨⟨p2, b1, b2, b3⟩, b4, b5⟩ := hg i (by omega)
        exact ⟨⟨p2, b1, by rw [e1 _ (by omega), upd_n (by omega), b2], by rw [e2, upd_n q, b3]⟩, by rw [e1 _ (by omega), upd_n (by omega), e3 i q, b4], by rw [e3 i q]; exact b5⟩
    have pG1 : ∀ i, i ≠ 2 * k + 1 → pG T g s k i = upd g (2 * k) (T 3 s - 48) i := fun i hi => upd_n hi
    cases c2 : snT T m (s + 1) 45 45
    · cases c3 : snT T m (s + 1) 61 61
      · left
        have e : pE T m s k g = (false, pG T g s k, s + 1) := by rw [pE, if_neg (by rw [c1]; decide), if_neg (by rw [c2]; decide), if_pos c3]
        rw [e]
        refine ⟨rfl, ?_⟩
        by_cases q : s + 1 < m
        · rw [sn_c hc q, eq_c] at c2 c3
          refine sF_at n4 q ?_
          rw [h4, dueB_1, if_pos (of_decide_eq_false c3), if_pos (of_decide_eq_false c2)]
        · have : s + 1 = m := by omega
          subst this
          rw [sF_end n4, h4]
          rfl
      · have l3 := sn_lt c3
        have c3' := c3
        rw [sn_c hc l3, eq_c] at c3'
        have ec := of_decide_eq_true c3'
        have h5 : scS ch t0 (s + 1 + 1) = (2, (upd t.1 k (nI p), upd t.2.1 k (-5), k + 1)) := by
          rw [scS, h4]
          show (dueB 1 (ch (s + 1)), ntC _ 1 (ch (s + 1))) = _
          rw [ec]
          rfl
        have n5 : NR ch t0 (s + 1 + 1) := NR_s n4 (by rw [h4, ec]; show ¬ dueB 1 61 = 6; decide)
        cases c4 : snT T m (s + 1 + 1) 48 57
        · left
          have e : pE T m s k g = (false, pG T g s k, s + 1 + 1) := by rw [pE, if_neg (by rw [c1]; decide), if_neg (by rw [c2]; decide), if_neg (by rw [c3]; decide), if_pos c4]
          rw [e]
          refine ⟨rfl, ?_⟩
          by_cases q : s + 1 + 1 < m
          · rw [sn_c hc q, ← dg_in] at c4
            refine sF_at n5 q ?_
            rw [h5, dueB_2, c4, if_neg (show ¬ false = true by decide)]
            refine if_pos (fun w => ?_)
            rw [w] at c4
            exact absurd c4 (by decide)
          · have : s + 1 + 1 = m := by omega
            subst this
            rw [sF_end n5, h5]
            rfl
        · right
          have l4 := sn_lt c4
          obtain ⟨x, y, hx, hy1, hy2, hR, hE⟩ := pE_3 (k := k) (g := g) c1 c2 c3 c4
          obtain ⟨d, hd, hd2⟩ := dig_v c4
          have hcd : ch (s + 1 + 1) = nI (48 + d) := by rw [← hc _ l4, hd2]
          rw [hd2, dig_s] at hR
          have c4' := c4
          rw [sn_c hc l4, ← dg_in] at c4'
          have hdu : dueB 2 (ch (s + 1 + 1)) = dV d := by
            rw [dueB_2, c4', if_pos rfl, hcd]
            unfold dV
            by_cases w : d = 0
            · rw [if_pos w, w, if_neg (Classical.not_not.mpr (show nI (48 + 0) = 48 from rfl))]
            · rw [if_neg w, if_pos hd, if_pos (fun v => by have := (nI_eqI (a := 48 + d) (b := 48) (by omega) (by decide)).mp v; omega)]
          have h6 : scS ch t0 (s + 1 + 1 + 1) = (dV d, (upd t.1 k (nI p), upd (upd t.2.1 k (-5)) k (nI d), k + 1)) := by
            rw [scS, h5]
            show (dueB 2 (ch (s + 1 + 1)), ntC _ 2 (ch (s + 1 + 1))) = _
            rw [hdu]
            unfold ntC
            rw [if_neg (by decide), c4', if_pos rfl, adD_at (k := k) rfl]
            show (dV d, (upd t.1 k (nI p), upd (upd t.2.1 k (-5)) k (if ¬ upd t.2.1 k (-5) k = -5 then _ else ch (s + 1 + 1) - 48), k + 1)) = _
            rw [if_neg (Classical.not_not.mpr upd_e), hcd, dig_s]
          have n6 : NR ch t0 (s + 1 + 1 + 1) := NR_s n5 (by
            rw [h5]
            show ¬ dueB 2 (ch (s + 1 + 1)) = 6
            rw [hdu]
            unfold dV
            rw [if_pos hd]
            split <;> decide)
          obtain ⟨t', b1, b2, b3, b4, b5, b6, b7⟩ := num_go (k := k) hc (show d < 1000 by omega) (show s + 1 + 1 + 1 ≤ m from l4) hR hx h6 rfl upd_e n6
          rw [hE]
          refine ⟨rfl, dV x, t', b1, ?_, b7, b2, hgk _ (fun i hi => (upd_n hi).trans (pG1 i hi)) t' b3 (fun i hi => ?_) ?_ ?_, b5⟩
          · unfold dV
            split
            · exact Or.inr (Or.inr rfl)
            · split
              · exact Or.inl rfl
              · split
                · exact Or.inr (Or.inl rfl)
                · exact Or.inr (Or.inr rfl)
          · rw [b4]
            show upd (upd (upd t.2.1 k (-5)) k (nI d)) k (nI x) i = _
            rw [upd_n hi, upd_n hi, upd_n hi]
          · rw [b4]
            show upd _ (2 * k + 1) (nI x) (2 * k + 1) = dk (upd _ k (nI x) k)
            rw [upd_e, upd_e, dk_nI (by omega)]
          · rw [b4]
            show DV (upd _ k (nI x) k)
            rw [upd_e]
            exact Or.inr (Or.inr ⟨x, hx, rfl⟩)
    · right
      have l2 := sn_lt c2
      have e : pE T m s k g = (true, pG T g s k, s + 1 + 1) := by rw [pE, if_neg (by rw [c1]; decide), if_pos c2]
      rw [e]
      have c2' := c2
      rw [sn_c hc l2, eq_c] at c2'
      have ec := of_decide_eq_true c2'
      have h5 : scS ch t0 (s + 1 + 1) = (5, (upd t.1 k (nI p), upd t.2.1 k (-5), k + 1)) := by
        rw [scS, h4]
        show (dueB 1 (ch (s + 1)), ntC _ 1 (ch (s + 1))) = _
        rw [ec]
        rfl
      have n5 : NR ch t0 (s + 1 + 1) := NR_s n4 (by rw [h4, ec]; show ¬ dueB 1 45 = 6; decide)
      refine ⟨rfl, 5, _, h5, Or.inr (Or.inr rfl), fun _ w => by rw [dueB_x (by decide), if_pos w], rfl, hgk _ pG1 _ rfl (fun i hi => upd_n hi) ?_ ?_, n5⟩
      · show upd _ (2 * k + 1) (-6) (2 * k + 1) = dk (upd t.2.1 k (-5) k)
        rw [upd_e, upd_e]
        rfl
      · show DV (upd t.2.1 k (-5) k)
        rw [upd_e]
        exact Or.inr (Or.inl rfl)
theorem dD_44 {D : Int32} (h : D = 3 ∨ D = 4 ∨ D = 5) : dueB D 44 = 0 ∧ ¬ D = 0 ∧ okE D = true := by
  rcases h with q | q | q <;> rw [q] <;> decide
/-- the whole text, from an entry's start on -/
theorem txt_go {T : az_S} {ch : Nat → Int32} {t0 : tx_S} {m : Nat} (hc : ∀ i, i < m → T 3 i = ch i) (hm : m ≤ 60) : ∀ {n k s : Nat} {t : tx_S} {g : Nat → Int32}, m < n + s → s ≤ m → 3 * k ≤ s → scS ch t0 s = (0, t) → t.2.2 = k → NR ch t0 s → GG g t k →
    ∃ R, pF T m (n + 1) true g s k = some R ∧ ((∃ x, x ≤ m ∧ scF ch t0 m = nI x ∧ R.1 = nI x) ∨ (scF ch t0 m = -1 ∧ R.1 = -5 ∧ NR ch t0 m ∧ GG R.2.1 (scS ch t0 m).2 R.2.2.2 ∧ (scS ch t0 m).2.2.2 = R.2.2.2))
  | 0, k, s, t, g, hn, hs, _, _, _, _, _ => by omega
  | n + 1, k, s, t, g, hn, hs, hk, h1, h2, h3, hg => by
    have hle := pE_le (T := T) (k := k) (g := g) hs
    rcases ent_go hc hm hs hk h1 h2 h3 hg with ⟨e1, e2⟩ | ⟨e1, D, t', e2, e3, e4, e5, e6, e7⟩
    · refine ⟨(nI (pE T m s k g).2.2, (pE T m s k g).2.1, (pE T m s k g).2.2, k), by rw [pF, if_neg (by decide), if_pos e1], Or.inl ⟨_, hle, e2, rfl⟩⟩
    · have hge := pE_ge e1
      have hF : pF T m (n + 1 + 1) true g s k = pF T m (n + 1) (snT T m (pE T m s k g).2.2 44 44) (pE T m s k g).2.1 (if snT T m (pE T m s k g).2.2 44 44 = true then (pE T m s k g).2.2 + 1 else (pE T m s k g).2.2) (k + 1) := by
        rw [pF, if_neg (by decide), if_neg (by rw [e1]; decide)]
      rw [hF]
      generalize hP : pE T m s k g = P at *
      cases c : snT T m P.2.2 44 44
      · rw [if_neg (by decide)]
        refine ⟨(if nI P.2.2 = nI m then -5 else nI P.2.2, P.2.1, P.2.2, k + 1), by rw [pF, if_pos rfl], ?_⟩
        by_cases q : P.2.2 < m
        · rw [sn_c hc q, eq_c] at c
          have hne : ¬ nI P.2.2 = nI m := fun w => by
            have := (nI_eqI (by omega) (by omega)).mp w
            omega
          refine Or.inl ⟨P.2.2, hle, sF_at e7 q ?_, if_neg hne⟩
          rw [e2]
          exact e4 q (of_decide_eq_false c)
        · have hq : P.2.2 = m := by omega
          rw [hq] at e2 e7
          refine Or.inr ⟨?_, if_pos (by rw [hq]), e7, ?_, ?_⟩
          · rw [sF_end e7, e2, if_pos (dD_44 e3).2.2]
          · rw [e2]
            exact e6
          · rw [e2]
            exact e5
      · have hlt := sn_lt c
        have c' := c
        rw [sn_c hc hlt, eq_c] at c'
        have ec := of_decide_eq_true c'
        obtain ⟨d1, d2, -⟩ := dD_44 e3
        rw [if_pos rfl]
        have h4 : scS ch t0 (P.2.2 + 1) = (0, t') := by
          rw [scS, e2]
          show (dueB D (ch P.2.2), ntC t' D (ch P.2.2)) = _
          rw [ec, d1]
          unfold ntC
          rw [if_neg d2]
          rfl
        exact txt_go hc hm (n := n) (k := k + 1) (s := P.2.2 + 1) (by omega) (by omega) (by omega) h4 e5 (NR_s e7 (by rw [e2]; show ¬ dueB D (ch P.2.2) = 6; rw [ec, d1]; decide)) e6
