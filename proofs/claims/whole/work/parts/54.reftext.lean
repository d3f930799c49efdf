/-! methods' runs, laid by wip/whole/walk.py out of wip/whole/specs25.py -/
/-! the reference reads the entries of its text -/
/-- told numbers g, spot s, k entries -/
def tX (T : az_S) (g : Nat → Int32) (s k : Nat) : az_S := va_up (va_up T 4 g) 5 (upd (upd (T 5) 3 (nI s)) 4 (nI k))
theorem tX_4 {T : az_S} {g : Nat → Int32} {s k : Nat} : tX T g s k 4 = g := rfl
theorem tX_3 {T : az_S} {g : Nat → Int32} {s k : Nat} : tX T g s k 3 = T 3 := rfl
theorem tX_53 {T : az_S} {g : Nat → Int32} {s k : Nat} : tX T g s k 5 3 = nI s := rfl
theorem tX_54 {T : az_S} {g : Nat → Int32} {s k : Nat} : tX T g s k 5 4 = nI k := rfl
theorem tX_52 {T : az_S} {g : Nat → Int32} {s k : Nat} : tX T g s k 5 2 = T 5 2 := rfl
theorem tX_c {T : az_S} {g : Nat → Int32} {s k d : Nat} (h4 : d ≠ 4) (h5 : d ≠ 5) : tX T g s k d = T d := by
  unfold tX
  rw [sU_ne h5, sU_ne h4]
theorem tX_g {T : az_S} {g g2 : Nat → Int32} {s k : Nat} : va_up (tX T g s k) 4 g2 = tX T g2 s k := by
  funext d
  by_cases h4 : d = 4
  · subst h4; rfl
  · rw [sU_ne h4]
    by_cases h5 : d = 5
    · subst h5; rfl
    · rw [tX_c h4 h5, tX_c h4 h5]
theorem tX_s {T : az_S} {g : Nat → Int32} {s k x : Nat} : va_up (tX T g s k) 5 (upd (tX T g s k 5) 3 (nI x)) = tX T g x k := by
  have e : tX T g s k 5 = upd (upd (T 5) 3 (nI s)) 4 (nI k) := rfl
  rw [e]
  unfold tX
  rw [sU_sU]
  congr 1
  funext i
  unfold upd
  by_cases h3 : i = 3
  · subst h3; rfl
  · rw [if_neg h3]
    by_cases h4 : i = 4
    · rw [if_pos h4, if_pos h4]
    · rw [if_neg h4, if_neg h4, if_neg h3, if_neg h3]
theorem tX_k {T : az_S} {g : Nat → Int32} {s k x : Nat} : va_up (tX T g s k) 5 (upd (tX T g s k 5) 4 (nI x)) = tX T g s x := by
  have e : tX T g s k 5 = upd (upd (T 5) 3 (nI s)) 4 (nI k) := rfl
  rw [e]
  unfold tX
  rw [sU_sU]
  congr 1
  funext i
  unfold upd
  by_cases h4 : i = 4
  · rw [if_pos h4, if_pos h4]
  · rw [if_neg h4, if_neg h4, if_neg h4]
theorem tX_sp {T : az_S} {g : Nat → Int32} {s k x : Nat} : tSp (tX T g s k) x = tX T g x k := tX_s
theorem tX_inc {w : az_W} {T : az_S} {g : Nat → Int32} {s k : Nat} : mw w (va_up (tX T g s k) 5 (upd (tX T g s k 5) 3 (tX T g s k 5 3 + 1))) = mw w (tX T g (s + 1) k) := by rw [tX_53, nI_1, tX_s]
theorem tX_inck {w : az_W} {T : az_S} {g : Nat → Int32} {s k : Nat} : mw w (va_up (tX T g s k) 5 (upd (tX T g s k 5) 4 (tX T g s k 5 4 + 1))) = mw w (tX T g s (k + 1)) := by rw [tX_54, nI_1, tX_k]
theorem tX_0 {T : az_S} : va_up (va_up T 5 (upd (T 5) 3 0)) 5 (upd (va_up T 5 (upd (T 5) 3 0) 5) 4 0) = tX T (T 4) 0 0 := by
  rw [sU_sU, sU_eq]
  unfold tX
  rw [sU_s]
  rfl
theorem x_sees {X : az_X} {w : az_W} {sz sl : Nat} {T : az_S} {g : Nat → Int32} {s k m : Nat} {lo hi : Int32} (hl : T 5 2 = nI m) (hm : m ≤ 60) (hs2 : s ≤ 60) : az_M X 168 [.ref 151, .int lo, .int hi] (mw w (tX T g s k)) sz sl (some (.int (zb (snT T m s lo hi))), mw w (tX T g s k), sz, sl) := rf_sees (T := tX T g s k) (m := m) (s := s) hl hm rfl hs2
theorem x_takes {X : az_X} {w : az_W} {sz sl : Nat} {T : az_S} {g : Nat → Int32} {s k m : Nat} {c : Int32} (hl : T 5 2 = nI m) (hm : m ≤ 60) (hs2 : s ≤ 60) : az_M X 169 [.ref 151, .int c] (mw w (tX T g s k)) sz sl (some (.int (zb (snT T m s c c))), mw w (tX T g (if snT T m s c c = true then s + 1 else s) k), sz, sl) := by
  have := rf_takes (X := X) (w := w) (sz := sz) (sl := sl) (T := tX T g s k) (m := m) (s := s) (c := c) hl hm rfl hs2
  rw [tX_sp] at this
  exact this
theorem sn_lt {T : az_S} {m s : Nat} {lo hi : Int32} (h : snT T m s lo hi = true) : s < m := by
  rcases Nat.lt_or_ge s m with q | q
  · exact q
  · rw [sn_1 (by omega)] at h
    cases h
/-- a number of up to three digits: its value, and the spot behind it -/
def pV (T : az_S) (m : Nat) : Nat → Int32 → Nat → Option (Int32 × Nat)
  | 0, _, _ => none
  | n + 1, v, s => if v ≤ 0 then some (v, s) else if 100 ≤ v then some (v, s) else if snT T m s 48 57 = false then some (v, s) else pV T m n (10 * v + T 3 s - 48) (s + 1)
theorem pV_1 {T : az_S} {m n s : Nat} {v : Int32} {R : Int32 × Nat} (h : pV T m n v s = some R) (hv : v ≤ 0) : R = (v, s) := by
  cases n with
  | zero => cases h
  | succ n => rw [pV, if_pos hv] at h; cases h; rfl
theorem pV_2 {T : az_S} {m n s : Nat} {v : Int32} {R : Int32 × Nat} (h : pV T m n v s = some R) (hv : ¬ v ≤ 0) (hv2 : 100 ≤ v) : R = (v, s) := by
  cases n with
  | zero => cases h
  | succ n => rw [pV, if_neg hv, if_pos hv2] at h; cases h; rfl
theorem pV_3 {T : az_S} {m n s : Nat} {v : Int32} {R : Int32 × Nat} (h : pV T m n v s = some R) (hv : ¬ v ≤ 0) (hv2 : ¬ 100 ≤ v) (hs : snT T m s 48 57 = false) : R = (v, s) := by
  cases n with
  | zero => cases h
  | succ n => rw [pV, if_neg hv, if_neg hv2, if_pos hs] at h; cases h; rfl
theorem pV_4 {T : az_S} {m n s : Nat} {v : Int32} {R : Int32 × Nat} (h : pV T m n v s = some R) (hv : ¬ v ≤ 0) (hv2 : ¬ 100 ≤ v) (hs : snT T m s 48 57 = true) : 0 < n ∧ pV T m (n - 1) (10 * v + T 3 s - 48) (s + 1) = some R := by
  cases n with
  | zero => cases h
  | succ n =>
    rw [pV, if_neg hv, if_neg hv2, if_neg (by rw [hs]; decide)] at h
    exact ⟨by omega, h⟩
def pG (T : az_S) (g : Nat → Int32) (s k : Nat) : Nat → Int32 := upd (upd g (2 * k) (T 3 s - 48)) (2 * k + 1) (-6)
def pE (T : az_S) (m s k : Nat) (g : Nat → Int32) : Bool × (Nat → Int32) × Nat :=
  if snT T m s 48 55 = false then (false, g, s)
  else if snT T m (s + 1) 45 45 = true then (true, pG T g s k, s + 1 + 1)
  else if snT T m (s + 1) 61 61 = false then (false, pG T g s k, s + 1)
  else if snT T m (s + 1 + 1) 48 57 = false then (false, pG T g s k, s + 1 + 1)
  else match pV T m 3 (T 3 (s + 1 + 1) - 48) (s + 1 + 1 + 1) with
    | some R => (true, upd (pG T g s k) (2 * k + 1) R.1, R.2)
    | none => (false, g, s)
theorem inB_2x {x lo hi : Int32} (h : inB x lo hi = true) : ¬ x < lo ∧ ¬ hi < x := by
  unfold inB at h
  rw [Bool.and_eq_true] at h
  obtain ⟨h1, h2⟩ := h
  exact ⟨by simpa using h1, by simpa using h2⟩
/-- a digit's value -/
theorem dig_v {T : az_S} {m s : Nat} (h : snT T m s 48 57 = true) : ∃ d : Nat, d < 10 ∧ T 3 s = nI (48 + d) := by
  have h2 := h
  rw [sn_2 (sn_lt h)] at h2
  obtain ⟨h3, h4⟩ := inB_2x h2
  have h0 : ¬ T 3 s < 0 := fun z => h3 (Int32.lt_trans z (by decide))
  obtain ⟨x, hx, hx2⟩ := nI_of2 (M := 57) (n := 57) rfl h0 (Int32.not_lt.mp h4)
  have h5 : ¬ x < 48 := fun z => h3 (by rw [hx2]; exact (nI_ltI (a := x) (b := 48) (by omega) (by decide)).mpr z)
  exact ⟨x - 48, by omega, by rw [hx2]; exact congrArg nI (by omega)⟩
theorem dig_s {d : Nat} : nI (48 + d) - 48 = nI d := by
  rw [ixs (x := nI (48 + d)) (y := 48) (a := 48 + d) (b := 48) rfl rfl (by omega)]
  exact congrArg nI (by omega)
theorem dig_n {u d : Nat} : 10 * nI u + nI (48 + d) - 48 = nI (10 * u + d) := by
  rw [ixm (x := 10) (y := nI u) (a := 10) (b := u) rfl rfl, nI_add, ixs (x := nI (10 * u + (48 + d))) (y := 48) (a := 10 * u + (48 + d)) (b := 48) rfl rfl (by omega)]
  exact congrArg nI (by omega)
theorem pV_le {T : az_S} {m : Nat} : ∀ {n s : Nat} {v : Int32} {R : Int32 × Nat}, s ≤ m → pV T m n v s = some R → s ≤ R.2 ∧ R.2 ≤ m
  | 0, _, _, _, _, h => by cases h
  | n + 1, s, v, R, hs, h => by
    by_cases q1 : v ≤ 0
    · rw [pV_1 h q1]; exact ⟨Nat.le_refl _, hs⟩
    · by_cases q2 : 100 ≤ v
      · rw [pV_2 h q1 q2]; exact ⟨Nat.le_refl _, hs⟩
      · cases q3 : snT T m s 48 57
        · rw [pV_3 h q1 q2 q3]; exact ⟨Nat.le_refl _, hs⟩
        · have h2 := (pV_4 h q1 q2 q3).2
          rw [Nat.add_sub_cancel] at h2
          have := pV_le (show s + 1 ≤ m from sn_lt q3) h2
          omega
/-- a value of a number: 0, or below 10, or below 100, or from 100 on -/
theorem pV_some {T : az_S} {m : Nat} : ∀ {n s u : Nat}, (u = 0 → 0 < n) → (0 < u → u < 10 → 2 < n) → (10 ≤ u → u < 100 → 1 < n) → (100 ≤ u → 0 < n) → u < 1000 → ∃ x y, x < 1000 ∧ pV T m n (nI u) s = some (nI x, y)
  | 0, s, u, h0, h1, h2, h3, _ => by omega
  | n + 1, s, u, h0, h1, h2, h3, h4 => by
    unfold pV
    by_cases q1 : nI u ≤ 0
    · rw [if_pos q1]; exact ⟨u, s, h4, rfl⟩
    · rw [if_neg q1]
      have q1' : 0 < u := by
        rcases Nat.eq_zero_or_pos u with z | z
        · exact absurd (by rw [z]; decide) q1
        · exact z
      by_cases q2 : 100 ≤ nI u
      · rw [if_pos q2]; exact ⟨u, s, h4, rfl⟩
      · rw [if_neg q2]
        have q2' : u < 100 := by
          rcases Nat.lt_or_ge u 100 with z | z
          · exact z
          · exact absurd ((nI_leI (a := 100) (b := u) (by decide) (by omega)).mpr z) q2
        cases q3 : snT T m s 48 57
        · rw [if_pos rfl]; exact ⟨u, s, h4, rfl⟩
        · rw [if_neg (by decide)]
          obtain ⟨d, hd, hd2⟩ := dig_v q3
          rw [hd2, dig_n]
          exact pV_some (by omega) (by omega) (by omega) (by omega) (by omega)
theorem pE_3 {T : az_S} {m s k : Nat} {g : Nat → Int32} (h1 : snT T m s 48 55 = true) (h2 : snT T m (s + 1) 45 45 = false) (h3 : snT T m (s + 1) 61 61 = true) (h4 : snT T m (s + 1 + 1) 48 57 = true) : ∃ x y, x < 1000 ∧ s + 1 + 1 + 1 ≤ y ∧ y ≤ m ∧ pV T m 3 (T 3 (s + 1 + 1) - 48) (s + 1 + 1 + 1) = some (nI x, y) ∧ pE T m s k g = (true, upd (pG T g s k) (2 * k + 1) (nI x), y) := by
  obtain ⟨d, hd, hd2⟩ := dig_v h4
  obtain ⟨x, y, h5, h6⟩ := pV_some (T := T) (m := m) (n := 3) (s := s + 1 + 1 + 1) (u := d) (by omega) (by omega) (by omega) (by omega) (by omega)
  rw [← dig_s, ← hd2] at h6
  have h7 := pV_le (show s + 1 + 1 + 1 ≤ m from sn_lt h4) h6
  refine ⟨x, y, h5, h7.1, h7.2, h6, ?_⟩
  unfold pE
  rw [if_neg (by rw [h1]; decide), if_neg (by rw [h2]; decide), if_neg (by rw [h3]; decide), if_neg (by rw [h4]; decide), h6]
theorem mw_4x {w : az_W} {T : az_S} {g : Nat → Int32} {s k : Nat} : mw w (tX T g s k) 155 = .inl (1, 60, .inl (T 3)) := mw_4
theorem mw_5x {w : az_W} {T : az_S} {g : Nat → Int32} {s k : Nat} : mw w (tX T g s k) 156 = .inl (0, 42, .inl g) := mw_5

set_option maxRecDepth 20000 in
theorem rf_isEntry {X : az_X} {w : az_W} {sz sl : Nat} {T : az_S} {g : Nat → Int32} {s k m : Nat} (hl : T 5 2 = nI m) (hm : m ≤ 60) (hs : s ≤ m) (hk : s < m → k < 20) : az_M X 170 [.ref 151] (mw w (tX T g s k)) sz sl (some (.int (zb (pE T m s k g).1)), mw w (tX T (pE T m s k g).2.1 (pE T m s k g).2.2 k), sz, sl) := by
  refine az_Mof hd170 ?_
  show az_Ev X 170 0 [.ref 151, .null] [] (mw w (tX T g s k)) sz sl _
  refine E_al0 k170_0 ?_
  refine E_bipush k170_1 ?_
  refine E_bipush k170_2 ?_
  refine E_cv2 k170_3 (Or.inl rfl) mw_0 cl168 rfl rfl (x_sees hl hm (by omega)) ?_
  refine E_zne k170_4 (fun c4 => ?_) (fun d4 => ?_)
  · skip
    have hlt := sn_lt c4
    have hk2 := hk hlt
    refine E_al0 k170_7 ?_
    refine E_get k170_8 mw_0 rfl ?_
    refine E_iconst k170_9 ?_
    refine E_al0 k170_10 ?_
    refine E_get k170_11 mw_0 rfl ?_
    refine E_imul k170_12 ?_
    refine E_al0 k170_13 ?_
    refine E_get k170_14 mw_0 rfl ?_
    refine E_al0 k170_15 ?_
    refine E_get k170_16 mw_0 rfl ?_
    refine E_alx k170_17 tX_53 rfl mw_4x (by omega) (by decide) ?_
    refine E_bipush k170_18 ?_
    refine E_isub k170_19 ?_
    refine E_asx k170_20 (ixm (show (2 : Int32) = nI 2 from rfl) tX_54) mw_5x (by omega) (by decide) ?_
    rw [mu_5, tX_g]
    refine E_al0 k170_21 ?_
    refine E_dupR k170_22 ?_
    refine E_get k170_23 mw_0 rfl ?_
    refine E_iconst k170_24 ?_
    refine E_iadd k170_25 ?_
    refine E_put k170_26 mw_0 (Nat.le_of_ble_eq_true rfl) (az_fiti rfl) ?_
    rw [mu_p3, tX_inc]
    refine E_al0 k170_27 ?_
    refine E_get k170_28 mw_0 rfl ?_
    refine E_iconst k170_29 ?_
    refine E_al0 k170_30 ?_
    refine E_get k170_31 mw_0 rfl ?_
    refine E_imul k170_32 ?_
    refine E_iconst k170_33 ?_
    refine E_iadd k170_34 ?_
    refine E_bipush k170_35 ?_
    refine E_asx k170_36 (ixa (ixm (show (2 : Int32) = nI 2 from rfl) tX_54) (show (1 : Int32) = nI 1 from rfl)) mw_5x (by omega) (by decide) ?_
    rw [mu_5, tX_g]
    refine E_al0 k170_37 ?_
    refine E_bipush k170_38 ?_
    refine E_cv1 k170_39 (Or.inl rfl) mw_0 cl169 rfl rfl (x_takes hl hm (by omega)) ?_
    refine E_zeq k170_40 (fun c40 => ?_) (fun d40 => ?_)
    · skip
      rw [c40, if_neg (show ¬ false = true by decide)]
      refine E_al0 k170_43 ?_
      refine E_bipush k170_44 ?_
      refine E_cv1 k170_45 (Or.inl rfl) mw_0 cl169 rfl rfl (x_takes hl hm (by omega)) ?_
      refine E_zeq k170_46 (fun c46 => ?_) (fun d46 => ?_)
      · skip
        rw [c46, if_neg (show ¬ false = true by decide)]
        have hE : pE T m s k g = (false, pG T g s k, s + 1) := by rw [pE, if_neg (by rw [c4]; decide), if_neg (by rw [c40]; decide), if_pos c46]
        refine E_iconst k170_52 ?_
        exact E_zret k170_53 hd170 rfl (by first | exact Or.inl rfl | exact Or.inr rfl | exact zb01 _ | assumption) (by rw [hE] <;> rfl)
      · skip
        have hlt2 := sn_lt d46
        rw [d46, if_pos (show true = true from rfl)]
        refine E_al0 k170_47 ?_
        refine E_bipush k170_48 ?_
        refine E_bipush k170_49 ?_
        refine E_cv2 k170_50 (Or.inl rfl) mw_0 cl168 rfl rfl (x_sees hl hm (by omega)) ?_
        refine E_zne k170_51 (fun c51 => ?_) (fun d51 => ?_)
        · skip
          have hlt3 := sn_lt c51
          obtain ⟨x, y, hx, hy1, hy2, hR, hE⟩ := pE_3 (k := k) (g := g) c4 c40 d46 c51
          refine E_al0 k170_54 ?_
          refine E_get k170_55 mw_0 rfl ?_
          refine E_al0 k170_56 ?_
          refine E_get k170_57 mw_0 rfl ?_
          refine E_alx k170_58 tX_53 rfl mw_4x (by omega) (by decide) ?_
          refine E_bipush k170_59 ?_
          refine E_isub k170_60 ?_
          refine E_is1 k170_61 rfl ?_
          refine E_al0 k170_62 ?_
          refine E_dupR k170_63 ?_
          refine E_get k170_64 mw_0 rfl ?_
          refine E_iconst k170_65 ?_
          refine E_iadd k170_66 ?_
          refine E_put k170_67 mw_0 (Nat.le_of_ble_eq_true rfl) (az_fiti rfl) ?_
          rw [mu_p3, tX_inc]
          have loop68 : ∀ j : Nat, j ≤ 3 → ∀ (v : Int32) (s2 : Nat), s2 ≤ m → pV T m (3 - j) v s2 = some (nI x, y) → az_Ev X 170 68 [.ref 151, .int v] [] (mw w (tX T (pG T g s k) s2 k)) sz sl (some (.int (zb (pE T m s k g).1)), mw w (tX T (pE T m s k g).2.1 (pE T m s k g).2.2 k), sz, sl) := by
            refine az_ind 3 _ (fun j hj68 ih68 => ?_)
            intro v s2 hs2 hf
            refine E_il1 k170_68 ?_
            refine E_ifle k170_69 (fun c69 => ?_) (fun d69 => ?_)
            · skip
              have hf := pV_1 hf c69
              refine E_al0 k170_97 ?_
              refine E_get k170_98 mw_0 rfl ?_
              refine E_iconst k170_99 ?_
              refine E_al0 k170_100 ?_
              refine E_get k170_101 mw_0 rfl ?_
              refine E_imul k170_102 ?_
              refine E_iconst k170_103 ?_
              refine E_iadd k170_104 ?_
              refine E_il1 k170_105 ?_
              refine E_asx k170_106 (ixa (ixm (show (2 : Int32) = nI 2 from rfl) tX_54) (show (1 : Int32) = nI 1 from rfl)) mw_5x (by omega) (by decide) ?_
              rw [mu_5, tX_g]
              refine E_iconst k170_107 ?_
              exact E_zret k170_108 hd170 rfl (by first | exact Or.inl rfl | exact Or.inr rfl | exact zb01 _ | assumption) (by rw [hE]; cases hf; rfl)
            · skip
              refine E_il1 k170_70 ?_
              refine E_bipush k170_71 ?_
              refine E_icge k170_72 (fun c72 => ?_) (fun d72 => ?_)
              · skip
                have hf := pV_2 hf d69 c72
                refine E_al0 k170_97 ?_
                refine E_get k170_98 mw_0 rfl ?_
                refine E_iconst k170_99 ?_
                refine E_al0 k170_100 ?_
                refine E_get k170_101 mw_0 rfl ?_
                refine E_imul k170_102 ?_
                refine E_iconst k170_103 ?_
                refine E_iadd k170_104 ?_
                refine E_il1 k170_105 ?_
                refine E_asx k170_106 (ixa (ixm (show (2 : Int32) = nI 2 from rfl) tX_54) (show (1 : Int32) = nI 1 from rfl)) mw_5x (by omega) (by decide) ?_
                rw [mu_5, tX_g]
                refine E_iconst k170_107 ?_
                exact E_zret k170_108 hd170 rfl (by first | exact Or.inl rfl | exact Or.inr rfl | exact zb01 _ | assumption) (by rw [hE]; cases hf; rfl)
              · skip
                refine E_al0 k170_73 ?_
                refine E_bipush k170_74 ?_
                refine E_bipush k170_75 ?_
                refine E_cv2 k170_76 (Or.inl rfl) mw_0 cl168 rfl rfl (x_sees hl hm (by omega)) ?_
                refine E_zeq k170_77 (fun c77 => ?_) (fun d77 => ?_)
                · skip
                  have hf := pV_3 hf d69 d72 c77
                  refine E_al0 k170_97 ?_
                  refine E_get k170_98 mw_0 rfl ?_
                  refine E_iconst k170_99 ?_
                  refine E_al0 k170_100 ?_
                  refine E_get k170_101 mw_0 rfl ?_
                  refine E_imul k170_102 ?_
                  refine E_iconst k170_103 ?_
                  refine E_iadd k170_104 ?_
                  refine E_il1 k170_105 ?_
                  refine E_asx k170_106 (ixa (ixm (show (2 : Int32) = nI 2 from rfl) tX_54) (show (1 : Int32) = nI 1 from rfl)) mw_5x (by omega) (by decide) ?_
                  rw [mu_5, tX_g]
                  refine E_iconst k170_107 ?_
                  exact E_zret k170_108 hd170 rfl (by first | exact Or.inl rfl | exact Or.inr rfl | exact zb01 _ | assumption) (by rw [hE]; cases hf; rfl)
                · skip
                  have hlt4 := sn_lt d77
                  obtain ⟨hq1, hq2⟩ := pV_4 hf d69 d72 d77
                  have hlt68 : j < 3 := by omega
                  refine E_bipush k170_78 ?_
                  refine E_il1 k170_79 ?_
                  refine E_imul k170_80 ?_
                  refine E_al0 k170_81 ?_
                  refine E_get k170_82 mw_0 rfl ?_
                  refine E_al0 k170_83 ?_
                  refine E_get k170_84 mw_0 rfl ?_
                  refine E_alx k170_85 tX_53 rfl mw_4x (by omega) (by decide) ?_
                  refine E_iadd k170_86 ?_
                  refine E_bipush k170_87 ?_
                  refine E_isub k170_88 ?_
                  refine E_is1 k170_89 rfl ?_
                  refine E_al0 k170_90 ?_
                  refine E_dupR k170_91 ?_
                  refine E_get k170_92 mw_0 rfl ?_
                  refine E_iconst k170_93 ?_
                  refine E_iadd k170_94 ?_
                  refine E_put k170_95 mw_0 (Nat.le_of_ble_eq_true rfl) (az_fiti rfl) ?_
                  rw [mu_p3, tX_inc]
                  refine E_goto k170_96 ?_
                  exact ev_cong (ih68 hlt68 _ _ (show s2 + 1 ≤ m from hlt4) hq2) rfl rfl rfl
          exact ev_cong (loop68 0 (Nat.zero_le _) _ _ (show s + 1 + 1 + 1 ≤ m from hlt3) hR) rfl rfl rfl
        · skip
          have hE : pE T m s k g = (false, pG T g s k, s + 1 + 1) := by rw [pE, if_neg (by rw [c4]; decide), if_neg (by rw [c40]; decide), if_neg (by rw [d46]; decide), if_pos d51]
          refine E_iconst k170_52 ?_
          exact E_zret k170_53 hd170 rfl (by first | exact Or.inl rfl | exact Or.inr rfl | exact zb01 _ | assumption) (by rw [hE] <;> rfl)
    · skip
      rw [d40, if_pos (show true = true from rfl)]
      have hE : pE T m s k g = (true, pG T g s k, s + 1 + 1) := by rw [pE, if_neg (by rw [c4]; decide), if_pos d40]
      refine E_iconst k170_41 ?_
      exact E_zret k170_42 hd170 rfl (by first | exact Or.inl rfl | exact Or.inr rfl | exact zb01 _ | assumption) (by rw [hE] <;> rfl)
  · skip
    have hE : pE T m s k g = (false, g, s) := by rw [pE, if_pos d4]
    refine E_iconst k170_5 ?_
    exact E_zret k170_6 hd170 rfl (by first | exact Or.inl rfl | exact Or.inr rfl | exact zb01 _ | assumption) (by rw [hE] <;> rfl)
