/-! methods' runs, laid by wip/whole/walk.py out of wip/whole/specs26.py -/
/-! the reference reads its whole text, and writes all of it -/
theorem pE_le {T : az_S} {m s k : Nat} {g : Nat → Int32} (hs : s ≤ m) : (pE T m s k g).2.2 ≤ m := by
  unfold pE
  cases h1 : snT T m s 48 55
  · rw [if_pos rfl]; exact hs
  · rw [if_neg (by decide)]
    have l1 := sn_lt h1
    cases h2 : snT T m (s + 1) 45 45
    · rw [if_neg (by decide)]
      cases h3 : snT T m (s + 1) 61 61
      · rw [if_pos rfl]; exact l1
      · rw [if_neg (by decide)]
        have l3 := sn_lt h3
        cases h4 : snT T m (s + 1 + 1) 48 57
        · rw [if_pos rfl]; exact l3
        · obtain ⟨x, y, h5, h6, h7, h8, h9⟩ := pE_3 (k := k) (g := g) h1 h2 h3 h4
          rw [if_neg (by decide), h8]
          exact h7
    · rw [if_pos rfl]
      exact sn_lt h2
theorem pE_ge {T : az_S} {m s k : Nat} {g : Nat → Int32} (h : (pE T m s k g).1 = true) : s + 2 ≤ (pE T m s k g).2.2 := by
  unfold pE at h ⊢
  cases h1 : snT T m s 48 55
  · rw [h1, if_pos rfl] at h; cases h
  · rw [h1, if_neg (show ¬ true = false by decide)] at h
    rw [if_neg (show ¬ true = false by decide)]
    cases h2 : snT T m (s + 1) 45 45
    · rw [h2, if_neg (show ¬ false = true by decide)] at h
      rw [if_neg (show ¬ false = true by decide)]
      cases h3 : snT T m (s + 1) 61 61
      · rw [h3, if_pos rfl] at h; cases h
      · rw [h3, if_neg (show ¬ true = false by decide)] at h
        rw [if_neg (show ¬ true = false by decide)]
        cases h4 : snT T m (s + 1 + 1) 48 57
        · rw [h4, if_pos rfl] at h; cases h
        · obtain ⟨x, y, h5, h6, h7, h8, h9⟩ := pE_3 (k := k) (g := g) h1 h2 h3 h4
          rw [if_neg (show ¬ true = false by decide), h8]
          show s + 2 ≤ y
          omega
    · rw [if_pos rfl]
      exact Nat.le_refl _
def pF (T : az_S) (m : Nat) : Nat → Bool → (Nat → Int32) → Nat → Nat → Option (Int32 × (Nat → Int32) × Nat × Nat)
  | 0, _, _, _, _ => none
  | n + 1, b, g, s, k => if b = false then some (if nI s = nI m then -5 else nI s, g, s, k)
    else if (pE T m s k g).1 = false then some (nI (pE T m s k g).2.2, (pE T m s k g).2.1, (pE T m s k g).2.2, k)
    else pF T m n (snT T m (pE T m s k g).2.2 44 44) (pE T m s k g).2.1 (if snT T m (pE T m s k g).2.2 44 44 = true then (pE T m s k g).2.2 + 1 else (pE T m s k g).2.2) (k + 1)
theorem pF_1 {T : az_S} {m n s k : Nat} {g : Nat → Int32} {R : Int32 × (Nat → Int32) × Nat × Nat} (h : pF T m n false g s k = some R) : R = (if nI s = nI m then -5 else nI s, g, s, k) := by
  cases n with
  | zero => cases h
  | succ n => rw [pF, if_pos rfl] at h; cases h; rfl
theorem pF_2 {T : az_S} {m n s k : Nat} {g : Nat → Int32} {R : Int32 × (Nat → Int32) × Nat × Nat} (h : pF T m n true g s k = some R) (h2 : (pE T m s k g).1 = false) : R = (nI (pE T m s k g).2.2, (pE T m s k g).2.1, (pE T m s k g).2.2, k) := by
  cases n with
  | zero => cases h
  | succ n => rw [pF, if_neg (by decide), if_pos h2] at h; cases h; rfl
theorem pF_3 {T : az_S} {m n s k : Nat} {g : Nat → Int32} {R : Int32 × (Nat → Int32) × Nat × Nat} (h : pF T m n true g s k = some R) (h2 : (pE T m s k g).1 = true) : 0 < n ∧ pF T m (n - 1) (snT T m (pE T m s k g).2.2 44 44) (pE T m s k g).2.1 (if snT T m (pE T m s k g).2.2 44 44 = true then (pE T m s k g).2.2 + 1 else (pE T m s k g).2.2) (k + 1) = some R := by
  cases n with
  | zero => cases h
  | succ n =>
    rw [pF, if_neg (by decide), if_neg (by rw [h2]; decide)] at h
    exact ⟨by omega, h⟩
def tlR (g : Nat → Int32) (f : Nat → Int32) : Nat → Nat → Int32
  | 0 => f
  | i + 1 => upd (tlR g f i) (93 + (g (2 * i)).toNatClampNeg) (g (2 * i + 1))
theorem tRec_5 {T : az_S} {k j : Nat} (h : j ≠ 0) : tRec T k 5 j = T 5 j := by
  unfold tRec
  split
  · unfold tR27 tSh
    rw [sU_eq, upd_n h, sU_eq, upd_n h]
  · unfold tR27
    rw [sU_eq, upd_n h]
theorem tRec_4 {T : az_S} {k : Nat} : tRec T k 4 = T 4 := by
  unfold tRec
  split <;> rfl
def tWA (T : az_S) (x : Int32) (g : Nat → Int32) (s K k : Nat) : Int32 × az_S := if ¬ x = -5 then (-100 - x, tX T g s K) else if T 0 101 = 1 then (-4, tX T g s K) else (nI K, va_up (tRec (tX T g s K) k) 0 (tlR g (T 0) K))
theorem mw_5r {w : az_W} {T : az_S} {g : Nat → Int32} {f : Nat → Int32} {s K k : Nat} : mw w (va_up (tRec (tX T g s K) k) 0 f) 156 = .inl (0, 42, .inl g) := by
  rw [mw_5, sU_ne (show 4 ≠ 0 by decide), tRec_4, tX_4]
theorem tR_54 {T : az_S} {g : Nat → Int32} {f : Nat → Int32} {s K k : Nat} : va_up (tRec (tX T g s K) k) 0 f 5 4 = nI K := by
  rw [sU_ne (show 5 ≠ 0 by decide), tRec_5 (by decide), tX_54]

set_option maxRecDepth 20000 in
theorem rf_fault {X : az_X} {w : az_W} {sz sl : Nat} {T : az_S} {n m : Nat} {R : Int32 × (Nat → Int32) × Nat × Nat} (hl : T 5 2 = nI m) (hm : m ≤ 60) (hF : pF T m n true (T 4) 0 0 = some R) : az_M X 171 [.ref 151] (mw w T) sz sl (some (.int R.1), mw w (tX T R.2.1 R.2.2.1 R.2.2.2), sz, sl) := by
  refine az_Mof hd171 ?_
  show az_Ev X 171 0 [.ref 151, .null] [] (mw w T) sz sl _
  refine E_al0 k171_0 ?_
  refine E_iconst k171_1 ?_
  refine E_put k171_2 mw_0 (Nat.le_of_ble_eq_true rfl) (az_fiti rfl) ?_
  rw [mu_p3]
  refine E_al0 k171_3 ?_
  refine E_iconst k171_4 ?_
  refine E_put k171_5 mw_0 (Nat.le_of_ble_eq_true rfl) (az_fiti rfl) ?_
  rw [mu_p4]
  refine E_iconst k171_6 ?_
  refine E_is1 k171_7 rfl ?_
  have loop8 : ∀ j : Nat, j ≤ n → ∀ (b : Bool) (g : Nat → Int32) (s k : Nat), s ≤ m → (b = true → 3 * k ≤ s) → pF T m (n - j) b g s k = some R → az_Ev X 171 8 [.ref 151, .int (zb b)] [] (mw w (tX T g s k)) sz sl (some (.int R.1), mw w (tX T R.2.1 R.2.2.1 R.2.2.2), sz, sl) := by
    refine az_ind n _ (fun j hj8 ih8 => ?_)
    intro b g s k hs hb hf
    refine E_il1 k171_8 ?_
    refine E_zeq k171_9 (fun c9 => ?_) (fun d9 => ?_)
    · skip
      subst c9
      have hR := pF_1 hf
      refine E_al0 k171_27 ?_
      refine E_get k171_28 mw_0 rfl ?_
      refine E_al0 k171_29 ?_
      refine E_get k171_30 mw_0 rfl ?_
      refine E_icne k171_31 (fun c31 => ?_) (fun d31 => ?_)
      · skip
        refine E_al0 k171_34 ?_
        refine E_get k171_35 mw_0 rfl ?_
        exact E_iret k171_36 hd171 rfl (by first | (rw [hR, if_neg (show ¬ nI s = nI m from fun z => c31 (z.trans hl.symm))] <;> rfl) | (rw [hR, if_pos (show nI s = nI m from (Classical.not_not.mp d31).trans hl)] <;> rfl))
      · skip
        refine E_bipush k171_32 ?_
        refine E_goto k171_33 ?_
        exact E_iret k171_36 hd171 rfl (by first | (rw [hR, if_neg (show ¬ nI s = nI m from fun z => c31 (z.trans hl.symm))] <;> rfl) | (rw [hR, if_pos (show nI s = nI m from (Classical.not_not.mp d31).trans hl)] <;> rfl))
    · skip
      subst d9
      refine E_al0 k171_10 ?_
      refine E_cv0 k171_11 (Or.inl rfl) mw_0 cl170 rfl rfl (rf_isEntry hl hm hs (fun z => by have := hb rfl; omega)) ?_
      refine E_zne k171_12 (fun c12 => ?_) (fun d12 => ?_)
      · skip
        obtain ⟨hn8, hf3⟩ := pF_3 hf c12
        have hlt8 : j < n := by omega
        have hge := pE_ge c12
        have hle := pE_le (T := T) (k := k) (g := g) hs
        have hb2 := hb rfl
        have hs3 : (if snT T m (pE T m s k g).2.2 44 44 = true then (pE T m s k g).2.2 + 1 else (pE T m s k g).2.2) ≤ m := by
          split
          · rename_i z
            exact sn_lt z
          · exact hle
        have hb3 : snT T m (pE T m s k g).2.2 44 44 = true → 3 * (k + 1) ≤ (if snT T m (pE T m s k g).2.2 44 44 = true then (pE T m s k g).2.2 + 1 else (pE T m s k g).2.2) := fun z => by
          rw [if_pos z]
          omega
        refine E_al0 k171_16 ?_
        refine E_dupR k171_17 ?_
        refine E_get k171_18 mw_0 rfl ?_
        refine E_iconst k171_19 ?_
        refine E_iadd k171_20 ?_
        refine E_put k171_21 mw_0 (Nat.le_of_ble_eq_true rfl) (az_fiti rfl) ?_
        rw [mu_p4, tX_inck]
        refine E_al0 k171_22 ?_
        refine E_bipush k171_23 ?_
        refine E_cv1 k171_24 (Or.inl rfl) mw_0 cl169 rfl rfl (x_takes hl hm (by have := pE_le (T := T) (k := k) (g := g) hs; omega)) ?_
        refine E_is1 k171_25 rfl ?_
        refine E_goto k171_26 ?_
        exact ev_cong (ih8 hlt8 (snT T m (pE T m s k g).2.2 44 44) _ _ _ hs3 hb3 hf3) rfl rfl rfl
      · skip
        have hR := pF_2 hf d12
        refine E_al0 k171_13 ?_
        refine E_get k171_14 mw_0 rfl ?_
        exact E_iret k171_15 hd171 rfl (by rw [hR] <;> rfl)
  exact ev_cong (loop8 0 (Nat.zero_le _) true (T 4) 0 0 (Nat.zero_le _) (fun _ => Nat.le_refl _) hF) rfl rfl (by rw [tX_0])
set_option maxRecDepth 20000 in
theorem rf_writeAll {X : az_X} {w : az_W} {sz sl : Nat} {T : az_S} {n m s K k : Nat} {x : Int32} {g : Nat → Int32} (hl : T 5 2 = nI m) (hm : m ≤ 60) (hp : T 5 0 = nI k) (hk : k ≤ 4) (hF : pF T m n true (T 4) 0 0 = some (x, g, s, K)) (hg : x = -5 → ∀ i, i < K → ∃ p, p < 8 ∧ g (2 * i) = nI p) (hK : x = -5 → K ≤ 20) : az_M X 148 [.ref 151] (mw w T) sz sl (some (.int (tWA T x g s K k).1), mw w (tWA T x g s K k).2, sz, sl) := by
  refine az_Mof hd148 ?_
  show az_Ev X 148 0 [.ref 151, .null, .null] [] (mw w T) sz sl _
  refine E_al0 k148_0 ?_
  refine E_cv0 k148_1 (Or.inl rfl) mw_0 cl171 rfl rfl (rf_fault hl hm hF) ?_
  refine E_is1 k148_2 rfl ?_
  refine E_il1 k148_3 ?_
  refine E_bipush k148_4 ?_
  refine E_iceq k148_5 (fun c5 => ?_) (fun d5 => ?_)
  · skip
    have hK2 := hK c5
    refine E_al0 k148_10 ?_
    refine E_get k148_11 mw_0 rfl ?_
    refine E_bipush k148_12 ?_
    refine E_alx k148_13 (show (101 : Int32) = nI 101 from rfl) rfl mw_1 (by omega) (by decide) ?_
    refine E_iconst k148_14 ?_
    refine E_icne k148_15 (fun c15 => ?_) (fun d15 => ?_)
    · skip
      refine E_al0 k148_18 ?_
      refine E_cv0 k148_19 (Or.inl rfl) mw_0 cl131 rfl rfl (rf_records (T := tX T g s K) hp hk) ?_
      refine E_iconst k148_20 ?_
      refine E_is2 k148_21 rfl ?_
      have loop22 : ∀ j : Nat, j ≤ K → az_Ev X 148 22 [.ref 151, .int x, .int (nI j)] [] (mw w (va_up (tRec (tX T g s K) k) 0 (tlR g (T 0) j))) sz sl (some (.int (tWA T x g s K k).1), mw w (tWA T x g s K k).2, sz, sl) := by
        refine az_ind K _ (fun j hj22 ih22 => ?_)
        refine E_il2 k148_22 ?_
        refine E_al0 k148_23 ?_
        refine E_get k148_24 mw_0 rfl ?_
        refine E_icge k148_25 (fun c25 => ?_) (fun d25 => ?_)
        · skip
          have he22 := lp_t hj22 (by omega) tR_54 c25
          refine E_al0 k148_47 ?_
          refine E_get k148_48 mw_0 rfl ?_
          exact E_iret k148_49 hd148 rfl (by rw [tWA, if_neg (Classical.not_not.mpr c5), if_neg (show ¬ T 0 101 = 1 from c15), he22, tR_54])
        · skip
          have hlt22 : j < K := lp_f (by omega) (by omega) tR_54 d25
          obtain ⟨p, hp8, hgp⟩ := hg c5 j hlt22
          refine E_al0 k148_26 ?_
          refine E_get k148_27 mw_0 rfl ?_
          refine E_bipush k148_28 ?_
          refine E_al0 k148_29 ?_
          refine E_get k148_30 mw_0 rfl ?_
          refine E_iconst k148_31 ?_
          refine E_il2 k148_32 ?_
          refine E_imul k148_33 ?_
          refine E_alx k148_34 (ixm (show (2 : Int32) = nI 2 from rfl) rfl) rfl mw_5r (by omega) (by decide) ?_
          refine E_iadd k148_35 ?_
          refine E_al0 k148_36 ?_
          refine E_get k148_37 mw_0 rfl ?_
          refine E_iconst k148_38 ?_
          refine E_il2 k148_39 ?_
          refine E_imul k148_40 ?_
          refine E_iconst k148_41 ?_
          refine E_iadd k148_42 ?_
          refine E_alx k148_43 (ixa (ixm (show (2 : Int32) = nI 2 from rfl) rfl) (show (1 : Int32) = nI 1 from rfl)) rfl mw_5r (by omega) (by decide) ?_
          refine E_asx k148_44 (ixa (show (93 : Int32) = nI 93 from rfl) hgp) mw_1 (by omega) (by decide) ?_
          rw [mu_1]
          refine E_inc2 k148_45 rfl ?_
          refine E_goto k148_46 ?_
          exact ev_cong (ih22 hlt22) (by rw [nI_1]) rfl (by rw [sU_sU, sU_eq, tlR, hgp, nI_clamp (by omega)])
      exact ev_cong (loop22 0 (Nat.zero_le _)) rfl rfl (by rw [show tlR g (T 0) 0 = tRec (tX T g s K) k 0 from by rw [tRec_0]; rfl, sU_s])
    · skip
      refine E_bipush k148_16 ?_
      exact E_iret k148_17 hd148 rfl (by rw [tWA, if_neg (Classical.not_not.mpr c5), if_pos (show T 0 101 = 1 from Classical.not_not.mp d15)] <;> rfl)
  · skip
    refine E_bipush k148_6 ?_
    refine E_il1 k148_7 ?_
    refine E_isub k148_8 ?_
    exact E_iret k148_9 hd148 rfl (by rw [tWA, if_pos d5] <;> rfl)
