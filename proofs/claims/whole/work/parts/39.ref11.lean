/-! methods' runs, laid by wip/whole/walk.py out of wip/whole/specs24.py -/
/-! the reference reads its text -/
def snT (T : az_S) (m s : Nat) (lo hi : Int32) : Bool := decide (s < m) && inB (T 3 s) lo hi
theorem sn_1 {T : az_S} {m s : Nat} {lo hi : Int32} (h : ¬ s < m) : snT T m s lo hi = false := by rw [snT, decide_eq_false h]; rfl
theorem sn_2 {T : az_S} {m s : Nat} {lo hi : Int32} (h : s < m) : snT T m s lo hi = inB (T 3 s) lo hi := by rw [snT, decide_eq_true h, Bool.true_and]
def tSp (T : az_S) (x : Nat) : az_S := va_up T 5 (upd (T 5) 3 (nI x))

set_option maxRecDepth 20000 in
theorem rf_sees {X : az_X} {w : az_W} {sz sl : Nat} {T : az_S} {m s : Nat} {lo hi : Int32} (hl : T 5 2 = nI m) (hm : m ≤ 60) (hs : T 5 3 = nI s) (hs2 : s ≤ 60) : az_M X 168 [.ref 151, .int lo, .int hi] (mw w T) sz sl (some (.int (zb (snT T m s lo hi))), mw w T, sz, sl) := by
  refine az_Mof hd168 ?_
  show az_Ev X 168 0 [.ref 151, .int lo, .int hi] [] (mw w T) sz sl _
  refine E_al0 k168_0 ?_
  refine E_get k168_1 mw_0 rfl ?_
  refine E_al0 k168_2 ?_
  refine E_get k168_3 mw_0 rfl ?_
  refine E_icge k168_4 (fun c4 => ?_) (fun d4 => ?_)
  · skip
    have hge : ¬ s < m := by
      rw [hl, hs] at c4
      have := (nI_leI (by omega) (by omega)).mp c4
      omega
    refine E_iconst k168_16 ?_
    exact E_zret k168_17 hd168 rfl (by first | exact Or.inl rfl | exact Or.inr rfl | exact zb01 _ | assumption) (by first | (rw [sn_1 hge] <;> rfl) | (rw [sn_2 hlt, c13] <;> rfl) | (rw [sn_2 hlt, d13] <;> rfl))
  · skip
    have hlt : s < m := by
      rcases Nat.lt_or_ge s m with z | z
      · exact z
      · exact absurd (by rw [hl, hs]; exact (nI_leI (by omega) (by omega)).mpr z) d4
    refine E_al0 k168_5 ?_
    refine E_get k168_6 mw_0 rfl ?_
    refine E_al0 k168_7 ?_
    refine E_get k168_8 mw_0 rfl ?_
    refine E_alx k168_9 hs rfl mw_4 (by omega) (by decide) ?_
    refine E_il1 k168_10 ?_
    refine E_il2 k168_11 ?_
    refine E_cs3 k168_12 (Or.inl rfl) rfl rfl r_in ?_
    refine E_zeq k168_13 (fun c13 => ?_) (fun d13 => ?_)
    · skip
      refine E_iconst k168_16 ?_
      exact E_zret k168_17 hd168 rfl (by first | exact Or.inl rfl | exact Or.inr rfl | exact zb01 _ | assumption) (by first | (rw [sn_1 hge] <;> rfl) | (rw [sn_2 hlt, c13] <;> rfl) | (rw [sn_2 hlt, d13] <;> rfl))
    · skip
      refine E_iconst k168_14 ?_
      refine E_goto k168_15 ?_
      exact E_zret k168_17 hd168 rfl (by first | exact Or.inl rfl | exact Or.inr rfl | exact zb01 _ | assumption) (by first | (rw [sn_1 hge] <;> rfl) | (rw [sn_2 hlt, c13] <;> rfl) | (rw [sn_2 hlt, d13] <;> rfl))
set_option maxRecDepth 20000 in
theorem rf_takes {X : az_X} {w : az_W} {sz sl : Nat} {T : az_S} {m s : Nat} {c : Int32} (hl : T 5 2 = nI m) (hm : m ≤ 60) (hs : T 5 3 = nI s) (hs2 : s ≤ 60) : az_M X 169 [.ref 151, .int c] (mw w T) sz sl (some (.int (zb (snT T m s c c))), mw w (tSp T (if snT T m s c c = true then s + 1 else s)), sz, sl) := by
  refine az_Mof hd169 ?_
  show az_Ev X 169 0 [.ref 151, .int c, .null] [] (mw w T) sz sl _
  refine E_al0 k169_0 ?_
  refine E_il1 k169_1 ?_
  refine E_il1 k169_2 ?_
  refine E_cv2 k169_3 (Or.inl rfl) mw_0 cl168 rfl rfl (rf_sees hl hm hs hs2) ?_
  refine E_is2 k169_4 rfl ?_
  refine E_al0 k169_5 ?_
  refine E_dupR k169_6 ?_
  refine E_get k169_7 mw_0 rfl ?_
  refine E_il2 k169_8 ?_
  refine E_zeq k169_9 (fun c9 => ?_) (fun d9 => ?_)
  · skip
    refine E_iconst k169_12 ?_
    refine E_iadd k169_13 ?_
    refine E_put k169_14 mw_0 (Nat.le_of_ble_eq_true rfl) (az_fiti rfl) ?_
    rw [mu_p3]
    refine E_il2 k169_15 ?_
    exact E_zret k169_16 hd169 rfl (by first | exact Or.inl rfl | exact Or.inr rfl | exact zb01 _ | assumption) (by first | (rw [if_neg (by rw [c9]; decide), hs, Int32.add_zero] <;> rfl) | (rw [if_pos d9, hs, nI_1] <;> rfl))
  · skip
    refine E_iconst k169_10 ?_
    refine E_goto k169_11 ?_
    refine E_iadd k169_13 ?_
    refine E_put k169_14 mw_0 (Nat.le_of_ble_eq_true rfl) (az_fiti rfl) ?_
    rw [mu_p3]
    refine E_il2 k169_15 ?_
    exact E_zret k169_16 hd169 rfl (by first | exact Or.inl rfl | exact Or.inr rfl | exact zb01 _ | assumption) (by first | (rw [if_neg (by rw [c9]; decide), hs, Int32.add_zero] <;> rfl) | (rw [if_pos d9, hs, nI_1] <;> rfl))
