/-! methods' runs, laid by wip/whole/walk.py out of wip/whole/specs27.py -/
/-! the bits of a float, found by halving and doubling; unevenness on both sides -/
theorem c2_f : (0x40000000 : UInt32) = fb 128 0 := by decide +kernel
theorem c1_f : (0x3f800000 : UInt32) = fb 127 0 := by decide +kernel
theorem c23_f : UInt32.ofNat 1258291200 = fb 150 0 := by decide +kernel
theorem fo_gt0 {E T : Nat} (h0 : 0 < E) (hE : E < 255) (hT : T < 2 ^ 23) : FP.fcmp (fb E T) 0 = some .gt := by
  show FP.Core.order (FP.Core.decode f32 (fb E T).toNat) (FP.Core.decode f32 (0 : UInt32).toNat) = _
  rw [fb_dec h0 hE hT, show FP.Core.decode f32 (0 : UInt32).toNat = .fin false 0 (-149) from by decide +kernel]
  show some (compare ((( 2 ^ 23 + T) * 2 ^ (((E : Int) - 150) - min ((E : Int) - 150) (-149)).toNat : Nat) : Int) ((0 * 2 ^ ((-149 : Int) - min ((E : Int) - 150) (-149)).toNat : Nat) : Int)) = _
  rw [Nat.zero_mul, cmp_gt]
  have : 0 < (2 ^ 23 + T) * 2 ^ (((E : Int) - 150) - min ((E : Int) - 150) (-149)).toNat := Nat.mul_pos (by omega) (Nat.two_pow_pos _)
  omega
theorem fo_lt {E T E2 : Nat} (h0 : 0 < E) (hE2 : E2 < 255) (hT : T < 2 ^ 23) (h : E < E2) : FP.fcmp (fb E T) (fb E2 0) = some .lt := by
  show FP.Core.order (FP.Core.decode f32 (fb E T).toNat) (FP.Core.decode f32 (fb E2 0).toNat) = _
  rw [fb_dec h0 (by omega) hT, fb_dec (by omega) hE2 (by decide)]
  show some (compare (((2 ^ 23 + T) * 2 ^ (((E : Int) - 150) - min ((E : Int) - 150) ((E2 : Int) - 150)).toNat : Nat) : Int) (((2 ^ 23 + 0) * 2 ^ (((E2 : Int) - 150) - min ((E : Int) - 150) ((E2 : Int) - 150)).toNat : Nat) : Int)) = _
  rw [show (((E : Int) - 150) - min ((E : Int) - 150) ((E2 : Int) - 150)).toNat = 0 by omega, show (((E2 : Int) - 150) - min ((E : Int) - 150) ((E2 : Int) - 150)).toNat = (E2 - E - 1) + 1 by omega, cmp_lt]
  have := Nat.two_pow_pos (E2 - E - 1)
  rw [Nat.pow_succ]
  omega
theorem fo_ge {E T E2 : Nat} (h0 : 0 < E2) (hE : E < 255) (hT : T < 2 ^ 23) (h : E2 ≤ E) : FP.fcmp (fb E T) (fb E2 0) = some .gt ∨ FP.fcmp (fb E T) (fb E2 0) = some .eq := by
  have e : FP.fcmp (fb E T) (fb E2 0) = some (compare (((2 ^ 23 + T) * 2 ^ (E - E2) : Nat) : Int) ((2 ^ 23 : Nat) : Int)) := by
    show FP.Core.order (FP.Core.decode f32 (fb E T).toNat) (FP.Core.decode f32 (fb E2 0).toNat) = _
    rw [fb_dec (by omega) hE hT, fb_dec h0 (by omega) (by decide)]
    show some (compare (((2 ^ 23 + T) * 2 ^ (((E : Int) - 150) - min ((E : Int) - 150) ((E2 : Int) - 150)).toNat : Nat) : Int) (((2 ^ 23 + 0) * 2 ^ (((E2 : Int) - 150) - min ((E : Int) - 150) ((E2 : Int) - 150)).toNat : Nat) : Int)) = _
    rw [show (((E : Int) - 150) - min ((E : Int) - 150) ((E2 : Int) - 150)).toNat = E - E2 by omega, show (((E2 : Int) - 150) - min ((E : Int) - 150) ((E2 : Int) - 150)).toNat = 0 by omega]
  rw [e]
  have hp := Nat.two_pow_pos (E - E2)
  have h2 : 2 ^ 23 * 1 ≤ (2 ^ 23 + T) * 2 ^ (E - E2) := Nat.mul_le_mul (by omega) hp
  by_cases q : (2 ^ 23 + T) * 2 ^ (E - E2) = 2 ^ 23
  · rw [q, cmp_ee]; exact Or.inr rfl
  · rw [cmp_gt (by omega)]; exact Or.inl rfl
theorem quo_n {f : FP.Core.Fmt} {c d : Nat} {q r : Int} (hd : ¬ d = 0) : FP.Core.quotient f (.fin false c q) (.fin false d r) = FP.Core.roundRatio f false c d (q - r) := by
  show (if d = 0 then (if c = 0 then FP.Core.Datum.nan else .inf (false != false)) else FP.Core.roundRatio f (false != false) c d (q - r)) = _
  rw [if_neg hd]
  rfl
theorem fl_half {E T : Nat} (h0 : 1 < E) (hE : E < 255) (hT : T < 2 ^ 23) : FP.fdiv (fb E T) (fb 128 0) = fb (E - 1) T := by
  show UInt32.ofNat (FP.Core.encode f32 (FP.Core.quotient f32 (FP.Core.decode f32 (fb E T).toNat) (FP.Core.decode f32 (fb 128 0).toNat))) = _
  rw [fb_dec (by omega) hE hT, fb_dec (by decide) (by decide) (by decide), quo_n (by decide), show 2 ^ 23 + 0 = 2 ^ 23 from rfl]
  have hl : (2 ^ 23 + T).log2 = (2 ^ 23).log2 := by
    rw [lg_of (k := 23) (by omega) (by omega)]
    decide +kernel
  have hr : FP.Core.roundRatio f32 false (2 ^ 23 + T) (2 ^ 23) ((E : Int) - 150 - (((128 : Nat) : Int) - 150)) = .fin false (2 ^ 23 + T) ((E : Int) - 151) := by
    unfold FP.Core.roundRatio FP.Core.roundAt FP.Core.quantum FP.Core.unitsNum FP.Core.unitsDen
    rw [if_neg (by omega), lead_s hl, if_pos (by omega)]
    have e1 : max f32.qmin (0 + ((E : Int) - 150 - (((128 : Nat) : Int) - 150)) - ((f32.p : Int) - 1)) = (E : Int) - 151 := by
      rw [qn32]
      show max (-149) (0 + ((E : Int) - 150 - (((128 : Nat) : Int) - 150)) - (((24 : Nat) : Int) - 1)) = _
      omega
    rw [e1, show ((E : Int) - 150 - (((128 : Nat) : Int) - 150) - ((E : Int) - 151)).toNat = 23 by omega, show ((E : Int) - 151 - ((E : Int) - 150 - (((128 : Nat) : Int) - 150))).toNat = 0 by omega, fp_ex (N := 2 ^ 23 + T) (by decide) (by omega)]
    unfold FP.Core.settle FP.Core.bound
    rw [if_pos (show 2 ^ 23 + T < 2 ^ f32.p from show 2 ^ 23 + T < 2 ^ 24 by omega), if_pos (by rw [qx32]; omega)]
  rw [hr, fb_enc (by omega) (by omega) (by omega), show ((E : Int) - 151 + 150).toNat = E - 1 by omega, show 2 ^ 23 + T - 2 ^ 23 = T by omega]
/-- a significand times a power of two, rounded: itself -/
theorem rr_23 {c : Nat} {e : Int} (h1 : 2 ^ 23 ≤ c) (h2 : c < 2 ^ 24) (h3 : -149 ≤ e + 23) (h4 : e + 23 ≤ 104) : FP.Core.roundRatio f32 false (c * 2 ^ 23) 1 e = .fin false c (e + 23) := by
  have hl : (c * 2 ^ 23).log2 = 46 := lg_of (by omega) (by omega)
  have hq : FP.Core.quantum f32 (c * 2 ^ 23) 1 e = e + 23 := by
    unfold FP.Core.quantum
    rw [lead_1 (by omega), hl, qn32]
    show max (-149) (((46 : Nat) : Int) + e - (((24 : Nat) : Int) - 1)) = _
    omega
  unfold FP.Core.roundRatio FP.Core.roundAt FP.Core.unitsNum FP.Core.unitsDen
  rw [if_neg (by omega), hq, show (e - (e + 23)).toNat = 0 by omega, show (e + 23 - e).toNat = 23 by omega, fp_ex (N := c) (by decide) (by omega)]
  unfold FP.Core.settle FP.Core.bound
  rw [if_pos (show c < 2 ^ f32.p from h2), if_pos (by rw [qx32]; exact h4)]
theorem fl_dbl {E T : Nat} (h0 : 0 < E) (hE : E < 254) (hT : T < 2 ^ 23) : FP.fmul (fb E T) (fb 128 0) = fb (E + 1) T := by
  show UInt32.ofNat (FP.Core.encode f32 (FP.Core.round f32 (FP.Core.exactProduct (FP.Core.decode f32 (fb E T).toNat) (FP.Core.decode f32 (fb 128 0).toNat)))) = _
  rw [fb_dec h0 (by omega) hT, fb_dec (by decide) (by decide) (by decide)]
  show UInt32.ofNat (FP.Core.encode f32 (FP.Core.roundRatio f32 false ((2 ^ 23 + T) * 2 ^ 23) 1 ((E : Int) - 150 + (((128 : Nat) : Int) - 150)))) = _
  rw [rr_23 (by omega) (by omega) (by omega) (by omega), fb_enc (by omega) (by omega) (by omega), show ((E : Int) - 150 + (((128 : Nat) : Int) - 150) + 23 + 150).toNat = E + 1 by omega, show 2 ^ 23 + T - 2 ^ 23 = T by omega]
theorem f2i_0 : FP.f2i 0 = nI 0 := by decide +kernel
/-- the fraction of a number from 1 to 2 -/
theorem fl_frac {T : Nat} (hT : T < 2 ^ 23) : FP.fsub (fb 127 T) (fb 127 0) &&& 0x7fffffff ≤ 0x7f800000 ∧ FP.fmul (FP.fsub (fb 127 T) (fb 127 0)) (fb 150 0) &&& 0x7fffffff ≤ 0x7f800000 ∧ FP.f2i (FP.fmul (FP.fsub (fb 127 T) (fb 127 0)) (fb 150 0)) = nI T := by
  have e0 : FP.fsub (fb 127 T) (fb 127 0) = UInt32.ofNat (FP.Core.encode f32 (FP.Core.roundRatio f32 false T 1 (-23))) := by
    show UInt32.ofNat (FP.Core.encode f32 (FP.Core.round f32 (FP.Core.exactSum (FP.Core.decode f32 (fb 127 T).toNat) (FP.Core.negate (FP.Core.decode f32 (fb 127 0).toNat))))) = _
    rw [fb_dec (by decide) (by decide) hT, fb_dec (by decide) (by decide) (by decide)]
    show UInt32.ofNat (FP.Core.encode f32 (FP.Core.round f32 (.fin (FP.Core.sumSign false true (FP.Core.sumUnits false (2 ^ 23 + T) (((127 : Nat) : Int) - 150) true (2 ^ 23 + 0) (((127 : Nat) : Int) - 150) (min (((127 : Nat) : Int) - 150) (((127 : Nat) : Int) - 150)))) (FP.Core.sumUnits false (2 ^ 23 + T) (((127 : Nat) : Int) - 150) true (2 ^ 23 + 0) (((127 : Nat) : Int) - 150) (min (((127 : Nat) : Int) - 150) (((127 : Nat) : Int) - 150))).natAbs (min (((127 : Nat) : Int) - 150) (((127 : Nat) : Int) - 150))))) = _
    have hm : min (((127 : Nat) : Int) - 150) (((127 : Nat) : Int) - 150) = -23 := by omega
    have hs : FP.Core.sumUnits false (2 ^ 23 + T) (((127 : Nat) : Int) - 150) true (2 ^ 23 + 0) (((127 : Nat) : Int) - 150) (-23) = (T : Int) := by
      show (((2 ^ 23 + T) * 2 ^ ((((127 : Nat) : Int) - 150) - -23).toNat : Nat) : Int) + -(((2 ^ 23 + 0) * 2 ^ ((((127 : Nat) : Int) - 150) - -23).toNat : Nat) : Int) = _
      rw [show ((((127 : Nat) : Int) - 150) - -23).toNat = 0 by omega]
      omega
    rw [hm, hs, Int.natAbs_natCast]
    have hz : FP.Core.sumSign false true (T : Int) = false := by
      unfold FP.Core.sumSign
      split
      · rfl
      · exact decide_eq_false (by omega)
    rw [hz]
    rfl
  by_cases h0 : T = 0
  · subst h0
    exact ⟨by decide +kernel, by decide +kernel, by decide +kernel⟩
  · have hl : T.log2 < 23 := (Nat.log2_lt h0).mpr hT
    have lo := lg_lo (n := T) (by omega)
    have hi := lg_hi (n := T)
    have hx := rr_x (f := f32) (s := false) (n := T) (e := -23) (by omega) (by decide +kernel) (by decide) (by show T.log2 ≤ 23; omega) (by rw [qn32]; show _ ≤ (T.log2 : Int) + -23 - (((24 : Nat) : Int) - 1); omega) (by rw [qx32]; show (T.log2 : Int) + -23 - (((24 : Nat) : Int) - 1) ≤ _; omega)
    have hx2 : FP.Core.roundRatio f32 false T 1 (-23) = .fin false (T * 2 ^ (23 - T.log2)) ((T.log2 : Int) - 46) := by
      rw [hx]
      show FP.Core.Datum.fin false (T * 2 ^ (24 - 1 - T.log2)) ((T.log2 : Int) + -23 - (((24 : Nat) : Int) - 1)) = _
      congr 1
      omega
    have hc1 : 2 ^ 23 ≤ T * 2 ^ (23 - T.log2) := by
      have : 2 ^ 23 = 2 ^ T.log2 * 2 ^ (23 - T.log2) := by rw [← Nat.pow_add]; congr 1; omega
      rw [this]
      exact Nat.mul_le_mul_right _ lo
    have hc2 : T * 2 ^ (23 - T.log2) < 2 ^ 24 := by
      have : 2 ^ 24 = 2 ^ (T.log2 + 1) * 2 ^ (23 - T.log2) := by rw [← Nat.pow_add]; congr 1; omega
      rw [this]
      exact Nat.mul_lt_mul_of_pos_right hi (Nat.two_pow_pos _)
    have e1 : FP.fsub (fb 127 T) (fb 127 0) = fb (T.log2 + 104) (T * 2 ^ (23 - T.log2) - 2 ^ 23) := by
      rw [e0, hx2, fb_enc hc1 hc2 (by omega), show ((T.log2 : Int) - 46 + 150).toNat = T.log2 + 104 by omega]
    have e2 : FP.fmul (FP.fsub (fb 127 T) (fb 127 0)) (fb 150 0) = fb (T.log2 + 127) (T * 2 ^ (23 - T.log2) - 2 ^ 23) := by
      rw [e1]
      show UInt32.ofNat (FP.Core.encode f32 (FP.Core.round f32 (FP.Core.exactProduct (FP.Core.decode f32 (fb (T.log2 + 104) (T * 2 ^ (23 - T.log2) - 2 ^ 23)).toNat) (FP.Core.decode f32 (fb 150 0).toNat)))) = _
      rw [fb_dec (by omega) (by omega) (by omega), fb_dec (by decide) (by decide) (by decide), show 2 ^ 23 + (T * 2 ^ (23 - T.log2) - 2 ^ 23) = T * 2 ^ (23 - T.log2) by omega]
      show UInt32.ofNat (FP.Core.encode f32 (FP.Core.roundRatio f32 false (T * 2 ^ (23 - T.log2) * 2 ^ 23) 1 (((T.log2 + 104 : Nat) : Int) - 150 + (((150 : Nat) : Int) - 150)))) = _
      rw [rr_23 hc1 hc2 (by omega) (by omega), fb_enc hc1 hc2 (by omega), show (((T.log2 + 104 : Nat) : Int) - 150 + (((150 : Nat) : Int) - 150) + 23 + 150).toNat = T.log2 + 127 by omega]
    refine ⟨by rw [e1]; exact fb_ok (by omega) (by omega), by rw [e2]; exact fb_ok (by omega) (by omega), ?_⟩
    rw [e2]
    show FP.Core.toI (FP.Core.decode f32 (fb (T.log2 + 127) (T * 2 ^ (23 - T.log2) - 2 ^ 23)).toNat) = _
    rw [fb_dec (by omega) (by omega) (by omega), show 2 ^ 23 + (T * 2 ^ (23 - T.log2) - 2 ^ 23) = T * 2 ^ (23 - T.log2) by omega]
    have ht : FP.Core.truncate false (T * 2 ^ (23 - T.log2)) (((T.log2 + 127 : Nat) : Int) - 150) = (T : Int) := by
      show ((T * 2 ^ (23 - T.log2) * 2 ^ (((T.log2 + 127 : Nat) : Int) - 150).toNat / 2 ^ (-(((T.log2 + 127 : Nat) : Int) - 150)).toNat : Nat) : Int) = _
      rw [show (((T.log2 + 127 : Nat) : Int) - 150).toNat = 0 by omega, show (-(((T.log2 + 127 : Nat) : Int) - 150)).toNat = 23 - T.log2 by omega, Nat.pow_zero, Nat.mul_one, Nat.mul_div_cancel _ (Nat.two_pow_pos _)]
    show Int32.ofInt (max (-2 ^ 31) (min (2 ^ 31 - 1) (FP.Core.truncate false (T * 2 ^ (23 - T.log2)) (((T.log2 + 127 : Nat) : Int) - 150)))) = _
    rw [ht, show max (-2 ^ 31) (min (2 ^ 31 - 1) (T : Int)) = (T : Int) by omega]
    rfl
theorem or_i {E T : Nat} (hE : E < 255) (hT : T < 2 ^ 23) : (nI E <<< ((23 : Int32) &&& 31)) ||| nI T = nI (E * 2 ^ 23 + T) := by
  have h1 : nI E <<< ((23 : Int32) &&& 31) = nI (E * 2 ^ 23) := by
    have := (by decide +kernel : ∀ E : Fin 255, nI E.1 <<< ((23 : Int32) &&& 31) = nI (E.1 * 2 ^ 23))
    exact this ⟨E, hE⟩
  rw [h1]
  refine Int32.toBitVec_inj.mp ?_
  rw [Int32.toBitVec_or]
  show BitVec.ofNat 32 (E * 2 ^ 23) ||| BitVec.ofNat 32 T = BitVec.ofNat 32 (E * 2 ^ 23 + T)
  refine BitVec.eq_of_toNat_eq ?_
  rw [BitVec.toNat_or, BitVec.toNat_ofNat, BitVec.toNat_ofNat, BitVec.toNat_ofNat, Nat.mod_eq_of_lt (by omega), Nat.mod_eq_of_lt (by omega), Nat.mod_eq_of_lt (by omega), ← Nat.shiftLeft_eq, Nat.shiftLeft_add_eq_or_of_lt hT]
theorem fb_i {E T : Nat} : (fb E T).toInt32 = nI (E * 2 ^ 23 + T) := rfl
theorem cv_lt {E T : Nat} (h0 : 0 < E) (hT : T < 2 ^ 23) {E2 : Nat} (hE2 : E2 < 255) {op : CmpOp} : E < E2 → Op.cmpValue (FP.fcmp (fb E T) (fb E2 0)) op < 0 := fun h => by
  rw [fo_lt h0 hE2 hT h]
  show (-1 : Int32) < 0
  decide
theorem cv_ge {E T : Nat} (hE : E < 255) (hT : T < 2 ^ 23) {E2 : Nat} (h0 : 0 < E2) {op : CmpOp} : E2 ≤ E → ¬ Op.cmpValue (FP.fcmp (fb E T) (fb E2 0)) op < 0 := fun h => by
  rcases fo_ge h0 hE hT h with q | q <;> rw [q]
  · show ¬ (1 : Int32) < 0
    decide
  · show ¬ (0 : Int32) < 0
    decide

set_option maxRecDepth 20000 in
theorem s_bits0 {X : az_X} {w : az_W} {sz sl : Nat}   : az_M X 126 [.float 0] w sz sl (some (.int 0), w, sz, sl) := by
  refine az_Mof hd126 ?_
  show az_Ev X 126 0 [.float 0, .null, .null, .null] [] w sz sl _
  refine E_fl0 k126_0 ?_
  refine E_fconst0 k126_1 ?_
  refine E_fcmp k126_2 ?_
  refine E_ifgt k126_3 (fun c3 => ?_) (fun d3 => ?_)
  · skip
    exact absurd c3 (by decide +kernel)
  · skip
    refine E_iconst k126_4 ?_
    exact E_iret k126_5 hd126 rfl rfl
set_option maxRecDepth 20000 in
theorem s_bitsF {X : az_X} {w : az_W} {sz sl : Nat} {E T : Nat} (h0 : 60 ≤ E) (hE : E ≤ 170) (hT : T < 2 ^ 23) : az_M X 126 [.float (fb E T)] w sz sl (some (.int (fb E T).toInt32), w, sz, sl) := by
  refine az_Mof hd126 ?_
  show az_Ev X 126 0 [.float (fb E T), .null, .null, .null] [] w sz sl _
  refine E_fl0 k126_0 ?_
  refine E_fconst0 k126_1 ?_
  refine E_fcmp k126_2 ?_
  refine E_ifgt k126_3 (fun c3 => ?_) (fun d3 => ?_)
  · skip
    refine E_fl0 k126_6 ?_
    refine E_fs1 k126_7 rfl ?_
    refine E_bipush k126_8 ?_
    refine E_is2 k126_9 rfl ?_
    have loop10 : ∀ j : Nat, j ≤ (E - 127) → az_Ev X 126 10 [.float (fb E T), .float (fb (E - j) T), .int (nI (127 + j)), .null] [] w sz sl (some (.int (fb E T).toInt32), w, sz, sl) := by
      refine az_ind (E - 127) _ (fun j hj10 ih10 => ?_)
      refine E_fl1 k126_10 ?_
      refine E_fconst2 k126_11 ?_
      rw [c2_f]
      refine E_fcmp k126_12 ?_
      refine E_iflt k126_13 (fun c13 => ?_) (fun d13 => ?_)
      · skip
        have he10 : j = E - 127 := by
          rcases Nat.lt_or_ge (E - j) 128 with z | z
          · omega
          · exact absurd c13 (cv_ge (by omega) hT (by decide) z)
        have loop23 : ∀ i : Nat, i ≤ (127 - E) → az_Ev X 126 23 [.float (fb E T), .float (fb (E - (E - 127) + i) T), .int (nI (127 + (E - 127) - i)), .null] [] w sz sl (some (.int (fb E T).toInt32), w, sz, sl) := by
          refine az_ind (127 - E) _ (fun i hj23 ih23 => ?_)
          refine E_fl1 k126_23 ?_
          refine E_fconst1 k126_24 ?_
          rw [c1_f]
          refine E_fcmp k126_25 ?_
          refine E_ifge k126_26 (fun c26 => ?_) (fun d26 => ?_)
          · skip
            have he23 : 127 ≤ E - (E - 127) + i := by
              rcases Nat.lt_or_ge (E - (E - 127) + i) 127 with z | z
              · exact absurd (cv_lt (op := .g) (by omega) hT (by decide) z) (Int32.not_lt.mpr c26)
              · exact z
            have hs : E - (E - 127) + i = 127 := by omega
            have hx : 127 + (E - 127) - i = E := by omega
            rw [hs, hx]
            refine E_fl1 k126_36 ?_
            refine E_fconst1 k126_37 ?_
            rw [c1_f]
            refine E_fsub k126_38 (fl_frac hT).1 ?_
            refine E_ldc_wF k126_39 ?_
            rw [c23_f]
            refine E_fmul k126_40 (fl_frac hT).2.1 ?_
            refine E_f2i k126_41 ?_
            refine E_is3 k126_42 rfl ?_
            refine E_il2 k126_43 ?_
            refine E_bipush k126_44 ?_
            refine E_ishl k126_45 ?_
            refine E_il3 k126_46 ?_
            refine E_ior k126_47 ?_
            exact E_iret k126_48 hd126 rfl (by rw [(fl_frac hT).2.2, or_i (by omega) hT, fb_i])
          · skip
            have hlt23 : E - (E - 127) + i < 127 := by
              rcases Nat.lt_or_ge (E - (E - 127) + i) 127 with z | z
              · exact z
              · exact absurd (Int32.not_lt.mp (cv_ge (op := .g) (by omega) hT (by decide) z)) d26
            refine E_il2 k126_27 ?_
            refine E_iconst k126_28 ?_
            refine E_icle k126_29 (fun c29 => ?_) (fun d29 => ?_)
            · skip
              exact absurd ((nI_leI (a := 127 + (E - 127) - i) (b := 1) (by omega) (by decide)).mp c29) (by omega)
            · skip
              refine E_fl1 k126_30 ?_
              refine E_fconst2 k126_31 ?_
              rw [c2_f]
              refine E_fmul k126_32 (by rw [fl_dbl (by omega) (by omega) hT]; exact fb_ok (by omega) hT) ?_
              refine E_fs1 k126_33 rfl ?_
              refine E_inc2 k126_34 rfl ?_
              refine E_goto k126_35 ?_
              exact ev_cong (ih23 (by omega)) (by rw [fl_dbl (by omega) (by omega) hT, show E - (E - 127) + i + 1 = E - (E - 127) + (i + 1) by omega, show nI (127 + (E - 127) - i) + -1 = nI (127 + (E - 127) - (i + 1)) from by rw [show 127 + (E - 127) - i = 127 + (E - 127) - (i + 1) + 1 by omega, nI_succ, Int32.add_assoc]; exact Int32.add_zero _]) rfl rfl
        exact ev_cong (loop23 0 (Nat.zero_le _)) (by rw [he10]; rfl) rfl rfl
      · skip
        have hlt10 : 128 ≤ E - j := by
          rcases Nat.lt_or_ge (E - j) 128 with z | z
          · exact absurd (cv_lt (by omega) hT (by decide) z) d13
          · exact z
        refine E_il2 k126_14 ?_
        refine E_sipush k126_15 ?_
        refine E_icge k126_16 (fun c16 => ?_) (fun d16 => ?_)
        · skip
          exact absurd ((nI_leI (a := 254) (b := 127 + j) (by decide) (by omega)).mp c16) (by omega)
        · skip
          refine E_fl1 k126_17 ?_
          refine E_fconst2 k126_18 ?_
          rw [c2_f]
          refine E_fdiv k126_19 (by rw [fl_half (by omega) (by omega) hT]; exact fb_ok (by omega) hT) ?_
          refine E_fs1 k126_20 rfl ?_
          refine E_inc2 k126_21 rfl ?_
          refine E_goto k126_22 ?_
          exact ev_cong (ih10 (by omega)) (by rw [fl_half (by omega) (by omega) hT, nI_1, show E - j - 1 = E - (j + 1) by omega, show 127 + j + 1 = 127 + (j + 1) by omega]) rfl rfl
    exact ev_cong (loop10 0 (Nat.zero_le _)) rfl rfl rfl
  · skip
    exact absurd (by rw [fo_gt0 (by omega) (by omega) hT]; decide) d3
theorem s_bitsOf {X : az_X} {w : az_W} {sz sl : Nat} {x : UInt32} (h : x = 0 ∨ ∃ E T, 60 ≤ E ∧ E ≤ 170 ∧ T < 2 ^ 23 ∧ x = fb E T) : az_M X 126 [.float x] w sz sl (some (.int x.toInt32), w, sz, sl) := by
  rcases h with rfl | ⟨E, T, h1, h2, h3, rfl⟩
  · exact s_bits0
  · exact s_bitsF h1 h2 h3
theorem fo_self {x : UInt32} (h : x = 0 ∨ ∃ E T, 60 ≤ E ∧ E ≤ 170 ∧ T < 2 ^ 23 ∧ x = fb E T) : FP.fcmp x x = some .eq := by
  rcases h with rfl | ⟨E, T, h1, h2, h3, rfl⟩
  · decide +kernel
  · show FP.Core.order (FP.Core.decode f32 (fb E T).toNat) (FP.Core.decode f32 (fb E T).toNat) = _
    rw [fb_dec (by omega) (by omega) h3]
    show some (compare _ _) = _
    rw [cmp_ee]

set_option maxRecDepth 20000 in
theorem s_isNaN {X : az_X} {w : az_W} {sz sl : Nat} {x : UInt32} (h : FP.fcmp x x = some .eq) : az_M X 192 [.float x] w sz sl (some (.int (zb false)), w, sz, sl) := by
  refine az_Mof hd192 ?_
  show az_Ev X 192 0 [.float x] [] w sz sl _
  refine E_fl0 k192_0 ?_
  refine E_fl0 k192_1 ?_
  refine E_fcmp k192_2 ?_
  rw [h]
  refine E_ifeq k192_3 (fun c3 => ?_) (fun d3 => ?_)
  · skip
    refine E_iconst k192_6 ?_
    exact E_zret k192_7 hd192 rfl (by first | exact Or.inl rfl | exact Or.inr rfl | exact zb01 _ | assumption) rfl
  · skip
    exact absurd rfl d3
set_option maxRecDepth 20000 in
theorem s_f2ib {X : az_X} {w : az_W} {sz sl : Nat} {x : UInt32} (h : FP.fcmp x x = some .eq) : az_M X 193 [.float x] w sz sl (some (.int x.toInt32), w, sz, sl) := by
  refine az_Mof hd193 ?_
  show az_Ev X 193 0 [.float x] [] w sz sl _
  refine E_fl0 k193_0 ?_
  refine E_cs1 k193_1 (Or.inl rfl) rfl rfl (s_isNaN h) ?_
  refine E_zne k193_2 (fun c2 => ?_) (fun d2 => ?_)
  · skip
    cases c2
  · skip
    refine E_fl0 k193_3 ?_
    refine E_f2bits k193_4 rfl ?_
    exact E_iret k193_5 hd193 rfl rfl
set_option maxRecDepth 20000 in
theorem m_unevenness {X : az_X} {w : az_W} {sz sl : Nat} {N P : az_S} {kp : Int32} {o n : Nat} {Hs : Nat → az_S} {ch pg tl : Nat → Int32} {m : Nat} {e : Int32} {g a : Nat} (hg : GW w N P kp o n Hs ch pg tl m e) (hu1 : mxf (N 2) 24 = nI g) (hu2 : smf (N 2) 24 = nI a) (u1 : a ≤ 24 * g) (u2 : g ≤ a) (u3 : a < 2 ^ 31) : az_M X 118 [.ref 0] w sz sl (some (.double (unD g a)), w, sz, sl) := by
  refine az_Mof hd118 ?_
  show az_Ev X 118 0 [.ref 0] [] w sz sl _
  refine E_al0 k118_0 ?_
  refine E_get k118_1 hg.1 rfl ?_
  refine E_get k118_2 (eqw (gw_n hg) bw_0) rfl ?_
  refine E_cv0 k118_3 (Or.inl rfl) (eqw (gw_n hg) bw_1) cl9 rfl rfl (rd_w (gw_n hg) (s_greatestWear bw_1 bw_4)) ?_
  rw [hu1]
  refine E_i2d k118_4 ?_
  refine E_al0 k118_5 ?_
  refine E_get k118_6 hg.1 rfl ?_
  refine E_get k118_7 (eqw (gw_n hg) bw_0) rfl ?_
  refine E_cv0 k118_8 (Or.inl rfl) (eqw (gw_n hg) bw_1) cl10 rfl rfl (rd_w (gw_n hg) (s_allWear bw_1 bw_4)) ?_
  rw [hu2]
  refine E_i2d k118_9 ?_
  refine E_ldc2 k118_10 ?_
  refine E_ddiv k118_11 (un_all u1 u2 u3).1 ?_
  refine E_dsub k118_12 (un_all u1 u2 u3).2.1 ?_
  exact E_dret k118_13 hd118 rfl rfl
set_option maxRecDepth 20000 in
theorem m_bits {X : az_X} {w : az_W} {sz sl : Nat} {N P : az_S} {kp : Int32} {o n : Nat} {Hs : Nat → az_S} {ch pg tl : Nat → Int32} {m : Nat} {e : Int32} {g a : Nat} (hg : GW w N P kp o n Hs ch pg tl m e) (hu1 : mxf (N 2) 24 = nI g) (hu2 : smf (N 2) 24 = nI a) (u1 : a ≤ 24 * g) (u2 : g ≤ a) (u3 : a < 2 ^ 31) : az_M X 119 [.ref 0] w sz sl (some (.int (FP.d2f (unD g a)).toInt32), w, sz, sl) := by
  refine az_Mof hd119 ?_
  show az_Ev X 119 0 [.ref 0] [] w sz sl _
  refine E_al0 k119_0 ?_
  refine E_cv0 k119_1 (Or.inl rfl) hg.1 cl118 rfl rfl (m_unevenness hg hu1 hu2 u1 u2 u3) ?_
  refine E_d2f k119_2 (un_all u1 u2 u3).2.2.2.1 ?_
  refine E_cs1 k119_3 (Or.inl rfl) rfl rfl (s_bitsOf (un_all u1 u2 u3).2.2.2.2) ?_
  exact E_iret k119_4 hd119 rfl rfl
set_option maxRecDepth 20000 in
theorem r_unevenness {X : az_X} {w : az_W} {sz sl : Nat} {a b : Nat} {f : Nat → Int32} {fs : List Value} {g q : Nat} (h0 : w a = .inr (9, .ref b :: fs)) (h1 : w b = .inl (0, 153, .inl f)) (hu1 : mxf (fun i => f (48 + i)) 24 = nI g) (hu2 : smf (fun i => f (48 + i)) 24 = nI q) (u1 : q ≤ 24 * g) (u2 : g ≤ q) (u3 : q < 2 ^ 31) : az_M X 186 [.ref a] w sz sl (some (.double (unD g q)), w, sz, sl) := by
  refine az_Mof hd186 ?_
  show az_Ev X 186 0 [.ref a] [] w sz sl _
  refine E_al0 k186_0 ?_
  refine E_cv0 k186_1 (Or.inl rfl) h0 cl185 rfl rfl (r_greatestWear h0 h1) ?_
  rw [hu1]
  refine E_i2d k186_2 ?_
  refine E_al0 k186_3 ?_
  refine E_cv0 k186_4 (Or.inl rfl) h0 cl184 rfl rfl (r_allWear h0 h1) ?_
  rw [hu2]
  refine E_i2d k186_5 ?_
  refine E_ldc2 k186_6 ?_
  refine E_ddiv k186_7 (un_all u1 u2 u3).1 ?_
  refine E_dsub k186_8 (un_all u1 u2 u3).2.1 ?_
  exact E_dret k186_9 hd186 rfl rfl
set_option maxRecDepth 20000 in
theorem r_bits {X : az_X} {w : az_W} {sz sl : Nat} {a b : Nat} {f : Nat → Int32} {fs : List Value} {g q : Nat} (h0 : w a = .inr (9, .ref b :: fs)) (h1 : w b = .inl (0, 153, .inl f)) (hu1 : mxf (fun i => f (48 + i)) 24 = nI g) (hu2 : smf (fun i => f (48 + i)) 24 = nI q) (u1 : q ≤ 24 * g) (u2 : g ≤ q) (u3 : q < 2 ^ 31) : az_M X 187 [.ref a] w sz sl (some (.int (FP.d2f (unD g q)).toInt32), w, sz, sl) := by
  refine az_Mof hd187 ?_
  show az_Ev X 187 0 [.ref a] [] w sz sl _
  refine E_al0 k187_0 ?_
  refine E_cv0 k187_1 (Or.inl rfl) h0 cl185 rfl rfl (r_greatestWear h0 h1) ?_
  rw [hu1]
  refine E_i2d k187_2 ?_
  refine E_al0 k187_3 ?_
  refine E_cv0 k187_4 (Or.inl rfl) h0 cl184 rfl rfl (r_allWear h0 h1) ?_
  rw [hu2]
  refine E_i2d k187_5 ?_
  refine E_ldc2 k187_6 ?_
  refine E_ddiv k187_7 (un_all u1 u2 u3).1 ?_
  refine E_dsub k187_8 (un_all u1 u2 u3).2.1 ?_
  refine E_d2f k187_9 (un_all u1 u2 u3).2.2.2.1 ?_
  refine E_cs1 k187_10 (Or.inl rfl) rfl rfl (s_f2ib (fo_self (un_all u1 u2 u3).2.2.2.2)) ?_
  exact E_iret k187_11 hd187 rfl rfl
