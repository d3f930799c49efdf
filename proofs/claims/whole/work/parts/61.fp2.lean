/-! how even the wear is, as a double and as a float -/
abbrev f64 : FP.Core.Fmt := FP.Core.b64
abbrev f32 : FP.Core.Fmt := FP.Core.b32
theorem t64 : f64.tails = 2 ^ 52 := by decide +kernel
theorem t32 : f32.tails = 2 ^ 23 := by decide +kernel
theorem qn64 : f64.qmin = -1074 := by decide +kernel
theorem qn32 : f32.qmin = -149 := by decide +kernel
theorem qx64 : f64.qmax = 971 := by decide +kernel
theorem qx32 : f32.qmax = 104 := by decide +kernel
theorem ex64 : f64.exps = 2048 := by decide +kernel
theorem ex32 : f32.exps = 256 := by decide +kernel
theorem ok64 {n : Nat} (h : n < 2047 * 2 ^ 52) : UInt64.ofNat n &&& 0x7fffffffffffffff ≤ 0x7ff0000000000000 := by
  rw [UInt64.le_iff_toNat_le, UInt64.toNat_and]
  have e1 : (UInt64.ofNat n).toNat = n := by
    rw [UInt64.toNat_ofNat']
    exact Nat.mod_eq_of_lt (by omega)
  have e2 : (0x7fffffffffffffff : UInt64).toNat = 2 ^ 63 - 1 := by decide +kernel
  have e3 : (0x7ff0000000000000 : UInt64).toNat = 2047 * 2 ^ 52 := by decide +kernel
  rw [e1, e2, e3, Nat.and_two_pow_sub_one_eq_mod]
  have := Nat.mod_le n (2 ^ 63)
  omega
theorem ok32 {n : Nat} (h : n < 255 * 2 ^ 23) : UInt32.ofNat n &&& 0x7fffffff ≤ 0x7f800000 := by
  rw [UInt32.le_iff_toNat_le, UInt32.toNat_and]
  have e1 : (UInt32.ofNat n).toNat = n := by
    rw [UInt32.toNat_ofNat']
    exact Nat.mod_eq_of_lt (by omega)
  have e2 : (0x7fffffff : UInt32).toNat = 2 ^ 31 - 1 := by decide +kernel
  have e3 : (0x7f800000 : UInt32).toNat = 255 * 2 ^ 23 := by decide +kernel
  rw [e1, e2, e3, Nat.and_two_pow_sub_one_eq_mod]
  have := Nat.mod_le n (2 ^ 31)
  omega
def dd (x : UInt64) (c : Nat) (q : Int) : Prop := FP.Core.decode f64 x.toNat = .fin false c q ∧ 2 ^ 52 ≤ c ∧ c < 2 ^ 53
/-- the bits of a number of the double format -/
theorem d_enc {c : Nat} {q : Int} (h1 : 2 ^ 52 ≤ c) (h2 : c < 2 ^ 53) (h3 : -1074 ≤ q) (h4 : q ≤ 971) : dd (UInt64.ofNat (FP.Core.encode f64 (.fin false c q))) c q ∧ UInt64.ofNat (FP.Core.encode f64 (.fin false c q)) &&& 0x7fffffffffffffff ≤ 0x7ff0000000000000 := by
  rw [enc_n (by rw [t64]; exact h1)]
  have hb : efb f64 c q < 2047 * 2 ^ 52 := by
    unfold efb
    rw [t64, qn64]
    have : ((q - -1074).toNat + 1) ≤ 2046 := by omega
    have h5 := Nat.mul_le_mul_right (2 ^ 52) this
    omega
  have e1 : (UInt64.ofNat (efb f64 c q)).toNat = efb f64 c q := by
    rw [UInt64.toNat_ofNat']
    exact Nat.mod_eq_of_lt (by omega)
  refine ⟨⟨?_, h1, h2⟩, ok64 hb⟩
  rw [e1]
  exact dec_e (by rw [t64]; decide) (by rw [t64]; exact h1) (by rw [t64]; omega) (by rw [qn64]; exact h3) (by rw [qn64, ex64]; omega)
theorem i2d_n {a : Nat} (h : 0 < a) (h2 : a < 2 ^ 31) : ∃ k : Nat, k ≤ 52 ∧ dd (FP.i2d (nI a)) (a * 2 ^ k) (-(k : Int)) := by
  have hl : a.log2 < 31 := (Nat.log2_lt (by omega)).mpr h2
  have hx := rr_x (f := f64) (s := false) (n := a) (e := 0) h (by decide +kernel) (by decide) (by show a.log2 ≤ 52; omega) (by rw [qn64]; show _ ≤ (a.log2 : Int) + 0 - (((53 : Nat) : Int) - 1); omega) (by rw [qx64]; show (a.log2 : Int) + 0 - (((53 : Nat) : Int) - 1) ≤ _; omega)
  have hx2 : FP.Core.roundRatio f64 false a 1 0 = .fin false (a * 2 ^ (52 - a.log2)) (-((52 - a.log2 : Nat) : Int)) := by
    rw [hx]
    show FP.Core.Datum.fin false (a * 2 ^ (53 - 1 - a.log2)) ((a.log2 : Int) + 0 - (((53 : Nat) : Int) - 1)) = _
    congr 1
    omega
  refine ⟨52 - a.log2, by omega, ?_⟩
  have e : FP.i2d (nI a) = UInt64.ofNat (FP.Core.encode f64 (.fin false (a * 2 ^ (52 - a.log2)) (-((52 - a.log2 : Nat) : Int)))) := by
    show UInt64.ofNat (FP.Core.encode f64 (FP.Core.round f64 (FP.Core.ofInt (nI a).toInt))) = _
    rw [nI_toInt h2]
    have e2 : FP.Core.ofInt (a : Int) = .fin false a 0 := by
      unfold FP.Core.ofInt
      rw [decide_eq_false (by omega), Int.natAbs_natCast]
    rw [e2]
    show UInt64.ofNat (FP.Core.encode f64 (FP.Core.roundRatio f64 false a 1 0)) = _
    rw [hx2]
  rw [e]
  have lo := lg_lo h
  have hi := lg_hi (n := a)
  refine (d_enc ?_ ?_ (by omega) (by omega)).1
  · have : 2 ^ 52 = 2 ^ a.log2 * 2 ^ (52 - a.log2) := by rw [← Nat.pow_add]; congr 1; omega
    rw [this]
    exact Nat.mul_le_mul_right _ lo
  · have : 2 ^ 53 = 2 ^ (a.log2 + 1) * 2 ^ (52 - a.log2) := by rw [← Nat.pow_add]; congr 1; omega
    rw [this]
    exact Nat.mul_lt_mul_of_pos_right hi (Nat.two_pow_pos _)
theorem d24 : FP.Core.decode f64 (UInt64.ofNat 4627448617123184640).toNat = .fin false 6755399441055744 (-48) := by decide +kernel
theorem ddiv_n {a g k : Nat} {x : UInt64} (ha : 0 < a) (hag : a ≤ 24 * g) (hk : k ≤ 52) (hx : dd x (a * 2 ^ k) (-(k : Int))) :
    ∃ c q, dd (FP.ddiv x (UInt64.ofNat 4627448617123184640)) c q ∧ -60 ≤ q ∧ q ≤ 0 ∧ c * 2 ^ (q + 60).toNat ≤ g * 2 ^ 60 ∧ FP.ddiv x (UInt64.ofNat 4627448617123184640) &&& 0x7fffffffffffffff ≤ 0x7ff0000000000000 := by
  obtain ⟨h1, h2, h3⟩ := hx
  have e0 : FP.ddiv x (UInt64.ofNat 4627448617123184640) = UInt64.ofNat (FP.Core.encode f64 (FP.Core.roundRatio f64 false (a * 2 ^ k) 6755399441055744 (-(k : Int) - -48))) := by
    show UInt64.ofNat (FP.Core.encode f64 (FP.Core.quotient f64 (FP.Core.decode f64 x.toNat) (FP.Core.decode f64 (UInt64.ofNat 4627448617123184640).toNat))) = _
    rw [h1, d24]
    rfl
  have hl1 : (a * 2 ^ k).log2 = 52 := lg_of h2 h3
  have hl2 : (6755399441055744 : Nat).log2 = 52 := by decide +kernel
  have hld := lead_s (n := a * 2 ^ k) (d := 6755399441055744) (hl1.trans hl2.symm)
  have key : ∃ w : Nat, (4 ≤ w ∧ w ≤ 57) ∧ ∃ c r, FP.Core.roundRatio f64 false (a * 2 ^ k) 6755399441055744 (-(k : Int) - -48) = .fin false c r ∧ 2 ^ 52 ≤ c ∧ c < 2 ^ 53 ∧ ((r = -(w : Int) ∧ c ≤ g * 2 ^ w) ∨ (r = -(w : Int) + 1 ∧ 2 * c ≤ g * 2 ^ w)) := by
    unfold FP.Core.roundRatio FP.Core.roundAt FP.Core.quantum FP.Core.unitsNum FP.Core.unitsDen
    rw [if_neg (by omega), hld]
    by_cases q : 6755399441055744 ≤ a * 2 ^ k
    · refine ⟨k + 4, by omega, ?_⟩
      rw [if_pos q]
      have e1 : max f64.qmin (0 + (-(k : Int) - -48) - ((f64.p : Int) - 1)) = -((k + 4 : Nat) : Int) := by
        rw [qn64]
        show max (-1074) (0 + (-(k : Int) - -48) - (((53 : Nat) : Int) - 1)) = _
        omega
      rw [e1]
      have e2 : ((-(k : Int) - -48) - -((k + 4 : Nat) : Int)).toNat = 52 := by omega
      have e3 : (-((k + 4 : Nat) : Int) - (-(k : Int) - -48)).toNat = 0 := by omega
      rw [e2, e3, Nat.pow_zero, Nat.mul_one]
      obtain ⟨c, r, b1, b2, b3, b4⟩ := fp_set (f := f64) (s := false) (N := a * 2 ^ k * 2 ^ 52) (D := 6755399441055744) (q := -((k + 4 : Nat) : Int)) (by decide) (by decide +kernel) (by rw [t64]; omega) (by show _ ≤ 2 ^ 53 * 6755399441055744; omega) (by rw [qx64]; omega)
      have hv : FP.Core.nearest (a * 2 ^ k * 2 ^ 52) 6755399441055744 ≤ g * 2 ^ (k + 4) := fp_le (by decide) (by
        have p1 : g * 2 ^ (k + 4) * 6755399441055744 = 24 * g * 2 ^ k * 2 ^ 52 := by
          rw [Nat.pow_add]
          generalize 2 ^ k = K
          have : g * (K * 2 ^ 4) = g * K * 2 ^ 4 := by rw [Nat.mul_assoc]
          rw [this]
          have : 24 * g * K = 24 * (g * K) := Nat.mul_assoc _ _ _
          rw [this]
          omega
        rw [p1]
        exact Nat.mul_le_mul_right _ (Nat.mul_le_mul_right _ hag))
      rw [t64] at b2 b4
      refine ⟨c, r, b1, b2, b3, ?_⟩
      rcases b4 with ⟨b5, b6⟩ | ⟨b5, b6, b7⟩
      · exact Or.inl ⟨b5, by rw [b6]; exact hv⟩
      · refine Or.inr ⟨b5, ?_⟩
        have b7' : FP.Core.nearest (a * 2 ^ k * 2 ^ 52) 6755399441055744 = 2 ^ 53 := b7
        omega
    · refine ⟨k + 5, by omega, ?_⟩
      rw [if_neg q]
      have e1 : max f64.qmin (-1 + (-(k : Int) - -48) - ((f64.p : Int) - 1)) = -((k + 5 : Nat) : Int) := by
        rw [qn64]
        show max (-1074) (-1 + (-(k : Int) - -48) - (((53 : Nat) : Int) - 1)) = _
        omega
      rw [e1]
      have e2 : ((-(k : Int) - -48) - -((k + 5 : Nat) : Int)).toNat = 53 := by omega
      have e3 : (-((k + 5 : Nat) : Int) - (-(k : Int) - -48)).toNat = 0 := by omega
      rw [e2, e3, Nat.pow_zero, Nat.mul_one]
      obtain ⟨c, r, b1, b2, b3, b4⟩ := fp_set (f := f64) (s := false) (N := a * 2 ^ k * 2 ^ 53) (D := 6755399441055744) (q := -((k + 5 : Nat) : Int)) (by decide) (by decide +kernel) (by rw [t64]; omega) (by show _ ≤ 2 ^ 53 * 6755399441055744; omega) (by rw [qx64]; omega)
      have hv : FP.Core.nearest (a * 2 ^ k * 2 ^ 53) 6755399441055744 ≤ g * 2 ^ (k + 5) := fp_le (by decide) (by
        have p1 : g * 2 ^ (k + 5) * 6755399441055744 = 24 * g * 2 ^ k * 2 ^ 53 := by
          rw [Nat.pow_add]
          generalize 2 ^ k = K
          have : g * (K * 2 ^ 5) = g * K * 2 ^ 5 := by rw [Nat.mul_assoc]
          rw [this]
          have : 24 * g * K = 24 * (g * K) := Nat.mul_assoc _ _ _
          rw [this]
          omega
        rw [p1]
        exact Nat.mul_le_mul_right _ (Nat.mul_le_mul_right _ hag))
      rw [t64] at b2 b4
      refine ⟨c, r, b1, b2, b3, ?_⟩
      rcases b4 with ⟨b5, b6⟩ | ⟨b5, b6, b7⟩
      · exact Or.inl ⟨b5, by rw [b6]; exact hv⟩
      · refine Or.inr ⟨b5, ?_⟩
        have b7' : FP.Core.nearest (a * 2 ^ k * 2 ^ 53) 6755399441055744 = 2 ^ 53 := b7
        omega
  obtain ⟨w, hw, c, r, b1, b2, b3, b4⟩ := key
  rw [e0, b1]
  have hr : -60 ≤ r ∧ r ≤ 1 - (w : Int) := by rcases b4 with ⟨b, -⟩ | ⟨b, -⟩ <;> omega
  have hv : c * 2 ^ (r + 60).toNat ≤ g * 2 ^ 60 := by
    have p1 : g * 2 ^ 60 = g * 2 ^ w * 2 ^ (60 - w) := by rw [Nat.mul_assoc, ← Nat.pow_add, show w + (60 - w) = 60 by omega]
    rw [p1]
    rcases b4 with ⟨b5, b6⟩ | ⟨b5, b6⟩
    · rw [show (r + 60).toNat = 60 - w by omega]
      exact Nat.mul_le_mul_right _ b6
    · rw [show (r + 60).toNat = (60 - w) + 1 by omega, Nat.pow_succ]
      have := Nat.mul_le_mul_right (2 ^ (60 - w)) b6
      rw [show c * (2 ^ (60 - w) * 2) = 2 * c * 2 ^ (60 - w) from by rw [Nat.mul_comm (2 ^ (60 - w)) 2, ← Nat.mul_assoc, Nat.mul_comm c 2]]
      exact this
  obtain ⟨d1, d2⟩ := d_enc (q := r) b2 b3 (by omega) (by omega)
  exact ⟨c, r, d1, hr.1, by omega, hv, d2⟩
theorem inU {c : Nat} {q e : Int} : FP.Core.inUnits c q e = c * 2 ^ (q - e).toNat := rfl
/-- the difference: nothing, or a number that is not too small -/
theorem dsub_n {g k c : Nat} {q : Int} {x y : UInt64} (hg : g < 2 ^ 31) (hk : k ≤ 52) (hx : dd x (g * 2 ^ k) (-(k : Int))) (hy : dd y c q) (hq : -60 ≤ q) (hq2 : q ≤ 0) (hv : c * 2 ^ (q + 60).toNat ≤ g * 2 ^ 60) :
    FP.dsub x y &&& 0x7fffffffffffffff ≤ 0x7ff0000000000000 ∧ (FP.dsub x y = 0 ∨ ∃ c' q', dd (FP.dsub x y) c' q' ∧ -112 ≤ q' ∧ q' ≤ -20) := by
  have key : ∃ n : Nat, ∃ e : Int, -60 ≤ e ∧ e ≤ 0 ∧ n ≤ g * 2 ^ (-e).toNat ∧ FP.dsub x y = UInt64.ofNat (FP.Core.encode f64 (FP.Core.roundRatio f64 false n 1 e)) := by
    have e0 : FP.dsub x y = UInt64.ofNat (FP.Core.encode f64 (FP.Core.round f64 (FP.Core.exactSum (.fin false (g * 2 ^ k) (-(k : Int))) (.fin true c q)))) := by
      show UInt64.ofNat (FP.Core.encode f64 (FP.Core.round f64 (FP.Core.exactSum (FP.Core.decode f64 x.toNat) (FP.Core.negate (FP.Core.decode f64 y.toNat))))) = _
      rw [hx.1, hy.1]
      rfl
    have he : ∃ e, e = min (-(k : Int)) q := ⟨_, rfl⟩
    obtain ⟨e, he⟩ := he
    have hA : g * 2 ^ k * 2 ^ (-(k : Int) - e).toNat = g * 2 ^ (-e).toNat := by
      rw [Nat.mul_assoc, ← Nat.pow_add]
      congr 2
      omega
    have hB : c * 2 ^ (q - e).toNat ≤ g * 2 ^ (-e).toNat := by
      refine Nat.le_of_mul_le_mul_right (c := 2 ^ (e + 60).toNat) ?_ (Nat.two_pow_pos _)
      rw [Nat.mul_assoc, ← Nat.pow_add, Nat.mul_assoc, ← Nat.pow_add, show (q - e).toNat + (e + 60).toNat = (q + 60).toNat by omega, show (-e).toNat + (e + 60).toNat = 60 by omega]
      exact hv
    have hs : FP.Core.sumUnits false (g * 2 ^ k) (-(k : Int)) true c q e = ((g * 2 ^ (-e).toNat - c * 2 ^ (q - e).toNat : Nat) : Int) := by
      unfold FP.Core.sumUnits FP.Core.signed
      rw [inU, inU, hA]
      show ((g * 2 ^ (-e).toNat : Nat) : Int) + -((c * 2 ^ (q - e).toNat : Nat) : Int) = _
      omega
    refine ⟨g * 2 ^ (-e).toNat - c * 2 ^ (q - e).toNat, e, by omega, by omega, Nat.sub_le _ _, ?_⟩
    rw [e0]
    show UInt64.ofNat (FP.Core.encode f64 (FP.Core.round f64 (.fin (FP.Core.sumSign false true (FP.Core.sumUnits false (g * 2 ^ k) (-(k : Int)) true c q (min (-(k : Int)) q))) (FP.Core.sumUnits false (g * 2 ^ k) (-(k : Int)) true c q (min (-(k : Int)) q)).natAbs (min (-(k : Int)) q)))) = _
    rw [← he, hs, Int.natAbs_natCast]
    have hz : FP.Core.sumSign false true ((g * 2 ^ (-e).toNat - c * 2 ^ (q - e).toNat : Nat) : Int) = false := by
      unfold FP.Core.sumSign
      split
      · rfl
      · exact decide_eq_false (by omega)
    rw [hz]
    rfl
  obtain ⟨n, e, h1, h2, h3, h4⟩ := key
  by_cases hn : n = 0
  · subst hn
    have hz : FP.dsub x y = 0 := by
      rw [h4]
      unfold FP.Core.roundRatio
      rw [if_pos rfl]
      decide +kernel
    rw [hz]
    exact ⟨by decide, Or.inl rfl⟩
  · have hl : n.log2 < 31 + (-e).toNat := (Nat.log2_lt hn).mpr (by
      rw [Nat.pow_add]
      exact Nat.lt_of_le_of_lt h3 (Nat.mul_lt_mul_of_pos_right hg (Nat.two_pow_pos _)))
    obtain ⟨c', q', a1, a2, a3, a4⟩ := rr_1 (f := f64) (s := false) (n := n) (e := e) (by omega) (by decide) (by decide +kernel) (by decide +kernel) (by rw [qn64]; show _ ≤ (n.log2 : Int) + e - (((53 : Nat) : Int) - 1); omega) (by rw [qx64]; show (n.log2 : Int) + e - (((53 : Nat) : Int) - 1) + 1 ≤ _; omega)
    rw [t64] at a2
    have a4' : q' = (n.log2 : Int) + e - (((53 : Nat) : Int) - 1) ∨ q' = (n.log2 : Int) + e - (((53 : Nat) : Int) - 1) + 1 := a4
    obtain ⟨d1, d2⟩ := d_enc (q := q') a2 a3 (by omega) (by omega)
    rw [h4, a1]
    exact ⟨d2, Or.inr ⟨c', q', d1, by omega, by omega⟩⟩
/-- a float with the fields E and T -/
def fb (E T : Nat) : UInt32 := UInt32.ofNat (E * 2 ^ 23 + T)
theorem fb_nat {E T : Nat} (hE : E < 255) (hT : T < 2 ^ 23) : (fb E T).toNat = E * 2 ^ 23 + T := by
  unfold fb
  rw [UInt32.toNat_ofNat']
  exact Nat.mod_eq_of_lt (by omega)
theorem fb_dec {E T : Nat} (h0 : 0 < E) (hE : E < 255) (hT : T < 2 ^ 23) : FP.Core.decode f32 (fb E T).toNat = .fin false (2 ^ 23 + T) ((E : Int) - 150) := by
  rw [fb_nat hE hT]
  have := dec_n (f := f32) (E := E) (T := T) (by rw [t32]; decide) (by rw [t32]; exact hT) h0 (by rw [ex32]; omega)
  rw [t32, qn32] at this
  rw [this]
  congr 1
  omega
theorem fb_ok {E T : Nat} (hE : E < 255) (hT : T < 2 ^ 23) : fb E T &&& 0x7fffffff ≤ 0x7f800000 := ok32 (by omega)
theorem fb_enc {c : Nat} {q : Int} (h1 : 2 ^ 23 ≤ c) (h2 : c < 2 ^ 24) (h3 : -149 ≤ q) : UInt32.ofNat (FP.Core.encode f32 (.fin false c q)) = fb (q + 150).toNat (c - 2 ^ 23) := by
  rw [enc_n (by rw [t32]; exact h1)]
  unfold efb fb
  rw [t32, qn32, show (q - -149).toNat + 1 = (q + 150).toNat by omega]
theorem d2f_n {z : UInt64} {c : Nat} {q : Int} (h : dd z c q) (h1 : -112 ≤ q) (h2 : q ≤ -20) : ∃ E T, 60 ≤ E ∧ E ≤ 170 ∧ T < 2 ^ 23 ∧ FP.d2f z = fb E T := by
  obtain ⟨a1, a2, a3⟩ := h
  have hl : c.log2 = 52 := lg_of a2 a3
  obtain ⟨c', q', b1, b2, b3, b4⟩ := rr_1 (f := f32) (s := false) (n := c) (e := q) (by omega) (by decide) (by decide +kernel) (by decide +kernel) (by rw [qn32, hl]; show _ ≤ ((52 : Nat) : Int) + q - (((24 : Nat) : Int) - 1); omega) (by rw [qx32, hl]; show ((52 : Nat) : Int) + q - (((24 : Nat) : Int) - 1) + 1 ≤ _; omega)
  rw [t32] at b2
  rw [hl] at b4
  have b4' : q' = ((52 : Nat) : Int) + q - (((24 : Nat) : Int) - 1) ∨ q' = ((52 : Nat) : Int) + q - (((24 : Nat) : Int) - 1) + 1 := b4
  have b3' : c' < 2 ^ 24 := b3
  have e : FP.d2f z = UInt32.ofNat (FP.Core.encode f32 (.fin false c' q')) := by
    have hn : FP.Core.dIsNaN z = false := by
      show decide (FP.Core.decode f64 z.toNat = .nan) = false
      rw [a1]
      exact decide_eq_false (fun w => by cases w)
    unfold FP.d2f
    rw [hn, if_neg (by decide)]
    show UInt32.ofNat (FP.Core.encode f32 (FP.Core.round f32 (FP.Core.decode f64 z.toNat))) = _
    rw [a1]
    show UInt32.ofNat (FP.Core.encode f32 (FP.Core.roundRatio f32 false c 1 q)) = _
    rw [b1]
  rw [e, fb_enc b2 b3' (by omega)]
  exact ⟨_, _, by omega, by omega, by omega, rfl⟩
theorem cmp_ee {a : Int} : compare a a = .eq := by
  show compareOfLessAndEq a a = _
  unfold compareOfLessAndEq
  rw [if_neg (by omega), if_pos rfl]
theorem cmp_lt {a b : Int} (h : a < b) : compare a b = .lt := by
  show compareOfLessAndEq a b = _
  unfold compareOfLessAndEq
  rw [if_pos h]
theorem cmp_gt {a b : Int} (h : b < a) : compare a b = .gt := by
  show compareOfLessAndEq a b = _
  unfold compareOfLessAndEq
  rw [if_neg (by omega), if_neg (by omega)]
/-- the unevenness of greatest wear g and whole wear a -/
def unD (g a : Nat) : UInt64 := FP.dsub (FP.i2d (nI g)) (FP.ddiv (FP.i2d (nI a)) (UInt64.ofNat 4627448617123184640))
theorem un_all {g a : Nat} (h1 : a ≤ 24 * g) (h2 : g ≤ a) (h3 : a < 2 ^ 31) : FP.ddiv (FP.i2d (nI a)) (UInt64.ofNat 4627448617123184640) &&& 0x7fffffffffffffff ≤ 0x7ff0000000000000 ∧ unD g a &&& 0x7fffffffffffffff ≤ 0x7ff0000000000000 ∧ FP.dcmp (unD g a) (unD g a) = some .eq ∧ FP.d2f (unD g a) &&& 0x7fffffff ≤ 0x7f800000 ∧ (FP.d2f (unD g a) = 0 ∨ ∃ E T, 60 ≤ E ∧ E ≤ 170 ∧ T < 2 ^ 23 ∧ FP.d2f (unD g a) = fb E T) := by
  by_cases ha : a = 0
  · have hg : g = 0 := by omega
    subst ha hg
    exact ⟨by decide +kernel, by decide +kernel, by decide +kernel, by decide +kernel, Or.inl (by decide +kernel)⟩
  · obtain ⟨k, hk, hx⟩ := i2d_n (a := a) (by omega) h3
    obtain ⟨c, q, b1, b2, b3, b4, b5⟩ := ddiv_n (by omega) h1 hk hx
    obtain ⟨k2, hk2, hx2⟩ := i2d_n (a := g) (by omega) (by omega)
    obtain ⟨d1, d2⟩ := dsub_n (by omega) hk2 hx2 b1 b2 b3 b4
    refine ⟨b5, d1, ?_⟩
    rcases d2 with e1 | ⟨c', q', e1, e2, e3⟩
    · have e1' : unD g a = 0 := e1
      rw [e1']
      exact ⟨by decide +kernel, by decide +kernel, Or.inl (by decide +kernel)⟩
    · have e1' : dd (unD g a) c' q' := e1
      obtain ⟨E, T, f1, f2, f3, f4⟩ := d2f_n e1' e2 e3
      refine ⟨?_, ?_, Or.inr ⟨E, T, f1, f2, f3, f4⟩⟩
      · show FP.Core.order (FP.Core.decode f64 (unD g a).toNat) (FP.Core.decode f64 (unD g a).toNat) = _
        rw [e1'.1]
        show some (compare _ _) = _
        rw [cmp_ee]
      · rw [f4]
        exact fb_ok (by omega) f3
