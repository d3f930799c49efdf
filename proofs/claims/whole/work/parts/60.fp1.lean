/-! floating point: rounding of what a format holds nearly, and the bits of what is rounded -/
theorem fp_ge {n d N : Nat} (hd : 0 < d) (h : N * d ≤ n) : N ≤ FP.Core.nearest n d := by
  have h1 : N ≤ n / d := (Nat.le_div_iff_mul_le hd).mpr h
  unfold FP.Core.nearest
  split
  · exact h1
  · split
    · omega
    · omega
theorem fp_le {n d N : Nat} (hd : 0 < d) (h : n ≤ N * d) : FP.Core.nearest n d ≤ N := by
  have h1 : n / d ≤ N := by
    have := Nat.div_le_div_right (c := d) h
    rwa [Nat.mul_div_cancel _ hd] at this
  have h2 := Nat.div_add_mod n d
  unfold FP.Core.nearest
  by_cases q : n / d = N
  · have h3 : n % d = 0 := by
      have : d * N = N * d := Nat.mul_comm d N
      rw [q, this] at h2
      omega
    rw [h3, if_pos (by omega)]
    omega
  · split
    · omega
    · split
      · omega
      · have : n / d % 2 < 2 := Nat.mod_lt _ (by decide)
        omega
theorem fp_ex {n d N : Nat} (hd : 0 < d) (h : n = N * d) : FP.Core.nearest n d = N := Nat.le_antisymm (fp_le hd (Nat.le_of_eq h)) (fp_ge hd (Nat.le_of_eq h.symm))
theorem fp_set {f : FP.Core.Fmt} {s : Bool} {N D : Nat} {q : Int} (hD : 0 < D) (ht : f.tails < 2 ^ f.p) (h1 : f.tails * D ≤ N) (h2 : N ≤ 2 ^ f.p * D) (hq : q + 1 ≤ f.qmax) :
    ∃ c r, FP.Core.settle f s (FP.Core.nearest N D) q = .fin s c r ∧ f.tails ≤ c ∧ c < 2 ^ f.p ∧ ((r = q ∧ c = FP.Core.nearest N D) ∨ (r = q + 1 ∧ c = f.tails ∧ FP.Core.nearest N D = 2 ^ f.p)) := by
  have a1 := fp_ge hD h1
  have a2 := fp_le hD h2
  unfold FP.Core.settle FP.Core.bound
  by_cases h : FP.Core.nearest N D < 2 ^ f.p
  · rw [if_pos h, if_pos (by omega)]
    exact ⟨_, _, rfl, a1, h, Or.inl ⟨rfl, rfl⟩⟩
  · rw [if_neg h, if_pos hq]
    exact ⟨_, _, rfl, Nat.le_refl _, ht, Or.inr ⟨rfl, rfl, by omega⟩⟩
theorem lg_lo {n : Nat} (h : 0 < n) : 2 ^ n.log2 ≤ n := Nat.log2_self_le (by omega)
theorem lg_hi {n : Nat} : n < 2 ^ (n.log2 + 1) := Nat.lt_log2_self
theorem lg_of {n k : Nat} (h1 : 2 ^ k ≤ n) (h2 : n < 2 ^ (k + 1)) : n.log2 = k := by
  have h0 : n ≠ 0 := by
    have := Nat.two_pow_pos k
    omega
  have a := (Nat.log2_lt h0).mpr h2
  have b : ¬ n.log2 < k := fun z => by
    have := (Nat.log2_lt h0).mp z
    omega
  omega
theorem lead_1 {n : Nat} (h : 0 < n) : FP.Core.leading n 1 = (n.log2 : Int) := by
  unfold FP.Core.leading
  have e : ((1 : Nat).log2 : Int) = 0 := by decide +kernel
  have e1 : ((n.log2 : Int) - 0).toNat = n.log2 := by omega
  have e2 : (-((n.log2 : Int) - 0)).toNat = 0 := by omega
  have := lg_lo h
  simp only [e, e1, e2]
  rw [if_pos (by omega)]
  omega
theorem lead_s {n d : Nat} (h : n.log2 = d.log2) : FP.Core.leading n d = if d ≤ n then 0 else -1 := by
  unfold FP.Core.leading
  have e1 : ((d.log2 : Int) - (d.log2 : Int)) = 0 := by omega
  simp only [h, e1]
  by_cases q : d ≤ n
  · rw [if_pos (by simpa using q), if_pos q]
  · rw [if_neg (by simpa using q), if_neg q]
    rfl
theorem t_toNat {k : Nat} : ((k : Nat) : Int).toNat = k := by omega
/-- a whole number, rounded: the last digit's exponent follows from the first one's -/
theorem rr_1 {f : FP.Core.Fmt} {s : Bool} {n : Nat} {e : Int} (h : 0 < n) (hp : 0 < f.p) (ht : f.tails < 2 ^ f.p) (htp : f.tails = 2 ^ (f.p - 1)) (h1 : f.qmin ≤ (n.log2 : Int) + e - ((f.p : Int) - 1)) (h2 : (n.log2 : Int) + e - ((f.p : Int) - 1) + 1 ≤ f.qmax) :
    ∃ c r, FP.Core.roundRatio f s n 1 e = .fin s c r ∧ f.tails ≤ c ∧ c < 2 ^ f.p ∧ (r = (n.log2 : Int) + e - ((f.p : Int) - 1) ∨ r = (n.log2 : Int) + e - ((f.p : Int) - 1) + 1) := by
  have hq : FP.Core.quantum f n 1 e = (n.log2 : Int) + e - ((f.p : Int) - 1) := by
    unfold FP.Core.quantum
    rw [lead_1 h]
    omega
  unfold FP.Core.roundRatio
  rw [if_neg (by omega), hq]
  unfold FP.Core.roundAt FP.Core.unitsNum FP.Core.unitsDen
  have lo := lg_lo h
  have hi := lg_hi (n := n)
  generalize hl : n.log2 = l at *
  have hbig : f.tails * (1 * 2 ^ ((l : Int) + e - ((f.p : Int) - 1) - e).toNat) ≤ n * 2 ^ (e - ((l : Int) + e - ((f.p : Int) - 1))).toNat ∧ n * 2 ^ (e - ((l : Int) + e - ((f.p : Int) - 1))).toNat ≤ 2 ^ f.p * (1 * 2 ^ ((l : Int) + e - ((f.p : Int) - 1) - e).toNat) := by
    rw [htp, Nat.one_mul]
    rcases Nat.lt_or_ge l (f.p - 1) with q | q
    · have e1 : ((l : Int) + e - ((f.p : Int) - 1) - e).toNat = 0 := by omega
      have e2 : (e - ((l : Int) + e - ((f.p : Int) - 1))).toNat = f.p - 1 - l := by omega
      rw [e1, e2]
      have e3 : 2 ^ (f.p - 1) = 2 ^ l * 2 ^ (f.p - 1 - l) := by rw [← Nat.pow_add]; congr 1; omega
      have e4 : 2 ^ f.p = 2 ^ (l + 1) * 2 ^ (f.p - 1 - l) := by rw [← Nat.pow_add]; congr 1; omega
      rw [e3, e4, Nat.pow_zero, Nat.mul_one, Nat.mul_one]
      exact ⟨Nat.mul_le_mul_right _ lo, Nat.mul_le_mul_right _ (Nat.le_of_lt hi)⟩
    · have e1 : ((l : Int) + e - ((f.p : Int) - 1) - e).toNat = l - (f.p - 1) := by omega
      have e2 : (e - ((l : Int) + e - ((f.p : Int) - 1))).toNat = 0 := by omega
      rw [e1, e2, Nat.pow_zero, Nat.mul_one, ← Nat.pow_add, ← Nat.pow_add, show f.p - 1 + (l - (f.p - 1)) = l by omega, show f.p + (l - (f.p - 1)) = l + 1 by omega]
      exact ⟨lo, Nat.le_of_lt hi⟩
  obtain ⟨c, r, a1, a2, a3, a4⟩ := fp_set (s := s) (q := (l : Int) + e - ((f.p : Int) - 1)) (Nat.mul_pos (by decide) (Nat.two_pow_pos _)) ht hbig.1 hbig.2 h2
  refine ⟨c, r, a1, a2, a3, ?_⟩
  rcases a4 with ⟨b, -⟩ | ⟨b, -⟩
  · exact Or.inl b
  · exact Or.inr b
/-- a number that the format holds is not changed -/
theorem rr_x {f : FP.Core.Fmt} {s : Bool} {n : Nat} {e : Int} (h : 0 < n) (htp : f.tails = 2 ^ (f.p - 1)) (hp : 0 < f.p) (hl : n.log2 ≤ f.p - 1) (h1 : f.qmin ≤ (n.log2 : Int) + e - ((f.p : Int) - 1)) (h2 : (n.log2 : Int) + e - ((f.p : Int) - 1) ≤ f.qmax) :
    FP.Core.roundRatio f s n 1 e = .fin s (n * 2 ^ (f.p - 1 - n.log2)) ((n.log2 : Int) + e - ((f.p : Int) - 1)) := by
  have hq : FP.Core.quantum f n 1 e = (n.log2 : Int) + e - ((f.p : Int) - 1) := by
    unfold FP.Core.quantum
    rw [lead_1 h]
    omega
  unfold FP.Core.roundRatio
  rw [if_neg (by omega), hq]
  unfold FP.Core.roundAt FP.Core.unitsNum FP.Core.unitsDen
  have hi := lg_hi (n := n)
  have e1 : ((n.log2 : Int) + e - ((f.p : Int) - 1) - e).toNat = 0 := by omega
  have e2 : (e - ((n.log2 : Int) + e - ((f.p : Int) - 1))).toNat = f.p - 1 - n.log2 := by omega
  rw [e1, e2, fp_ex (N := n * 2 ^ (f.p - 1 - n.log2)) (by decide) (by omega)]
  unfold FP.Core.settle FP.Core.bound
  have e4 : 2 ^ f.p = 2 ^ (n.log2 + 1) * 2 ^ (f.p - 1 - n.log2) := by rw [← Nat.pow_add]; congr 1; omega
  have h3 : n * 2 ^ (f.p - 1 - n.log2) < 2 ^ f.p := by
    rw [e4]
    exact Nat.mul_lt_mul_of_pos_right hi (Nat.two_pow_pos _)
  rw [if_pos h3, if_pos h2]
/-- what is written is read -/
def efb (f : FP.Core.Fmt) (c : Nat) (q : Int) : Nat := ((q - f.qmin).toNat + 1) * f.tails + (c - f.tails)
theorem enc_n {f : FP.Core.Fmt} {c : Nat} {q : Int} (h : f.tails ≤ c) : FP.Core.encode f (.fin false c q) = efb f c q := by
  show (if c < f.tails then _ else _) = _
  rw [if_neg (by omega)]
  unfold FP.Core.assemble efb
  show (0 * f.exps + _) * f.tails + _ = _
  rw [Nat.zero_mul, Nat.zero_add]
theorem dec_n {f : FP.Core.Fmt} {E T : Nat} (ht : 0 < f.tails) (hT : T < f.tails) (hE : 0 < E) (hE2 : E < f.exps - 1) : FP.Core.decode f (E * f.tails + T) = .fin false (f.tails + T) (f.qmin + ((E : Int) - 1)) := by
  have a1 : (E * f.tails + T) % f.tails = T := by
    rw [Nat.add_comm, Nat.add_mul_mod_self_right]
    exact Nat.mod_eq_of_lt hT
  have a2 : (E * f.tails + T) / f.tails = E := by
    rw [Nat.add_comm, Nat.add_mul_div_right _ _ ht, Nat.div_eq_of_lt hT, Nat.zero_add]
  unfold FP.Core.decode FP.Core.fieldE FP.Core.fieldT FP.Core.fieldS
  rw [a1, a2, Nat.mod_eq_of_lt (show E < f.exps by omega), if_neg (by omega), if_neg (by omega), Nat.div_eq_of_lt (show E < f.exps by omega)]
  rfl
theorem dec_e {f : FP.Core.Fmt} {c : Nat} {q : Int} (ht : 0 < f.tails) (hc : f.tails ≤ c) (hc2 : c < 2 * f.tails) (h1 : f.qmin ≤ q) (h2 : (q - f.qmin).toNat + 2 < f.exps) : FP.Core.decode f (efb f c q) = .fin false c q := by
  unfold efb
  rw [dec_n ht (by omega) (by omega) (by omega)]
  congr 1
  · omega
  · omega
