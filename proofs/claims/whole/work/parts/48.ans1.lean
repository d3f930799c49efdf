/-! what is owed, on both sides -/
theorem nI_neg {v : Nat} (hv : v < 2 ^ 31) {z : Int32} (hz : z < 0) : ¬ nI v = z := fun e => nI_pos hv (by rw [e]; exact hz)
theorem cnt_sel {P : Nat → Bool} : ∀ {n x : Nat}, x < cnt P n → ∃ j, j < n ∧ P j = true ∧ cnt P j = x
  | 0, _, h => absurd h (by simp [cnt])
  | n + 1, x, h => by
    by_cases q : P n = true
    · rw [cnt_t q] at h
      by_cases q2 : x = cnt P n
      · exact ⟨n, by omega, q, q2.symm⟩
      · obtain ⟨j, h1, h2, h3⟩ := cnt_sel (P := P) (n := n) (x := x) (by omega)
        exact ⟨j, by omega, h2, h3⟩
    · rw [cnt_f (by simpa using q)] at h
      obtain ⟨j, h1, h2, h3⟩ := cnt_sel h
      exact ⟨j, by omega, h2, h3⟩
theorem cnt_mono {P : Nat → Bool} {i : Nat} : ∀ {n : Nat}, i ≤ n → cnt P i ≤ cnt P n
  | 0, h => by rw [show i = 0 by omega]; exact Nat.le_refl _
  | n + 1, h => by
    by_cases q : i = n + 1
    · rw [q]; exact Nat.le_refl _
    · have := cnt_mono (P := P) (n := n) (show i ≤ n by omega)
      cases hp : P n
      · rw [cnt_f hp]
        exact this
      · rw [cnt_t hp]
        exact Nat.le_succ_of_le this
theorem cnt_uni {P : Nat → Bool} {j n : Nat} (h : P j = true) (hj : j < n) : cnt P j < cnt P n := by
  have := cnt_mono (P := P) (show j + 1 ≤ n by omega)
  rw [cnt_t h] at this
  omega
theorem dk_neg {x : Int32} : dk x < 0 ↔ x < 0 := by
  unfold dk
  by_cases q : x = -1
  · rw [if_pos q, q]; decide
  · rw [if_neg q]
    by_cases q2 : x = -5
    · rw [if_pos q2, q2]; decide
    · rw [if_neg q2]
theorem dk_nI {v : Nat} (h : v < 2 ^ 31) : dk (nI v) = nI v := by
  unfold dk
  rw [if_neg (nI_neg h (by decide)), if_neg (nI_neg h (by decide))]
theorem dk_5 {x : Int32} (h : DV x) : dk x = -5 ↔ x = -1 := by
  rcases h with q | q | ⟨v, hv, q⟩
  · rw [q]; decide
  · rw [q]; decide
  · rw [q, dk_nI (by omega)]
    exact ⟨fun z => absurd z (nI_neg (by omega) (by decide)), fun z => absurd z (nI_neg (by omega) (by decide))⟩
theorem dk_inj {x y : Int32} (h : DV x) (h2 : DV y) : dk x = dk y ↔ x = y := by
  refine ⟨fun e => ?_, fun e => by rw [e]⟩
  rcases h with q | q | ⟨v, hv, q⟩ <;> rcases h2 with r | r | ⟨u, hu, r⟩
  · rw [q, r]
  · rw [q, r] at e; exact absurd e (by decide)
  · rw [q, r, dk_nI (by omega)] at e
    exact absurd e.symm (nI_neg (by omega) (by decide))
  · rw [q, r] at e; exact absurd e (by decide)
  · rw [q, r]
  · rw [q, r, dk_nI (by omega)] at e
    exact absurd e.symm (nI_neg (by omega) (by decide))
  · rw [q, r, dk_nI (by omega)] at e
    exact absurd e (nI_neg (by omega) (by decide))
  · rw [q, r, dk_nI (by omega)] at e
    exact absurd e (nI_neg (by omega) (by decide))
  · rw [q, r, dk_nI (by omega), dk_nI (by omega)] at e
    rw [q, r, e]
theorem rel_c {S : az_S} {f : Nat → Int32} (h : Rel S f) {i : Nat} (hi : i < 8) : decide (¬ f (93 + i) < 0) = decide (¬ S 5 i < 0) := by
  rw [h.dsk i hi]
  exact decide_eq_decide.mpr (not_congr dk_neg)
theorem rel_cN {S : az_S} {f : Nat → Int32} (h : Rel S f) : cR f = cN S := cnt_cong (fun _ hi => rel_c h hi)
theorem rel_pq {S : az_S} {f : Nat → Int32} {x : Int32} (h : Rel S f) : pqR f x = pq S x := fi_cong (fun i hi => by
  show (decide (¬ f (93 + i) < 0) && decide (nI (cnt (fun i => decide (¬ f (93 + i) < 0)) i) = x)) = (decide (¬ S 5 i < 0) && decide (nI (cnt (fun i => decide (¬ S 5 i < 0)) i) = x))
  rw [rel_c h hi, cnt_cong (P := fun i => decide (¬ f (93 + i) < 0)) (Q := fun i => decide (¬ S 5 i < 0)) (fun j hj => rel_c h (by omega))])
theorem rel_td {B : Nat} {S : az_S} {f : Nat → Int32} (h : Rel S f) (hv : Inv B S) : tdR f = pT S := cnt_cong (fun i hi => by
  show decide (¬ f (93 + i) = -5) = decide (¬ S 5 i = -1)
  rw [h.dsk i hi]
  exact decide_eq_decide.mpr (not_congr (dk_5 (hv.1.2.2.2.1 i hi))))
theorem rel_on {S : az_S} {f : Nat → Int32} (h : Rel S f) (ho : OKS S) : f 101 = 1 ↔ ¬ S 12 4 = 0 := by
  rw [h.on]
  rcases ho.1.2.2.2.1 with q | q <;> rw [q] <;> decide
theorem rel_ow {S : az_S} {f : Nat → Int32} (h : Rel S f) (ho : OKS S) : owR f = sO S := by
  unfold owR sO
  by_cases q : S 12 4 = 0
  · rw [if_pos q, if_neg (fun z => (rel_on h ho).mp z q)]
  · rw [if_neg q, if_pos ((rel_on h ho).mpr q), rel_cN h, h.dn]
theorem pq_none {S : az_S} {x : Nat} (h : cN S ≤ x) (hx : x < 2 ^ 31) : pq S (nI x) = -5 := fi_none (fun i hi => by
  cases hp : decide (¬ S 5 i < 0)
  · rfl
  · have h1 : cnt (pC S) i < cnt (pC S) 8 := cnt_uni hp hi
    have h2 : cnt (pC S) i < x := Nat.lt_of_lt_of_le h1 h
    show (true && decide (nI (cnt (pC S) i) = nI x)) = false
    rw [Bool.true_and]
    exact decide_eq_false (fun z => by
      have := (nI_eqI (by omega) hx).mp z
      omega))
theorem pq_some {S : az_S} {x : Nat} (h : x < cN S) : ∃ j, j < 8 ∧ pq S (nI x) = nI j ∧ ¬ S 5 j < 0 := by
  obtain ⟨j, h1, h2, h3⟩ := cnt_sel h
  rcases fi_cases (fun i => decide (¬ S 5 i < 0) && decide (nI (cnt (fun i => decide (¬ S 5 i < 0)) i) = nI x)) 8 with ⟨k, hk, p1, -, p2⟩ | ⟨p1, -⟩
  · exact ⟨k, hk, p2, of_decide_eq_true ((Bool.and_eq_true _ _).mp p1).1⟩
  · have := p1 j h1
    rw [show decide (¬ S 5 j < 0) = true from h2, Bool.true_and] at this
    have h4 : nI (cnt (fun i => decide (¬ S 5 i < 0)) j) = nI x := congrArg nI h3
    rw [decide_eq_true h4] at this
    cases this
theorem sO_on {S : az_S} {d : Nat} (h4 : ¬ S 12 4 = 0) (hd : S 12 5 = nI d) (h : d ≤ cN S + 1) : sO S = nI (cN S + 2 - d) := by
  unfold sO
  rw [if_neg h4]
  exact ixs (a := cN S + 2) (nI_add (cN S) 2) hd (by omega)
theorem cOw_on {S : az_S} {d : Nat} (h4 : ¬ S 12 4 = 0) (hd : S 12 5 = nI d) (h : d ≤ cN S + 1) : cOw S = nI (cN S - d) := by
  have hl := cN_lt S
  unfold cOw
  rw [sO_on h4 hd h]
  by_cases q : d = cN S + 1
  · rw [q, show cN S + 2 - (cN S + 1) = 1 by omega, show cN S - (cN S + 1) = 0 by omega]
    decide
  · have e : nI (cN S + 2 - d) - 2 = nI (cN S - d) := by
      rw [ixs (x := nI (cN S + 2 - d)) (y := 2) (a := cN S + 2 - d) (b := 2) rfl rfl (by omega), show cN S + 2 - d - 2 = cN S - d by omega]
    rw [e]
    by_cases q2 : cN S - d = 0
    · rw [q2]; decide
    · rw [if_neg (nI_nle (by omega) (by omega))]
theorem kO_on {S : az_S} {d p : Nat} (h4 : ¬ S 12 4 = 0) (hd : S 12 5 = nI d) (h : d ≤ cN S + 1) (hp : p < cN S + 2 - d) : kO S (nI p) = if d + p < cN S then 0 else if d + p = cN S then 1 else 2 := by
  have hl := cN_lt S
  unfold kO
  rw [cOw_on h4 hd h, sO_on h4 hd h, ixs (x := nI (cN S + 2 - d)) (y := 1) (a := cN S + 2 - d) (b := 1) rfl rfl (by omega)]
  by_cases q : d + p < cN S
  · rw [if_pos q, if_neg (fun z => by have := (nI_leI (by omega) (by omega)).mp z; omega)]
  · rw [if_neg q, if_pos ((nI_leI (by omega) (by omega)).mpr (by omega))]
    by_cases q2 : d + p = cN S
    · rw [if_pos q2, if_pos (fun z => by have := (nI_eqI (by omega) (by omega)).mp z; omega)]
    · rw [if_neg q2, if_neg (Classical.not_not.mpr (congrArg nI (by omega)))]
theorem kO_0 {S : az_S} {d : Nat} (h4 : ¬ S 12 4 = 0) (hd : S 12 5 = nI d) (h : d ≤ cN S + 1) : kO S 0 = if d < cN S then 0 else if d = cN S then 1 else 2 := kO_on (p := 0) h4 hd h (by omega)
theorem rel_nF' {B mk : Nat} {S : az_S} {f : Nat → Int32} (h : Rel S f) (hv : Inv B S) (hm : f 92 = nI mk) (hk : mk ≤ 1) : nF f mk 24 = cw S 24 := rel_nF h hv.1.1 hm hk hv.1.2.2.1 hv.2.2.1 24 (Nat.le_refl _)
theorem rel_cs {B mk d : Nat} {S : az_S} {f : Nat → Int32} (h : Rel S f) (hv : Inv B S) (hm : f 92 = nI mk) (hk : mk ≤ 1) (h4 : ¬ S 12 4 = 0) (hd : S 12 5 = nI d) (hd2 : d ≤ cN S + 1) : csR f mk = cgB S := by
  have hl := cN_lt S
  unfold csR cgB
  rw [rel_nF' h hv hm hk, rel_pq h, h.dn, hd, kO_0 h4 hd hd2, decide_eq_true h4, Bool.true_and]
  by_cases q : d < cN S
  · obtain ⟨j, h1, h2, -⟩ := pq_some q
    rw [if_pos q, h2, decide_eq_false (nI_ne5 (by omega))]
    rfl
  · rw [if_neg q, pq_none (by omega) (by omega)]
    split <;> rfl
/-- the cell that is written next is a free one -/
theorem cw_free {S : az_S} : ∀ {n : Nat}, n ≤ 24 → cw S n = -5 ∨ ∃ c, c < n ∧ cw S n = nI c ∧ frB S (nI c) = true
  | 0, _ => Or.inl rfl
  | n + 1, hn => by
    have ih := cw_free (S := S) (n := n) (by omega)
    have ih2 : cw S n = -5 ∨ ∃ c, c < n + 1 ∧ cw S n = nI c ∧ frB S (nI c) = true := by
      rcases ih with q | ⟨c, h1, h2, h3⟩
      · exact Or.inl q
      · exact Or.inr ⟨c, by omega, h2, h3⟩
    unfold cw
    by_cases q : frB S (nI n) = true
    · rw [if_pos q]
      have hn : ∃ c, c < n + 1 ∧ nI n = nI c ∧ frB S (nI c) = true := ⟨n, by omega, rfl, q⟩
      by_cases q2 : cw S n = -5
      · rw [if_pos q2]; exact Or.inr hn
      · rw [if_neg q2]
        split
        · exact ih2
        · exact Or.inr hn
    · rw [if_neg q]
      exact ih2
