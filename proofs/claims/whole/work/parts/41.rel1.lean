/-! the last is the first, where there is one at most -/
theorem la_none {P : Nat → Bool} : ∀ {n : Nat}, (∀ i, i < n → P i = false) → la P n = -5
  | 0, _ => rfl
  | n + 1, h => by
    rw [la, if_neg (by rw [h n (by omega)]; decide)]
    exact la_none (fun i hi => h i (by omega))
theorem la_hit {P : Nat → Bool} {j : Nat} : ∀ {n : Nat}, j < n → P j = true → (∀ i, j < i → i < n → P i = false) → la P n = nI j
  | 0, h, _, _ => absurd h (by omega)
  | n + 1, h, hj, hu => by
    unfold la
    by_cases q : j = n
    · subst q
      rw [if_pos hj]
    · rw [if_neg (by rw [hu n (by omega) (by omega)]; decide)]
      exact la_hit (by omega) hj (fun i h1 h2 => hu i h1 (by omega))
theorem la_fi {P : Nat → Bool} {n : Nat} (hu : ∀ i j, i < n → j < n → P i = true → P j = true → i = j) : la P n = fi P n := by
  rcases fi_cases P n with ⟨j, hj, h1, -, h2⟩ | ⟨h1, h2⟩
  · rw [h2]
    refine la_hit hj h1 (fun i h3 h4 => ?_)
    cases hp : P i with
    | false => rfl
    | true =>
      have := hu i j h4 hj hp h1
      omega
  · rw [h2]
    exact la_none h1
theorem an_t {P : Nat → Bool} {j : Nat} : ∀ {n : Nat}, j < n → P j = true → an P n = true
  | 0, h, _ => absurd h (by omega)
  | n + 1, h, hj => by
    unfold an
    by_cases q : j = n
    · subst q
      split
      · rfl
      · exact hj
    · rw [if_pos (an_t (by omega) hj)]
theorem an_n {P : Nat → Bool} : ∀ {n : Nat}, (∀ i, i < n → P i = false) → an P n = false
  | 0, _ => rfl
  | n + 1, h => by
    unfold an
    rw [an_n (fun i hi => h i (by omega)), if_neg (by decide), h n (by omega)]
theorem nI_ne5 {j : Nat} (h : j < 2 ^ 31) : ¬ nI j = -5 := fun z => by
  have := congrArg Int32.toInt z
  rw [nI_toInt h, show (-5 : Int32).toInt = -5 from rfl] at this
  omega
theorem an_fi {P : Nat → Bool} {n : Nat} (hn : n < 2 ^ 31) : an P n = decide (¬ fi P n = -5) := by
  rcases fi_cases P n with ⟨j, hj, h1, -, h2⟩ | ⟨h1, h2⟩
  · rw [an_t hj h1, h2, decide_eq_true (nI_ne5 (by omega))]
  · rw [an_n h1, h2]
    rfl
theorem fi_cong {P Q : Nat → Bool} {n : Nat} (h : ∀ i, i < n → P i = Q i) : fi P n = fi Q n := by
  rcases fi_cases P n with ⟨j, hj, h1, hm, h2⟩ | ⟨h1, h2⟩
  · rw [h2, fi_hit (fun i hi => (h i (by omega)).symm.trans (hm i hi)) ((h j hj).symm.trans h1) hj]
  · rw [h2, fi_none (fun i hi => (h i hi).symm.trans (h1 i hi))]
theorem cnt_cong {P Q : Nat → Bool} : ∀ {n : Nat}, (∀ i, i < n → P i = Q i) → cnt P n = cnt Q n
  | 0, _ => rfl
  | n + 1, h => by
    unfold cnt
    rw [h n (by omega), cnt_cong (fun i hi => h i (by omega))]
