/-! pure words: what the methods answer -/
theorem up_ne {w : az_W} {a b : Nat} {e x : va_E} (h : w b = x) (hn : b ≠ a) : va_up w a e b = x := by simp [va_up, hn, h]
theorem up_eq {w : az_W} {a : Nat} {e : va_E} : va_up w a e a = e := by simp [va_up]
theorem up_self {w : az_W} {a : Nat} {e : va_E} (h : w a = e) : va_up w a e = w := by
  funext k
  by_cases hk : k = a
  · subst hk; simp [va_up, h]
  · simp [va_up, hk]
theorem up_up {w : az_W} {a : Nat} {e e2 : va_E} : va_up (va_up w a e) a e2 = va_up w a e2 := by
  funext k
  by_cases hk : k = a <;> simp [va_up, hk]
theorem up_sw {w : az_W} {a b : Nat} {e e2 : va_E} (h : a ≠ b) : va_up (va_up w a e) b e2 = va_up (va_up w b e2) a e := by
  funext k
  by_cases hk : k = a
  · subst hk; simp [va_up, h]
  · by_cases hb : k = b
    · subst hb; simp [va_up, hk]
    · simp [va_up, hk, hb]
theorem lp_t {j N : Nat} (hj : j ≤ N) (hN : N < 2 ^ 31) {x : Int32} (hx : x = nI N) (c : x ≤ nI j) : j = N := by
  subst hx
  have := (nI_leI hN (by omega)).mp c
  omega
theorem lp_f {j N : Nat} (hj : j < 2 ^ 31) (hN : N < 2 ^ 31) {x : Int32} (hx : x = nI N) (c : ¬ x ≤ nI j) : j < N := by
  subst hx
  rcases Nat.lt_or_ge j N with q | q
  · exact q
  · exact absurd ((nI_leI hN hj).mpr q) c
/-- in range -/
def pgn (n : Nat) (p : Int32) : Bool := if p < 0 then false else if nI n ≤ p then false else true
theorem pgn_nI {n : Nat} {p : Int32} (h : pgn n p = true) (hn : n < 2 ^ 31) : ∃ j : Nat, j < n ∧ p = nI j := by
  unfold pgn at h
  by_cases h1 : p < 0
  · rw [if_pos h1] at h; cases h
  · rw [if_neg h1] at h
    by_cases h2 : nI n ≤ p
    · rw [if_pos h2] at h; cases h
    · obtain ⟨j, hj, rfl⟩ := nI_of h1
      exact ⟨j, lp_f hj hn rfl h2, rfl⟩
theorem pgn_of {n j : Nat} (h : j < n) (hn : n < 2 ^ 31) : pgn n (nI j) = true := by
  unfold pgn
  rw [if_neg (nI_pos (by omega)), if_neg (fun c => by have := (nI_leI hn (by omega)).mp c; omega)]
theorem ix_nI {n : Nat} {p : Int32} (h1 : ¬ p < 0) {x : Int32} (hx : x = nI n) (h2 : ¬ x ≤ p) (hn : n < 2 ^ 31) : ∃ j : Nat, j < n ∧ p = nI j := by
  subst hx
  exact pgn_nI (by unfold pgn; rw [if_neg h1, if_neg h2]) hn
/-- an element, or a number for none -/
def ix (n : Nat) (d : Int32) (f : Nat → Int32) (p : Int32) : Int32 := if pgn n p = true then f p.toNatClampNeg else d
theorem ix_in {n j : Nat} {d : Int32} {f : Nat → Int32} (h : j < n) (hn : n < 2 ^ 31) : ix n d f (nI j) = f j := by
  unfold ix
  rw [if_pos (pgn_of h hn), nI_clamp (by omega)]
theorem ix_out {n : Nat} {d : Int32} {f : Nat → Int32} {p : Int32} (h : pgn n p = false) : ix n d f p = d := by
  unfold ix
  rw [h]; rfl
def ixu (n : Nat) (f : Nat → Int32) (p v : Int32) : Nat → Int32 := if pgn n p = true then upd f p.toNatClampNeg v else f
theorem ixu_in {n j : Nat} {v : Int32} {f : Nat → Int32} (h : j < n) (hn : n < 2 ^ 31) : ixu n f (nI j) v = upd f j v := by
  unfold ixu
  rw [if_pos (pgn_of h hn), nI_clamp (by omega)]
theorem ixu_out {n : Nat} {v : Int32} {f : Nat → Int32} {p : Int32} (h : pgn n p = false) : ixu n f p v = f := by
  unfold ixu
  rw [h]; rfl
theorem pgn_neg {n : Nat} {p : Int32} (h : p < 0) : pgn n p = false := by unfold pgn; rw [if_pos h]
theorem pgn_big {n : Nat} {p x : Int32} (hx : x = nI n) (h : x ≤ p) : pgn n p = false := by
  subst hx
  unfold pgn
  by_cases h1 : p < 0
  · rw [if_pos h1]
  · rw [if_neg h1, if_pos h]
theorem pgn_mid {n : Nat} {p x : Int32} (h1 : ¬ p < 0) (hx : x = nI n) (h : ¬ x ≤ p) : pgn n p = true := by
  subst hx
  unfold pgn
  rw [if_neg h1, if_neg h]
/-- how many hold, below n -/
def cnt (p : Nat → Bool) : Nat → Nat
  | 0 => 0
  | n + 1 => if p n = true then cnt p n + 1 else cnt p n
theorem cnt_t {p : Nat → Bool} {n : Nat} (h : p n = true) : cnt p (n + 1) = cnt p n + 1 := by simp [cnt, h]
theorem cnt_f {p : Nat → Bool} {n : Nat} (h : p n = false) : cnt p (n + 1) = cnt p n := by simp [cnt, h]
theorem cnt_le (p : Nat → Bool) : ∀ n, cnt p n ≤ n
  | 0 => Nat.le_refl 0
  | n + 1 => by
    have := cnt_le p n
    unfold cnt
    split <;> omega
/-- the first that holds, below n; -5 for none -/
def fi (p : Nat → Bool) (n : Nat) : Int32 := match (List.range n).find? p with
  | some i => nI i
  | none => -5
theorem fi_hit {p : Nat → Bool} {n j : Nat} (h : ∀ i, i < j → p i = false) (hj : p j = true) (hn : j < n) : fi p n = nI j := by
  have : (List.range n).find? p = some j := by
    rw [List.find?_range_eq_some]
    exact ⟨hj, by simpa using hn, fun i hi => by simp [h i hi]⟩
  unfold fi
  rw [this]
theorem fi_none {p : Nat → Bool} {n : Nat} (h : ∀ i, i < n → p i = false) : fi p n = -5 := by
  have : (List.range n).find? p = none := by
    rw [List.find?_range_eq_none]
    intro i hi
    simp [h i hi]
  unfold fi
  rw [this]
theorem fi_cases (p : Nat → Bool) (n : Nat) : (∃ j, j < n ∧ p j = true ∧ (∀ i, i < j → p i = false) ∧ fi p n = nI j) ∨ ((∀ i, i < n → p i = false) ∧ fi p n = -5) := by
  by_cases h : ∀ i, i < n → p i = false
  · exact Or.inr ⟨h, fi_none h⟩
  · have h2 : ∃ i, i < n ∧ p i = true := by
      rcases Classical.em (∃ i, i < n ∧ p i = true) with q | q
      · exact q
      · exact absurd (fun i hi => by
          cases hp : p i with
          | false => rfl
          | true => exact absurd ⟨i, hi, hp⟩ q) h
    obtain ⟨j, ⟨hj, hp⟩, hm⟩ := pk_least (fun i => i < n ∧ p i = true) h2
    have hm2 : ∀ i, i < j → p i = false := fun i hi => by
      cases hq : p i with
      | false => rfl
      | true => exact absurd ⟨by omega, hq⟩ (hm i hi)
    exact Or.inl ⟨j, hj, hp, hm2, fi_hit hm2 hp hj⟩
def smf (f : Nat → Int32) : Nat → Int32
  | 0 => 0
  | n + 1 => smf f n + f n
def mxf (f : Nat → Int32) : Nat → Int32
  | 0 => 0
  | n + 1 => if f n ≤ mxf f n then mxf f n else f n
def psf (f : Nat → Int32) : Nat → Int32
  | 0 => 0
  | n + 1 => if f n = -5 then psf f n else psf f n ||| (1 <<< (nI n &&& 31))
def flf (f : Nat → Int32) (v : Int32) (j : Nat) : Nat → Int32 := fun k => if k < j then v else f k
theorem flf_0 (f : Nat → Int32) (v : Int32) : flf f v 0 = f := by funext k; simp [flf]
theorem flf_s (f : Nat → Int32) (v : Int32) (j : Nat) : upd (flf f v j) j v = flf f v (j + 1) := by
  funext k
  by_cases h : k = j
  · subst h; simp [upd, flf]
  · by_cases h2 : k < j
    · simp [upd, flf, h, h2]; omega
    · have : ¬ k < j + 1 := by omega
      simp [upd, flf, h, h2, this]
def cpf (f g : Nat → Int32) (j : Nat) : Nat → Int32 := fun k => if k < j then f k else g k
theorem cpf_0 (f g : Nat → Int32) : cpf f g 0 = g := by funext k; simp [cpf]
theorem cpf_s (f g : Nat → Int32) (j : Nat) : upd (cpf f g j) j (f j) = cpf f g (j + 1) := by
  funext k
  by_cases h : k = j
  · subst h; simp [upd, cpf]
  · by_cases h2 : k < j
    · have : k < j + 1 := by omega
      simp [upd, cpf, h, h2, this]
    · have : ¬ k < j + 1 := by omega
      simp [upd, cpf, h, h2, this]
theorem az_fitb {x : Int32} (h : x = 0 ∨ x = 1) : az_fit .boolean (.int x) = true := by rcases h with rfl | rfl <;> rfl
theorem az_nr_b {x : Int32} (h : x = 0 ∨ x = 1) : az_nr 2 x = x := by rcases h with rfl | rfl <;> rfl
def sealOf (x : Int32) : Int32 := x * 37 + 11 - (x * 37 + 11) / 101 * 101
