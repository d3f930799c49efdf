/-! unevenness on both sides -/
theorem wear_b {B : Nat} {u : Nat → Int32} (h : WB B u) (hB : B ≤ 2 ^ 20) : ∀ {n : Nat}, n ≤ 24 → ∃ g a, mxf u n = nI g ∧ smf u n = nI a ∧ a ≤ n * g ∧ g ≤ a ∧ g ≤ B ∧ a ≤ n * B
  | 0, _ => ⟨0, 0, rfl, rfl, by omega, by omega, by omega, by omega⟩
  | n + 1, hn => by
    obtain ⟨g, a, h1, h2, h3, h4, h5, h6⟩ := wear_b h hB (n := n) (by omega)
    obtain ⟨x, hx, hx2⟩ := h n (by omega)
    have h7 : n * B ≤ 24 * 2 ^ 20 := Nat.mul_le_mul (by omega) hB
    unfold mxf smf
    rw [h1, h2, hx2, nI_add]
    have e1 : (n + 1) * g = n * g + g := Nat.succ_mul n g
    have e2 : (n + 1) * x = n * x + x := Nat.succ_mul n x
    have e3 : (n + 1) * B = n * B + B := Nat.succ_mul n B
    by_cases q : x ≤ g
    · rw [if_pos ((nI_leI (by omega) (by omega)).mpr q)]
      exact ⟨g, a + x, rfl, rfl, by omega, by omega, h5, by omega⟩
    · rw [if_neg (fun z => q ((nI_leI (by omega) (by omega)).mp z))]
      have h8 : n * g ≤ n * x := Nat.mul_le_mul_left n (by omega)
      exact ⟨x, a + x, rfl, rfl, by omega, by omega, by omega, by omega⟩
theorem wear_u {B : Nat} {S : az_S} (h : Inv B S) (hB : B ≤ 2 ^ 20) : ∃ g a, mxf (S 2) 24 = nI g ∧ smf (S 2) 24 = nI a ∧ a ≤ 24 * g ∧ g ≤ a ∧ a < 2 ^ 31 := by
  obtain ⟨g, a, h1, h2, h3, h4, h5, h6⟩ := wear_b h.1.2.2.2.2.2 hB (Nat.le_refl 24)
  exact ⟨g, a, h1, h2, h3, h4, by omega⟩
theorem cal_bits {X : az_X} {B : Nat} {w : az_W} {sz sl : Nat} (h : BB B w) (hB : B ≤ 2 ^ 20) : Cal X B 119 187 [] w sz sl := by
  have hb := h
  obtain ⟨N, P, kp, o, n, Hs, ch, pg, tl, m, e, T, hg, ht, hr⟩ := h
  obtain ⟨g, a, h1, h2, h3, h4, h5⟩ := wear_u hr.1.2 hB
  exact cal_qry hb (m_bits hg h1 h2 h3 h4 h5) (r_bits (MWp_0 ht) (MWp_1 ht) ((mxf_cong hr.1.1.c2).trans h1) ((smf_cong hr.1.1.c2).trans h2) h3 h4 h5) rfl
theorem cal_even {X : az_X} {B : Nat} {w : az_W} {sz sl : Nat} (h : BB B w) (hB : B ≤ 2 ^ 20) : ∃ d, (∃ fs, w 151 = .inr (9, fs)) ∧ az_M X 118 [.ref 0] w sz sl (some (.double d), w, sz, sl) ∧ az_M X 186 [.ref 151] w sz sl (some (.double d), w, sz, sl) ∧ FP.dcmp d d = some .eq := by
  obtain ⟨N, P, kp, o, n, Hs, ch, pg, tl, m, e, T, hg, ht, hr⟩ := h
  obtain ⟨g, a, h1, h2, h3, h4, h5⟩ := wear_u hr.1.2 hB
  exact ⟨unD g a, ⟨_, MWp_0 ht⟩, m_unevenness hg h1 h2 h3 h4 h5, r_unevenness (MWp_0 ht) (MWp_1 ht) ((mxf_cong hr.1.1.c2).trans h1) ((smf_cong hr.1.1.c2).trans h2) h3 h4 h5, (un_all h3 h4 h5).2.2.1⟩
theorem BB_w0 {B : Nat} {w : az_W} (h : BB B w) : ∃ fs, w 0 = .inr (8, fs) := by
  obtain ⟨N, P, kp, o, n, Hs, ch, pg, tl, m, e, T, hg, ht, hr⟩ := h
  exact ⟨_, hg.1⟩
theorem HR_m {B B' : Nat} {w : az_W} (h : BB B w) (hB : B ≤ B') : BB B' w := by
  obtain ⟨N, P, kp, o, n, Hs, ch, pg, tl, m, e, T, hg, ht, hr⟩ := h
  exact ⟨N, P, kp, o, n, Hs, ch, pg, tl, m, e, T, hg, ht, HR_mono hB hr⟩
