/-! writeAll on both sides -/
theorem tls_go {B K : Nat} {N : az_S} {f : Nat → Int32} {g : Nat → Int32} {t : tx_S} (h : Rel N f) (hv : Inv B N) (h4 : N 12 4 = 0) (hg : GG g t K) : ∀ {i : Nat}, i ≤ K → Rel (tlS t.1 t.2.1 N i) (tlR g f i) ∧ Inv B (tlS t.1 t.2.1 N i) ∧ tlS t.1 t.2.1 N i 12 4 = 0
  | 0, _ => ⟨h, hv, h4⟩
  | i + 1, hi => by
    obtain ⟨a1, a2, a3⟩ := tls_go h hv h4 hg (i := i) (by omega)
    obtain ⟨⟨p, hp, b1, b2⟩, b3, b4⟩ := hg i (by omega)
    have e : tlS t.1 t.2.1 N (i + 1) = va_up (tlS t.1 t.2.1 N i) 5 (upd (tlS t.1 t.2.1 N i 5) p (t.2.1 i)) := by
      show va_up (tlS t.1 t.2.1 N i) 5 (ixu 8 (tlS t.1 t.2.1 N i 5) (t.1 i) (t.2.1 i)) = _
      rw [b2, ixu_in hp (by decide)]
    have e2 : tlR g f (i + 1) = upd (tlR g f i) (93 + p) (dk (t.2.1 i)) := by
      show upd (tlR g f i) (93 + (g (2 * i)).toNatClampNeg) (g (2 * i + 1)) = _
      rw [b1, nI_clamp (by omega), b3]
    rw [e, e2]
    refine ⟨R_u5 a1 hp, Inv_tell a2 a3 (fun q hq => ?_), ?_⟩
    · by_cases w : q = p
      · rw [w, upd_e]; exact b4
      · rw [upd_n w]; exact a2.1.2.2.2.1 q hq
    · rw [sU_ne (show 12 ≠ 5 by decide)]; exact a3
theorem ac_all {B k m : Nat} {N T : az_S} {ch pg tl : Nat → Int32} (h : Rel N (T 0)) (hv : Inv B N) (hc : ∀ i, i < m → T 3 i = ch i) (hm : m ≤ 60) :
    ∃ x g s K, pF T m (m + 2) true (T 4) 0 0 = some (x, g, s, K) ∧ (x = -5 → ∀ i, i < K → ∃ p, p < 8 ∧ g (2 * i) = nI p) ∧ (x = -5 → K ≤ 20) ∧ Ac B (fWA ch pg tl m N) (tWA T x g s K k) (tX T g s K) k := by
  obtain ⟨⟨x, g, s, K⟩, h1, h2⟩ := txt_go (T := T) (t0 := (pg, tl, 0)) hc hm (n := m + 1) (k := 0) (s := 0) (t := (pg, tl, 0)) (g := T 4) (by omega) (by omega) (by omega) rfl rfl (fun i hi => absurd hi (by omega)) (fun i hi => absurd hi (by omega))
  refine ⟨x, g, s, K, h1, ?_⟩
  rcases h2 with ⟨y, hy, e1, e2⟩ | ⟨e1, e2, e3, e4, e5⟩
  · have e2' : x = nI y := e2
    have hn : ¬ x = -5 := by rw [e2']; exact nI_ne5 (by omega)
    refine ⟨fun z => absurd z hn, fun z => absurd z hn, ?_⟩
    unfold fWA tWA
    rw [if_pos hn, e1, if_pos (nI_neg (by omega) (by decide)), e2']
    exact Ac_n
  · have e2' : x = -5 := e2
    have e4' : GG g (scS ch (pg, tl, 0) m).2 K := e4
    have e5' : (scS ch (pg, tl, 0) m).2.2.2 = K := e5
    have hK : K ≤ 20 := by
      rw [← e5']
      exact scS_le (Nat.zero_le _) m
    have ht : tx ch pg tl m = (scS ch (pg, tl, 0) m).2 := by
      unfold tx
      rw [rfAt_none e3]
    refine ⟨fun _ i hi => ?_, fun _ => hK, ?_⟩
    · obtain ⟨⟨p, hp, b1, -⟩, -, -⟩ := e4' i hi
      exact ⟨p, hp, b1⟩
    · unfold fWA tWA
      rw [if_neg (Classical.not_not.mpr e2'), e1, if_neg (Classical.not_not.mpr rfl), ht, e5']
      by_cases q : N 12 4 = 0
      · rw [if_neg (Classical.not_not.mpr q), if_neg (fun z => (rel_on h hv.1.1).mp z q)]
        obtain ⟨a1, a2, -⟩ := tls_go h hv q e4' (Nat.le_refl K)
        exact Ac_s rfl a1 a2
      · rw [if_pos q, if_pos ((rel_on h hv.1.1).mpr q)]
        exact Ac_n
