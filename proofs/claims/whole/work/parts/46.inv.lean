/-! what holds of every state that is reached -/
def RG (g : Nat → Int32) : Prop := ∀ p, p < 8 → g p = -5 ∨ pgn 24 (g p) = true
def DV (x : Int32) : Prop := x = -1 ∨ x = -5 ∨ ∃ v : Nat, v < 1000 ∧ x = nI v
def AP (g g2 : Nat → Int32) : Prop := ∀ p q, p < 8 → q < 8 → ¬ g p = -5 → ¬ g p = g2 q
def WB (B : Nat) (g : Nat → Int32) : Prop := ∀ i, i < 24 → ∃ u : Nat, u ≤ B ∧ g i = nI u
/-- what a crash, a mark or a given up swap leave of it -/
def Cor (B : Nat) (S : az_S) : Prop :=
  OKS S ∧ RG (cO S) ∧ IJ (cO S) ∧ (∀ p, p < 8 → DV (S 5 p)) ∧ (∀ r, r < 4 → ¬ S 7 r = 0 → RG (S (8 + r))) ∧ WB B (S 2)
/-- the swap's part -/
def Swp (S : az_S) : Prop :=
  RG (S 6) ∧ IJ (S 6) ∧ AP (S 6) (cO S) ∧ (∀ p, p < 8 → S 5 p < 0 → S 6 p = -5) ∧
  (S 12 4 = 0 → S 12 5 = 0 ∧ ∀ p, p < 8 → S 6 p = -5) ∧
  (∃ d : Nat, S 12 5 = nI d ∧ d ≤ cN S + 1) ∧
  (¬ S 12 4 = 0 → S 12 5 = nI (cN S + 1) → RG (tb S (1 - S 12 6)) ∧ IJ (tb S (1 - S 12 6)))
def Inv (B : Nat) (S : az_S) : Prop := Cor B S ∧ Swp S
theorem WB_mono {B B' : Nat} {g : Nat → Int32} (h : WB B g) (hb : B ≤ B') : WB B' g := fun i hi => by
  obtain ⟨u, h1, h2⟩ := h i hi
  exact ⟨u, by omega, h2⟩
theorem Cor_mono {B B' : Nat} {S : az_S} (h : Cor B S) (hb : B ≤ B') : Cor B' S := ⟨h.1, h.2.1, h.2.2.1, h.2.2.2.1, h.2.2.2.2.1, WB_mono h.2.2.2.2.2 hb⟩
theorem Inv_mono {B B' : Nat} {S : az_S} (h : Inv B S) (hb : B ≤ B') : Inv B' S := ⟨Cor_mono h.1 hb, h.2⟩
theorem RG_cong {g g2 : Nat → Int32} (h : RG g) (e : ∀ p, p < 8 → g2 p = g p) : RG g2 := fun p hp => by rw [e p hp]; exact h p hp
theorem IJ_cong {g g2 : Nat → Int32} (h : IJ g) (e : ∀ p, p < 8 → g2 p = g p) : IJ g2 := fun i j hi hj h1 h2 => by
  rw [e i hi] at h1 h2
  rw [e j hj] at h2
  exact h i j hi hj h1 h2
theorem AP_cong {g g2 k k2 : Nat → Int32} (h : AP g k) (e : ∀ p, p < 8 → g2 p = g p) (e2 : ∀ p, p < 8 → k2 p = k p) : AP g2 k2 := fun p q hp hq h1 => by
  rw [e p hp] at h1 ⊢
  rw [e2 q hq]
  exact h p q hp hq h1
theorem cN_lt (S : az_S) : cN S ≤ 8 := cnt_le _ 8
theorem cN_cong {S T : az_S} (e : ∀ p, p < 8 → S 5 p = T 5 p) : cN S = cN T := cnt_cong (fun i hi => by show decide (¬ S 5 i < 0) = decide (¬ T 5 i < 0); rw [e i hi])
theorem tb_cong {S T : az_S} {m : Int32} (e3 : ∀ p, p < 8 → S 3 p = T 3 p) (e4 : ∀ p, p < 8 → S 4 p = T 4 p) : ∀ p, p < 8 → tb S m p = tb T m p := fun p hp => by
  unfold tb
  split
  · exact e3 p hp
  · exact e4 p hp
/-- states that agree below their bounds -/
theorem Cor_SE {B : Nat} {S T : az_S} (h : Cor B T) (e : SE S T) : Cor B S := by
  obtain ⟨h1, h2, h3, h4, h5, h6⟩ := h
  have e6 : S 12 6 = T 12 6 := e 12 (by decide) 6 (by decide)
  have ec : ∀ p, p < 8 → cO S p = cO T p := by
    unfold cO
    rw [e6]
    exact tb_cong (e 3 (by decide)) (e 4 (by decide))
  exact ⟨SE_OK e h1, RG_cong h2 ec, IJ_cong h3 ec, fun p hp => by rw [e 5 (by decide) p hp]; exact h4 p hp,
    fun r hr z => RG_cong (h5 r hr (by rw [← e 7 (by decide) r hr]; exact z)) (fun p hp => e (8 + r) (by omega) p (by unfold dl; rw [if_neg (by omega), if_neg (by omega), if_neg (by omega)]; exact hp)),
    fun i hi => by rw [e 2 (by decide) i hi]; exact h6 i hi⟩
theorem Swp_SE {S T : az_S} (h : Swp T) (e : SE S T) : Swp S := by
  obtain ⟨h1, h2, h3, h4, h5, ⟨d, h6, h7⟩, h8⟩ := h
  have e6 : S 12 6 = T 12 6 := e 12 (by decide) 6 (by decide)
  have e4 : S 12 4 = T 12 4 := e 12 (by decide) 4 (by decide)
  have e5 : S 12 5 = T 12 5 := e 12 (by decide) 5 (by decide)
  have ew : ∀ p, p < 8 → S 6 p = T 6 p := e 6 (by decide)
  have ed : ∀ p, p < 8 → S 5 p = T 5 p := e 5 (by decide)
  have et : ∀ m : Int32, ∀ p, p < 8 → tb S m p = tb T m p := fun m => tb_cong (e 3 (by decide)) (e 4 (by decide))
  have en : cN S = cN T := cN_cong ed
  have ec : ∀ p, p < 8 → cO S p = cO T p := by
    unfold cO
    rw [e6]
    exact et _
  refine ⟨RG_cong h1 ew, IJ_cong h2 ew, AP_cong h3 ew ec, fun p hp z => ?_, fun z => ?_, ⟨d, by rw [e5, h6], by rw [en]; exact h7⟩, fun z z2 => ?_⟩
  · rw [ew p hp]
    rw [ed p hp] at z
    exact h4 p hp z
  · rw [e4] at z
    rw [e5]
    exact ⟨(h5 z).1, fun p hp => by rw [ew p hp]; exact (h5 z).2 p hp⟩
  · rw [e4] at z
    rw [e5, en] at z2
    rw [e6]
    exact ⟨RG_cong (h8 z z2).1 (et _), IJ_cong (h8 z z2).2 (et _)⟩
theorem Inv_SE {B : Nat} {S T : az_S} (h : Inv B T) (e : SE S T) : Inv B S := ⟨Cor_SE h.1 e, Swp_SE h.2 e⟩
/-! the changes, one by one -/
theorem cO_up {S : az_S} {c : Nat} {g : Nat → Int32} (h3 : c ≠ 3) (h4 : c ≠ 4) (h12 : c ≠ 12) : cO (va_up S c g) = cO S := by
  have e12 : va_up S c g 12 = S 12 := sU_ne (Ne.symm h12)
  have e3 : va_up S c g 3 = S 3 := sU_ne (Ne.symm h3)
  have e4 : va_up S c g 4 = S 4 := sU_ne (Ne.symm h4)
  unfold cO tb
  rw [e12, e3, e4]
theorem cO_sN {S : az_S} {k : Nat} {x : Int32} (h : k ≠ 6) : cO (sN S k x) = cO S := by
  have e12 : sN S k x 12 6 = S 12 6 := sN_n (Ne.symm h)
  have e3 : sN S k x 3 = S 3 := sN_ne (by decide)
  have e4 : sN S k x 4 = S 4 := sN_ne (by decide)
  unfold cO tb
  rw [e12, e3, e4]
theorem cO_6 {S : az_S} {x : Int32} : cO (sN S 6 x) = tb S x := by
  have e12 : sN S 6 x 12 6 = x := sN_e
  have e3 : sN S 6 x 3 = S 3 := sN_ne (by decide)
  have e4 : sN S 6 x 4 = S 4 := sN_ne (by decide)
  unfold cO tb
  rw [e12, e3, e4]
/-- the desk's word for a page -/
theorem Cor_tell {B : Nat} {S : az_S} {g : Nat → Int32} (h : Cor B S) (hg : ∀ p, p < 8 → DV (g p)) : Cor B (va_up S 5 g) := by
  obtain ⟨h1, h2, h3, h4, h5, h6⟩ := h
  refine ⟨sU_OK h1 (by decide) (by decide), ?_, ?_, fun p hp => ?_, fun r hr z => ?_, ?_⟩
  · rw [cO_up (by decide) (by decide) (by decide)]; exact h2
  · rw [cO_up (by decide) (by decide) (by decide)]; exact h3
  · rw [sU_eq]; exact hg p hp
  · rw [sU_ne (show 8 + r ≠ 5 by omega)]
    rw [sU_ne (show 7 ≠ 5 by decide)] at z
    exact h5 r hr z
  · rw [sU_ne (show 2 ≠ 5 by decide)]; exact h6
theorem Inv_tell {B : Nat} {S : az_S} {g : Nat → Int32} (h : Inv B S) (h0 : S 12 4 = 0) (hg : ∀ p, p < 8 → DV (g p)) : Inv B (va_up S 5 g) := by
  refine ⟨Cor_tell h.1 hg, ?_⟩
  obtain ⟨h1, h2, h3, -, h5, -, -⟩ := h.2
  have e6 : va_up S 5 g 6 = S 6 := sU_ne (by decide)
  have e12 : va_up S 5 g 12 = S 12 := sU_ne (by decide)
  unfold Swp
  rw [e6, e12, cO_up (by decide) (by decide) (by decide)]
  exact ⟨h1, h2, h3, fun p hp _ => (h5 h0).2 p hp, h5, ⟨0, (h5 h0).1, Nat.zero_le _⟩, fun z => absurd h0 z⟩
theorem Inv_begin {B : Nat} {S : az_S} (h : Inv B S) (h0 : S 12 4 = 0) : Inv B (sN S 4 1) := by
  obtain ⟨⟨a1, a2, a3, a4, a5, a6⟩, h1, h2, h3, -, h5, -, -⟩ := h
  have e6 : sN S 4 1 6 = S 6 := sN_ne (by decide)
  have e7 : sN S 4 1 7 = S 7 := sN_ne (by decide)
  have e5 : sN S 4 1 5 = S 5 := sN_ne (by decide)
  have e2 : sN S 4 1 2 = S 2 := sN_ne (by decide)
  have ed : sN S 4 1 12 5 = S 12 5 := sN_n (by decide)
  refine ⟨⟨sB_OK a1 (Or.inr rfl), ?_, ?_, ?_, fun r hr z => ?_, ?_⟩, ?_⟩
  · rw [cO_sN (by decide)]; exact a2
  · rw [cO_sN (by decide)]; exact a3
  · rw [e5]; exact a4
  · rw [sN_ne (show 8 + r ≠ 12 by omega)]
    rw [e7] at z
    exact a5 r hr z
  · rw [e2]; exact a6
  · unfold Swp
    rw [e6, e5, ed, cO_sN (by decide)]
    refine ⟨h1, h2, h3, fun p hp _ => (h5 h0).2 p hp, fun _ => h5 h0, ⟨0, (h5 h0).1, Nat.zero_le _⟩, fun _ z => ?_⟩
    rw [(h5 h0).1] at z
    have := cN_lt (sN S 4 1)
    exact absurd z.symm (nI_ne0 (by omega) (by omega))
/-- the end of a swap -/
theorem Inv_end {B : Nat} {S : az_S} (h : Cor B S) : Inv B (dEnd S) := by
  obtain ⟨a1, a2, a3, a4, a5, a6⟩ := h
  have hc : cO (dEnd S) = cO S := by
    unfold dEnd
    rw [cO_up (by decide) (by decide) (by decide), cO_sN (by decide), cO_sN (by decide)]
  have hn : ∀ d, d ≠ 6 → d ≠ 12 → dEnd S d = S d := fun d h6 h12 => by
    unfold dEnd
    rw [sU_ne h6, sN_ne h12, sN_ne h12]
  have e6 : ∀ p, p < 8 → dEnd S 6 p = -5 := fun p hp => by
    unfold dEnd
    rw [sU_eq, flf_i hp]
  have e4 : dEnd S 12 4 = 0 := by
    unfold dEnd
    rw [sU_ne (show 12 ≠ 6 by decide), sN_n (by decide), sN_e]
  have e5 : dEnd S 12 5 = 0 := by
    unfold dEnd
    rw [sU_ne (show 12 ≠ 6 by decide), sN_e]
  refine ⟨⟨dEnd_OK a1, ?_, ?_, ?_, fun r hr z => ?_, ?_⟩, fun p hp => Or.inl (e6 p hp), fun i j hi hj z => absurd (e6 i hi) z, fun p q hp hq z => absurd (e6 p hp) z, fun p hp _ => e6 p hp, fun _ => ⟨e5, e6⟩, ⟨0, e5, Nat.zero_le _⟩, fun z => absurd e4 z⟩
  · rw [hc]; exact a2
  · rw [hc]; exact a3
  · rw [hn 5 (by decide) (by decide)]; exact a4
  · rw [hn (8 + r) (by omega) (by omega)]
    rw [hn 7 (by decide) (by decide)] at z
    exact a5 r hr z
  · rw [hn 2 (by decide) (by decide)]; exact a6
theorem Cor_desk {B : Nat} {S : az_S} (h : Cor B S) : Cor B (dDesk S) := Cor_tell h (fun p hp => by rw [flf_i hp]; exact Or.inl rfl)
theorem Inv_mark {B : Nat} {S : az_S} (h : Inv B S) (h4 : ¬ S 12 4 = 0) (h5 : S 12 5 = nI (cN S + 1)) : Inv B (dMark S) := by
  obtain ⟨⟨a1, -, -, a4, a5, a6⟩, hs⟩ := h
  obtain ⟨b1, b2⟩ := hs.2.2.2.2.2.2 h4 h5
  have hc : cO (sN (sN S 6 (1 - S 12 6)) 8 (S 12 8 + 1)) = tb S (1 - S 12 6) := by rw [cO_sN (by decide), cO_6]
  have hok : OKS (sN (sN S 6 (1 - S 12 6)) 8 (S 12 8 + 1)) := by
    obtain ⟨⟨c1, c2, c3, c4, c5⟩, c6⟩ := a1
    refine ⟨⟨fun i hi => ?_, ?_, ?_, ?_, fun r hr => ?_⟩, ?_⟩
    · rw [sN_ne (show 7 ≠ 12 by decide), sN_ne (show 7 ≠ 12 by decide)]; exact c1 i hi
    · rw [sN_n (by decide), sN_n (by decide)]; exact c2
    · rw [sN_n (by decide), sN_n (by decide)]; exact c3
    · rw [sN_n (by decide), sN_n (by decide)]; exact c4
    · rw [sN_n (by omega), sN_n (by omega)]; exact c5 r hr
    · rw [sN_n (by decide), sN_e]
      rcases c6 with q | q <;> rw [q]
      · exact Or.inr rfl
      · exact Or.inl rfl
  refine Inv_end (Cor_desk ⟨hok, ?_, ?_, ?_, fun r hr z => ?_, ?_⟩)
  · rw [hc]; exact b1
  · rw [hc]; exact b2
  · rw [sN_ne (by decide), sN_ne (by decide)]; exact a4
  · rw [sN_ne (show 8 + r ≠ 12 by omega), sN_ne (show 8 + r ≠ 12 by omega)]
    rw [sN_ne (by decide), sN_ne (by decide)] at z
    exact a5 r hr z
  · rw [sN_ne (by decide), sN_ne (by decide)]; exact a6
theorem Cor_put {B : Nat} {S : az_S} {j : Nat} {x s : Int32} (h : Cor B S) (hj : j < 24) : Cor (B + 1) (dPut S (nI j) x s) := by
  obtain ⟨a1, a2, a3, a4, a5, a6⟩ := h
  have hok := dPut_OK (c := nI j) (x := x) (s := s) a1
  rw [dPut_in hj] at hok ⊢
  refine ⟨hok, ?_, ?_, ?_, fun r hr z => ?_, ?_⟩
  · rw [cO_up (by decide) (by decide) (by decide), cO_up (by decide) (by decide) (by decide), cO_up (by decide) (by decide) (by decide)]; exact a2
  · rw [cO_up (by decide) (by decide) (by decide), cO_up (by decide) (by decide) (by decide), cO_up (by decide) (by decide) (by decide)]; exact a3
  · rw [sU_ne (show 5 ≠ 2 by decide), sU_ne (show 5 ≠ 1 by decide), sU_ne (show 5 ≠ 0 by decide)]; exact a4
  · rw [sU_ne (show 8 + r ≠ 2 by omega), sU_ne (show 8 + r ≠ 1 by omega), sU_ne (show 8 + r ≠ 0 by omega)]
    rw [sU_ne (show 7 ≠ 2 by decide), sU_ne (show 7 ≠ 1 by decide), sU_ne (show 7 ≠ 0 by decide)] at z
    exact a5 r hr z
  · rw [sU_eq]
    intro i hi
    by_cases q : i = j
    · subst q
      obtain ⟨u, h1, h2⟩ := a6 i hi
      exact ⟨u + 1, by omega, by rw [upd_e, h2, nI_1]⟩
    · obtain ⟨u, h1, h2⟩ := a6 i hi
      exact ⟨u, by omega, by rw [upd_n q, h2]⟩
/-- a step that writes a cell -/
theorem Inv_owed {B : Nat} {S : az_S} {c p d : Nat} (h : Inv B S) (h4 : ¬ S 12 4 = 0) (hd : S 12 5 = nI d) (hdc : d < cN S) (hc : c < 24) (hf : frB S (nI c) = true) (hp : p < 8) (hpq : wP S = nI p) (hp5 : ¬ S 5 p < 0) (hcw : cw S 24 = nI c) : Inv (B + 1) (dOwed S) := by
  have h := h
  obtain ⟨hC, h1, h2, h3, h6, h7, h8, h9⟩ := h
  have f1 : fc (cO S) (nI c) = -5 := by
    by_cases q : fc (cO S) (nI c) = -5
    · exact q
    · rw [frB_1 q] at hf; cases hf
  have f3 : fc (S 6) (nI c) = -5 := by
    by_cases q : fc (S 6) (nI c) = -5
    · exact q
    · rw [frB_3 q] at hf; cases hf
  have nf : ∀ g : Nat → Int32, fc g (nI c) = -5 → ∀ i, i < 8 → ¬ g i = nI c := fun g hg i hi z => by
    unfold fc at hg
    rcases fi_cases (fun i => decide (g i = nI c)) 8 with ⟨j, hj, -, -, q2⟩ | ⟨q1, -⟩
    · rw [q2] at hg
      exact nI_ne5 (by omega) hg
    · have := q1 i hi
      rw [decide_eq_true z] at this
      cases this
  have hput : ix 8 (-1) (S 5) (wP S) = S 5 p := by rw [hpq, ix_in hp (by decide)]
  unfold dOwed
  rw [hcw, hput, hpq]
  show Inv (B + 1) (sN (va_up (dPut S (nI c) (S 5 p) (sealOf (S 5 p))) 6 (ixu 8 (dPut S (nI c) (S 5 p) (sealOf (S 5 p)) 6) (nI p) (nI c))) 5 _)
  rw [ixu_in hp (by decide)]
  have hn : ∀ e, e ≠ 0 → e ≠ 1 → e ≠ 2 → dPut S (nI c) (S 5 p) (sealOf (S 5 p)) e = S e := fun e h0 h1 h2 => by
    rw [dPut_in hc, sU_ne h2, sU_ne h1, sU_ne h0]
  have hcO : cO (dPut S (nI c) (S 5 p) (sealOf (S 5 p))) = cO S := by
    rw [dPut_in hc, cO_up (by decide) (by decide) (by decide), cO_up (by decide) (by decide) (by decide), cO_up (by decide) (by decide) (by decide)]
  have hok := dOwed_OK hC.1
  unfold dOwed at hok
  rw [hcw, hput, hpq] at hok
  replace hok : OKS (sN (va_up (dPut S (nI c) (S 5 p) (sealOf (S 5 p))) 6 (ixu 8 (dPut S (nI c) (S 5 p) (sealOf (S 5 p)) 6) (nI p) (nI c))) 5 ((va_up (dPut S (nI c) (S 5 p) (sealOf (S 5 p))) 6 (ixu 8 (dPut S (nI c) (S 5 p) (sealOf (S 5 p)) 6) (nI p) (nI c))) 12 5 + 1)) := hok
  rw [ixu_in hp (by decide)] at hok
  have hcp := Cor_put (x := S 5 p) (s := sealOf (S 5 p)) hC hc
  revert hok
  rw [hn 6 (by decide) (by decide) (by decide), sU_ne (show 12 ≠ 6 by decide), hn 12 (by decide) (by decide) (by decide), hd, nI_1]
  intro hok
  obtain ⟨c1, c2, c3, c4, c5, c6⟩ := hcp
  generalize hT : dPut S (nI c) (S 5 p) (sealOf (S 5 p)) = T at *
  have e6 : sN (va_up T 6 (upd (S 6) p (nI c))) 5 (nI (d + 1)) 6 = upd (S 6) p (nI c) := by rw [sN_ne (by decide), sU_eq]
  have eo : ∀ e, e ≠ 6 → e ≠ 12 → sN (va_up T 6 (upd (S 6) p (nI c))) 5 (nI (d + 1)) e = T e := fun e h1 h2 => by rw [sN_ne h2, sU_ne h1]
  have ec : cO (sN (va_up T 6 (upd (S 6) p (nI c))) 5 (nI (d + 1))) = cO S := by rw [cO_sN (by decide), cO_up (by decide) (by decide) (by decide), hcO]
  have ed : sN (va_up T 6 (upd (S 6) p (nI c))) 5 (nI (d + 1)) 12 5 = nI (d + 1) := sN_e
  have e4 : sN (va_up T 6 (upd (S 6) p (nI c))) 5 (nI (d + 1)) 12 4 = S 12 4 := by rw [sN_n (by decide), sU_ne (show 12 ≠ 6 by decide), hn 12 (by decide) (by decide) (by decide)]
  have eN : cN (sN (va_up T 6 (upd (S 6) p (nI c))) 5 (nI (d + 1))) = cN S := cN_cong (fun q _ => by rw [eo 5 (by decide) (by decide), hn 5 (by decide) (by decide) (by decide)])
  have e5 : sN (va_up T 6 (upd (S 6) p (nI c))) 5 (nI (d + 1)) 5 = S 5 := by rw [eo 5 (by decide) (by decide), hn 5 (by decide) (by decide) (by decide)]
  have hlt := cN_lt S
  refine ⟨⟨hok, by rw [ec]; exact hC.2.1, by rw [ec]; exact hC.2.2.1, by rw [e5]; exact hC.2.2.2.1, fun r hr z => ?_, ?_⟩, ?_⟩
  · rw [eo (8 + r) (by omega) (by omega)]
    rw [eo 7 (by decide) (by decide)] at z
    exact c5 r hr z
  · rw [eo 2 (by decide) (by decide)]; exact c6
  · unfold Swp
    rw [e6, ec, e4, ed, eN, e5]
    refine ⟨fun q hq => ?_, fun i j hi hj z1 z2 => ?_, fun i j hi hj z => ?_, fun q hq z => ?_, fun z => absurd z h4, ⟨d + 1, rfl, by omega⟩, fun _ z => ?_⟩
    · by_cases w : q = p
      · subst w
        rw [upd_e]
        exact Or.inr (pgn_of hc (by decide))
      · rw [upd_n w]
        exact h1 q hq
    · by_cases w : i = p
      · by_cases w2 : j = p
        · rw [w, w2]
        · rw [w, upd_e, upd_n w2] at z2
          exact absurd z2.symm (nf _ f3 j hj)
      · by_cases w2 : j = p
        · rw [w2, upd_e, upd_n w] at z2
          exact absurd z2 (nf _ f3 i hi)
        · rw [upd_n w, upd_n w2] at z2
          rw [upd_n w] at z1
          exact h2 i j hi hj z1 z2
    · by_cases w : i = p
      · rw [w, upd_e]
        exact fun z2 => nf _ f1 j hj z2.symm
      · rw [upd_n w] at z ⊢
        exact h3 i j hi hj z
    · by_cases w : q = p
      · rw [w] at z
        exact absurd z hp5
      · rw [upd_n w]
        exact h6 q hq z
    · have := (nI_eqI (a := d + 1) (b := cN S + 1) (by omega) (by omega)).mp z
      omega
