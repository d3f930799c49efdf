/-! the two fresh objects -/
theorem Rel_0 : Rel S0 (T1 0) :=
  ⟨by decide +kernel, by decide +kernel, by decide +kernel, rfl, rfl, rfl, rfl, by decide +kernel, by decide +kernel, rfl, by decide +kernel, rfl, rfl, by decide +kernel, by decide +kernel,
   fun _ _ z => absurd rfl z, fun _ _ _ _ z => absurd rfl z, rfl, rfl⟩
theorem Inv_0 : Inv 0 S0 := by
  have h6 : ∀ p, p < 8 → S0 6 p = -5 := by decide +kernel
  have hc : ∀ p, p < 8 → cO S0 p = -5 := by decide +kernel
  have h5 : ∀ p, p < 8 → S0 5 p = -1 := by decide +kernel
  exact ⟨⟨S0_OK, fun p hp => Or.inl (hc p hp), fun i j hi hj z => absurd (hc i hi) z, fun p hp => Or.inl (h5 p hp), fun r hr z => absurd rfl z, fun i hi => ⟨0, Nat.le_refl 0, rfl⟩⟩,
    fun p hp => Or.inl (h6 p hp), fun i j hi hj z => absurd (h6 i hi) z, fun p q hp hq z => absurd (h6 p hp) z, fun p hp _ => h6 p hp, fun _ => ⟨rfl, h6⟩, ⟨0, rfl, Nat.zero_le _⟩, fun z => absurd rfl z⟩
theorem BB_0 {w : az_W} : BB 0 (mw (bk w 0 151 (g8 0)) T1) :=
  ⟨S0, S0, 0, 0, 0, fun _ => S0, fun _ => 0, fun _ => 0, fun _ => 0, 0, 0, T1, GW_mw GW_0, MW_mw, ⟨Rel_0, Inv_0⟩, rfl, fun j hj => absurd hj (by omega), rfl, Or.inl rfl, fun z => absurd rfl z, rfl, fun i hi => absurd hi (by omega)⟩
