/-! the static look at every instruction of every method -/
def az_ckA (M : Nat) : Bool := match az_hs[M]?, az_cs[M]? with
  | some h, some lc => az_ckM h lc && (decide (M = 0) || decide (h.1 = h.2.1.cls)) && (match lc[0]? with
    | some e => decide (e.1 = 0)
    | none => false)
  | _, _ => false
theorem az_cki_split {h : az_H} {l : List az_E} (n : Nat) : ∀ {es : List az_E} {i : Nat}, az_cki h l i (es.take n) = true → az_cki h l (i + n) (es.drop n) = true → az_cki h l i es = true := by
  induction n with
  | zero =>
    intro es i _ h2
    exact h2
  | succ n ih =>
    intro es i h1 h2
    cases es with
    | nil => rfl
    | cons e es =>
      simp only [List.take_succ_cons, az_cki, Bool.and_eq_true] at h1
      simp only [List.drop_succ_cons] at h2
      simp only [az_cki, Bool.and_eq_true]
      refine ⟨h1.1, ih h1.2 ?_⟩
      rw [show i + 1 + n = i + (n + 1) by omega]
      exact h2
def az_h0 : az_H := (RL, yL_law, cL_law, 8, some .boolean, 8, 177)
theorem az_l0 : az_cki az_h0 az_m0 0 ((az_m0).take 30) = true := by decide +kernel
theorem az_l30 : az_cki az_h0 az_m0 30 (((az_m0).drop 30).take 30) = true := by decide +kernel
theorem az_l60 : az_cki az_h0 az_m0 60 ((((az_m0).drop 30).drop 30).take 30) = true := by decide +kernel
theorem az_l90 : az_cki az_h0 az_m0 90 (((((az_m0).drop 30).drop 30).drop 30).take 30) = true := by decide +kernel
theorem az_l120 : az_cki az_h0 az_m0 120 ((((((az_m0).drop 30).drop 30).drop 30).drop 30).take 30) = true := by decide +kernel
theorem az_l150 : az_cki az_h0 az_m0 150 (((((((az_m0).drop 30).drop 30).drop 30).drop 30).drop 30).take 30) = true := by decide +kernel
theorem az_l180 : az_cki az_h0 az_m0 180 ((((((((az_m0).drop 30).drop 30).drop 30).drop 30).drop 30).drop 30).take 30) = true := by decide +kernel
theorem az_l210 : az_cki az_h0 az_m0 210 (((((((((az_m0).drop 30).drop 30).drop 30).drop 30).drop 30).drop 30).drop 30).take 30) = true := by decide +kernel
theorem az_l240 : az_cki az_h0 az_m0 240 ((((((((((az_m0).drop 30).drop 30).drop 30).drop 30).drop 30).drop 30).drop 30).drop 30).take 30) = true := by decide +kernel
theorem az_l270 : az_cki az_h0 az_m0 270 (((((((((((az_m0).drop 30).drop 30).drop 30).drop 30).drop 30).drop 30).drop 30).drop 30).drop 30).take 30) = true := by decide +kernel
theorem az_l300 : az_cki az_h0 az_m0 300 ((((((((((((az_m0).drop 30).drop 30).drop 30).drop 30).drop 30).drop 30).drop 30).drop 30).drop 30).drop 30).take 30) = true := by decide +kernel
theorem az_l330 : az_cki az_h0 az_m0 330 (((((((((((((az_m0).drop 30).drop 30).drop 30).drop 30).drop 30).drop 30).drop 30).drop 30).drop 30).drop 30).drop 30).take 30) = true := by decide +kernel
theorem az_l360 : az_cki az_h0 az_m0 360 ((((((((((((((az_m0).drop 30).drop 30).drop 30).drop 30).drop 30).drop 30).drop 30).drop 30).drop 30).drop 30).drop 30).drop 30).take 30) = true := by decide +kernel
theorem az_l390 : az_cki az_h0 az_m0 390 ((((((((((((((az_m0).drop 30).drop 30).drop 30).drop 30).drop 30).drop 30).drop 30).drop 30).drop 30).drop 30).drop 30).drop 30).drop 30) = true := by decide +kernel
theorem az_lall : az_cki az_h0 az_m0 0 az_m0 = true := (az_cki_split 30 az_l0 (az_cki_split 30 az_l30 (az_cki_split 30 az_l60 (az_cki_split 30 az_l90 (az_cki_split 30 az_l120 (az_cki_split 30 az_l150 (az_cki_split 30 az_l180 (az_cki_split 30 az_l210 (az_cki_split 30 az_l240 (az_cki_split 30 az_l270 (az_cki_split 30 az_l300 (az_cki_split 30 az_l330 (az_cki_split 30 az_l360 az_l390)))))))))))))
