/-! both objects in one world -/
theorem GW_congr {w w' : az_W} {N P : az_S} {kp : Int32} {o n : Nat} {Hs : Nat → az_S} {ch pg tl : Nat → Int32} {m : Nat} {e : Int32} (h : GW w N P kp o n Hs ch pg tl m e) (hw : ∀ k, k < 151 → w' k = w k) : GW w' N P kp o n Hs ch pg tl m e := by
  obtain ⟨h1, h2, h3, h4, h5, h6, h7, h8⟩ := h
  exact ⟨(hw _ (by decide)).trans h1, fun k hk => (hw _ (by omega)).trans (h2 k hk), fun k hk => (hw _ (by omega)).trans (h3 k hk), (hw _ (by decide)).trans h4, (hw _ (by decide)).trans h5, fun i hi k hk => (hw _ (by omega)).trans (h6 i hi k hk), fun k hk => (hw _ (by omega)).trans (h7 k hk), h8⟩
theorem mw_lo {w : az_W} {T : az_S} {k : Nat} (h : k < 151) : mw w T k = w k := bk_out (Or.inl h)
theorem GW_mw {w : az_W} {T : az_S} {N P : az_S} {kp : Int32} {o n : Nat} {Hs : Nat → az_S} {ch pg tl : Nat → Int32} {m : Nat} {e : Int32} (h : GW w N P kp o n Hs ch pg tl m e) : GW (mw w T) N P kp o n Hs ch pg tl m e := GW_congr h (fun k hk => mw_lo hk)
/-- the world holds the reference's picture -/
def MWp (w : az_W) (T : az_S) : Prop := ∀ k, k < 6 → w (151 + k) = mb T k
theorem mw_in {w : az_W} {T : az_S} (h : MWp w T) : mw w T = w := bk_ext (fun _ _ => rfl) h
theorem MW_mw {w : az_W} {T : az_S} : MWp (mw w T) T := fun k hk => bk_at k hk
theorem MW_congr {w w' : az_W} {T : az_S} (h : MWp w T) (hw : ∀ k, 151 ≤ k → w' k = w k) : MWp w' T := fun k hk => (hw _ (by omega)).trans (h k hk)
theorem aw_hi {w : az_W} {o n k : Nat} {N : az_S} {Hs : Nat → az_S} {r : Option az_S} (h : 151 ≤ k) : aw w o n N Hs r k = w k := by
  have hx : (o + n) % 4 < 4 := Nat.mod_lt _ (by decide)
  cases r with
  | none => rfl
  | some N' =>
    show bw (recW w o n N (Hs ((o + n) % 4))) 1 N' k = w k
    rw [bw_out (by omega)]
    unfold recW
    rw [up_x (by omega), bw_out (by omega)]
theorem MW_aw {w : az_W} {T : az_S} {o n : Nat} {N : az_S} {Hs : Nat → az_S} {r : Option az_S} (h : MWp w T) : MWp (aw w o n N Hs r) T := MW_congr h (fun _ hk => aw_hi hk)
theorem MW_tw {w : az_W} {T : az_S} {ch pg tl : Nat → Int32} {n e : Int32} (h : MWp w T) : MWp (tw w 147 ch pg tl n e) T := MW_congr h (fun _ hk => tw_out (by omega))
theorem MW_bw {w : az_W} {T N : az_S} {a : Nat} (h : MWp w T) (ha : a + 24 ≤ 151) : MWp (bw w a N) T := MW_congr h (fun _ hk => bw_out (by omega))
theorem MW_up {w : az_W} {T : az_S} {a : Nat} {e : va_E} (h : MWp w T) (ha : a < 151) : MWp (va_up w a e) T := MW_congr h (fun _ hk => up_x (by omega))
