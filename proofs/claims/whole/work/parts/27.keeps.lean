/-! the picture of the whole object is kept -/
/-- two states that the program cannot tell apart -/
def dl (c : Nat) : Nat := if c < 3 then 24 else if c = 7 then 4 else if c = 12 then 17 else 8
def SE (S T : az_S) : Prop := ∀ c, c < 13 → ∀ i, i < dl c → S c i = T c i
theorem dCp_12 (T S : az_S) (i : Nat) (h : i < 17) : dCp T S 12 i = T 12 i := by
  unfold dCp
  simp only [sN_12]
  by_cases h8 : i = 8
  · rw [if_pos h8, h8]
  by_cases h7 : i = 7
  · rw [if_neg h8, if_pos h7, h7]
  by_cases h6 : i = 6
  · rw [if_neg h8, if_neg h7, if_pos h6, h6]
  rw [if_neg h8, if_neg h7, if_neg h6]
  have hu : ∀ (c : Nat) (S : az_S) (g : Nat → Int32), c ≠ 12 → va_up S c g 12 = S 12 := fun c S g hc => sU_ne (Ne.symm hc)
  have hg : ∀ r, r < 4 → ∀ S : az_S, gC T r S 12 i = if i = 10 + 2 * r then T 12 (10 + 2 * r) else if i = 9 + 2 * r then T 12 (9 + 2 * r) else S 12 i := fun r hr S => by
    unfold gC
    rw [hu _ _ _ (by omega)]
    simp only [sN_12]
  simp only [dC6]
  rw [hg 3 (by decide), hu _ _ _ (by decide), hg 2 (by decide), hu _ _ _ (by decide), hg 1 (by decide), hu _ _ _ (by decide), hg 0 (by decide), hu _ _ _ (by decide)]
  simp only [dC5, dC4, dC3, dC2, dC1, hu _ _ _ (show (3 : Nat) ≠ 12 by decide), hu _ _ _ (show (4 : Nat) ≠ 12 by decide), hu _ _ _ (show (5 : Nat) ≠ 12 by decide), hu _ _ _ (show (6 : Nat) ≠ 12 by decide), sN_12]
  have hc : i = 0 ∨ i = 1 ∨ i = 2 ∨ i = 3 ∨ i = 4 ∨ i = 5 ∨ i = 9 ∨ i = 10 ∨ i = 11 ∨ i = 12 ∨ i = 13 ∨ i = 14 ∨ i = 15 ∨ i = 16 := by omega
  rcases hc with q | q | q | q | q | q | q | q | q | q | q | q | q | q <;> subst q <;> simp [sN_12]
theorem dCp_c (T S : az_S) : ∀ c, c < 12 → ∀ i, i < dl c → dCp T S c i = T c i := by
  intro c hc i hi
  have hn : c ≠ 12 := by omega
  unfold dCp
  rw [sN_ne hn, sN_ne hn, sN_ne hn]
  have hs : ∀ (S : az_S) k x, sN S k x c = S c := fun S k x => sN_ne hn
  have hv : ∀ (S : az_S) d g, va_up S d g c = if c = d then g else S c := fun S d g => by simp [va_up]
  have hcs : c = 0 ∨ c = 1 ∨ c = 2 ∨ c = 3 ∨ c = 4 ∨ c = 5 ∨ c = 6 ∨ c = 7 ∨ c = 8 ∨ c = 9 ∨ c = 10 ∨ c = 11 := by omega
  rcases hcs with q | q | q | q | q | q | q | q | q | q | q | q <;> subst q <;>
    simp [dC6, gC, dC5, dC4, dC3, dC2, dC1, hs, va_up, sN, upd, cpf, dl] at hi ⊢ <;> first | (intro z; omega) | skip
  have q : i = 0 ∨ i = 1 ∨ i = 2 ∨ i = 3 := by omega
  rcases q with q | q | q | q <;> subst q <;> rfl
theorem dCp_SE (T S : az_S) : SE (dCp T S) T := fun c hc i hi => by
  by_cases h : c = 12
  · subst h
    exact dCp_12 T S i hi
  · exact dCp_c T S c (by omega) i hi
theorem SE_OK {S T : az_S} (h : SE S T) (g : OKS T) : OKS S := by
  obtain ⟨⟨a1, a2, a3, a4, a5⟩, a6⟩ := g
  have h12 : ∀ i, i < 17 → S 12 i = T 12 i := h 12 (by decide)
  exact ⟨⟨fun i hi => by rw [h 7 (by decide) i hi]; exact a1 i hi, by rw [h12 _ (by decide)]; exact a2, by rw [h12 _ (by decide)]; exact a3, by rw [h12 _ (by decide)]; exact a4, fun r hr => by rw [h12 _ (by omega)]; exact a5 r hr⟩, by rw [h12 _ (by decide)]; exact a6⟩
theorem dCp_OK {T S : az_S} (h : OKS T) : OKS (dCp T S) := SE_OK (dCp_SE T S) h
theorem dTear_OK2 {S : az_S} {b : Bool} (h : OKS S) : OKS (if b = true then dTear S else S) := by
  split
  · exact dTear_OK h
  · exact h
theorem dLose_OK {S : az_S} (h : OKS S) : OKS (dLose S) := by
  have h1 : OKS (dEnd (dDesk S)) := dEnd_OK (dDesk_OK h)
  have h2 : OKS (va_up (dEnd (dDesk S)) 7 (flf (S 7) 0 4)) := by
    obtain ⟨⟨a1, a2, a3, a4, a5⟩, a6⟩ := h1
    have e12 : va_up (dEnd (dDesk S)) 7 (flf (S 7) 0 4) 12 = dEnd (dDesk S) 12 := sU_ne (by decide)
    refine ⟨⟨fun i hi => Or.inl ?_, by rw [e12]; exact a2, by rw [e12]; exact a3, by rw [e12]; exact a4, fun r hr2 => by rw [e12]; exact a5 r hr2⟩, by rw [e12]; exact a6⟩
    rw [sU_eq]
    simp [flf, hi]
  exact sN_OK h2 (by decide) (by decide) (by decide) (by decide) (fun r hr => by omega)
theorem sP_OK {S : az_S} {j : Nat} {x : Int32} (h : OKS S) (hx : x = 0 ∨ x = 1) : OKS (va_up S 7 (upd (S 7) j x)) := by
  obtain ⟨⟨a1, a2, a3, a4, a5⟩, a6⟩ := h
  have e12 : va_up S 7 (upd (S 7) j x) 12 = S 12 := sU_ne (by decide)
  refine ⟨⟨fun i hi => ?_, by rw [e12]; exact a2, by rw [e12]; exact a3, by rw [e12]; exact a4, fun r hr2 => by rw [e12]; exact a5 r hr2⟩, by rw [e12]; exact a6⟩
  rw [sU_eq]
  unfold upd
  split
  · exact hx
  · exact a1 i hi
theorem dAdm_OK {S : az_S} {j : Nat} (h : OKS S) (hj : j < 4) : OKS (dAdm S j) := by
  have h1 : OKS (va_up S 7 (upd (S 7) j 1)) := sP_OK h (Or.inr rfl)
  have h2 : OKS (sN (va_up S 7 (upd (S 7) j 1)) (9 + 2 * j) (tN (va_up S 7 (upd (S 7) j 1)) (S 12 6))) := sN_OK h1 (by omega) (by omega) (by omega) (by omega) (fun r hr => by omega)
  exact sU_OK (c := 8 + j) (sB_OK h2 (SV_tT h1.1 _)) (by omega) (by omega)
theorem tlS_OK {pg tl : Nat → Int32} {N : az_S} (h : OKS N) : ∀ i, OKS (tlS pg tl N i)
  | 0 => h
  | i + 1 => sU_OK (tlS_OK h i) (by decide) (by decide)
theorem fnS_OK : ∀ (k : Nat) {S : az_S}, OKS S → OKS (fnS k S)
  | 0, _, h => h
  | k + 1, S, h => by
    unfold fnS
    split
    · exact fnS_OK k (dGo_OK h)
    · exact h
/-- an answer's state is a state -/
def OKO (r : Option az_S) : Prop := ∀ S, r = some S → OKS S
theorem OKO_n : OKO none := fun _ h => by cases h
theorem OKO_s {S : az_S} (h : OKS S) : OKO (some S) := fun _ e => by cases e; exact h
theorem fTell_OK {N : az_S} {p v : Int32} (h : OKS N) : OKO (fTell N p v).2 := by
  unfold fTell
  split
  · exact OKO_n
  · split
    · exact OKO_n
    · exact OKO_s (sU_OK h (by decide) (by decide))
theorem fWrite_OK {N : az_S} {p v : Int32} (h : OKS N) : OKO (fWrite N p v).2 := by
  unfold fWrite
  split
  · exact OKO_n
  · split
    · exact OKO_n
    · split
      · exact OKO_n
      · exact fTell_OK h
theorem fDrop_OK {N : az_S} {p : Int32} (h : OKS N) : OKO (fDrop N p).2 := by
  unfold fDrop
  split
  · exact OKO_n
  · exact fTell_OK h
theorem fClear_OK {N : az_S} (h : OKS N) : OKO (fClear N).2 := by
  unfold fClear
  split
  · exact OKO_n
  · split
    · exact OKO_n
    · exact OKO_s (dDesk_OK h)
theorem fBegin_OK {N : az_S} (h : OKS N) : OKO (fBegin N).2 := by
  unfold fBegin
  split
  · exact OKO_n
  · split
    · exact OKO_n
    · exact OKO_s (sB_OK h (Or.inr rfl))
theorem fStep_OK {N : az_S} (h : OKS N) : OKO (fStep N).2 := by
  unfold fStep
  split
  · exact OKO_n
  · split
    · exact OKO_n
    · exact OKO_s (dGo_OK h)
theorem fFin_OK {N : az_S} (h : OKS N) : OKO (fFin N).2 := by
  unfold fFin
  split
  · exact OKO_n
  · split
    · exact OKO_n
    · exact OKO_s (fnS_OK _ h)
theorem fGive_OK {N : az_S} (h : OKS N) : OKO (fGive N).2 := by
  unfold fGive
  split
  · exact OKO_n
  · exact OKO_s (dEnd_OK h)
theorem fCrash_OK {N : az_S} {b : Bool} (h : OKS N) : OKO (fCrash N b).2 := OKO_s (dLose_OK (dTear_OK2 h))
theorem fOpen_OK {N : az_S} (h : OKS N) : OKO (fOpen N).2 := by
  unfold fOpen
  split
  · exact OKO_n
  · rename_i hne
    obtain ⟨j, hj, e, -⟩ := fi_some hne
    rw [e, nI_clamp (by omega)]
    exact OKO_s (dAdm_OK h hj)
theorem fClose_OK {N : az_S} {r : Int32} (h : OKS N) : OKO (fClose N r).2 := by
  unfold fClose
  split
  · exact OKO_n
  · exact OKO_s (sP_OK h (Or.inl rfl))
theorem fRest_OK {N P : az_S} {kp : Int32} (h : OKS P) : OKO (fRest N P kp).2 := by
  unfold fRest
  split
  · exact OKO_n
  · exact OKO_s (dCp_OK h)
theorem fWA_OK {ch pg tl : Nat → Int32} {m : Nat} {N : az_S} (h : OKS N) : OKO (fWA ch pg tl m N).2 := by
  unfold fWA
  split
  · exact OKO_n
  · split
    · exact OKO_n
    · exact OKO_s (tlS_OK h _)
/-- the worlds after -/
def rO (o n : Nat) : Nat := if n < 4 then o else (o + 1) % 4
def rN (n : Nat) : Nat := if n < 4 then n + 1 else n
def rH (o n : Nat) (N : az_S) (Hs : Nat → az_S) : Nat → az_S := fun i => if i = (o + n) % 4 then dCp N (Hs i) else Hs i
section
variable {w : az_W} {N P : az_S} {kp : Int32} {o n : Nat} {Hs : Nat → az_S} {ch pg tl : Nat → Int32} {m : Nat} {e : Int32}
theorem rO_lt (ho : o < 4) : rO o n < 4 := by
  unfold rO
  split <;> omega
theorem rN_le (hn : n ≤ 4) : rN n ≤ 4 := by
  unfold rN
  split <;> omega
theorem GW_rec {N' : az_S} (h : GW w N P kp o n Hs ch pg tl m e) (hN : OKS N') : GW (bw (recW w o n N (Hs ((o + n) % 4))) 1 N') N' P kp (rO o n) (rN n) (rH o n N Hs) ch pg tl m e := by
  have hr0 := @rec_out w N P kp o n Hs ch pg tl m e h (Hs ((o + n) % 4))
  have hx : (o + n) % 4 < 4 := Nat.mod_lt _ (by decide)
  have hg := h
  obtain ⟨h1, h2, h3, h4, h5, h6, h7, h8, h9, h10, h11, h12, h13, h14⟩ := hg
  refine ⟨(bw_out (Or.inl (by decide))).trans ((hr0 (Or.inl (by decide))).trans h1), fun k hk => bw_at k hk, fun k hk => (bw_out (by omega)).trans ((hr0 (Or.inl (by omega))).trans (h3 k hk)), ?_, ?_, ?_, fun k hk => (bw_out (by omega)).trans ((hr0 (Or.inr (by omega))).trans (h7 k hk)), rO_lt h8, rN_le h9, h10, h11, hN, h13, ?_⟩
  · rw [bw_out (by omega)]
    exact up_eq
  · rw [bw_out (by omega)]
    unfold recW
    rw [up_ne (show bw w (51 + 24 * ((o + n) % 4)) (dCp N (Hs ((o + n) % 4))) 50 = w 50 from bw_out (by omega)) (by decide)]
    exact h5
  · intro i hi k hk
    rw [bw_out (by omega)]
    unfold recW
    rw [up_ne rfl (by omega)]
    unfold rH
    by_cases q : i = (o + n) % 4
    · subst q
      rw [if_pos rfl, bw_at k hk]
    · rw [if_neg q, bw_out (by omega)]
      exact h6 i hi k hk
  · intro i hi
    unfold rH
    split
    · exact dCp_OK h12
    · exact h14 i hi
/-- the world of an act's answer -/
theorem GW_aw {r : Option az_S} (h : GW w N P kp o n Hs ch pg tl m e) (hr : OKO r) : match r with
    | none => GW (aw w o n N Hs r) N P kp o n Hs ch pg tl m e
    | some N' => GW (aw w o n N Hs r) N' P kp (rO o n) (rN n) (rH o n N Hs) ch pg tl m e := by
  cases r with
  | none => exact h
  | some N' => exact GW_rec h (hr N' rfl)
theorem GW_undo {k : Nat} (h : GW w N P kp o (k + 1) Hs ch pg tl m e) : GW (bw (va_up w 49 (.inr (3, [.ref 50, .int (nI o), .int (nI k)]))) 1 (dCp (Hs ((o + k) % 4)) N)) (dCp (Hs ((o + k) % 4)) N) P kp o k Hs ch pg tl m e := by
  obtain ⟨h1, h2, h3, h4, h5, h6, h7, h8, h9, h10, h11, h12, h13, h14⟩ := h
  have hu : ∀ k', k' ≠ 49 → va_up w 49 (.inr (3, [.ref 50, .int (nI o), .int (nI k)])) k' = w k' := fun k' hk => up_ne rfl hk
  refine ⟨(bw_out (Or.inl (by decide))).trans ((hu _ (by decide)).trans h1), fun k hk => bw_at k hk, fun k hk => (bw_out (by omega)).trans ((hu _ (by omega)).trans (h3 k hk)), ?_, (bw_out (by omega)).trans ((hu _ (by decide)).trans h5), fun i hi k hk => (bw_out (by omega)).trans ((hu _ (by omega)).trans (h6 i hi k hk)), fun k hk => (bw_out (by omega)).trans ((hu _ (by omega)).trans (h7 k hk)), h8, by omega, h10, h11, dCp_OK (h14 _ (Nat.mod_lt _ (by decide))), h13, h14⟩
  rw [bw_out (by omega)]
  exact up_eq
theorem GW_keep (h : GW w N P kp o n Hs ch pg tl m e) : GW (va_up (bw w 25 (dCp N P)) 0 (.inr (8, List.set [.ref 1, .ref 25, .ref 49, .ref 147, .int kp] 4 (.int 1)))) N (dCp N P) 1 o n Hs ch pg tl m e := by
  obtain ⟨h1, h2, h3, h4, h5, h6, h7, h8, h9, h10, h11, h12, h13, h14⟩ := h
  have hu : ∀ k', k' ≠ 0 → va_up (bw w 25 (dCp N P)) 0 (.inr (8, List.set [.ref 1, .ref 25, .ref 49, .ref 147, .int kp] 4 (.int 1))) k' = bw w 25 (dCp N P) k' := fun k' hk => up_ne rfl hk
  exact ⟨up_eq, fun k hk => (hu _ (by omega)).trans ((bw_out (by omega)).trans (h2 k hk)), fun k hk => (hu _ (by omega)).trans (bw_at k hk), (hu _ (by decide)).trans ((bw_out (by omega)).trans h4), (hu _ (by decide)).trans ((bw_out (by omega)).trans h5), fun i hi k hk => (hu _ (by omega)).trans ((bw_out (by omega)).trans (h6 i hi k hk)), fun k hk => (hu _ (by omega)).trans ((bw_out (by omega)).trans (h7 k hk)), h8, h9, h10, Or.inr rfl, h12, dCp_OK h12, h14⟩
end
/-- the states behind, the latest first -/
def ag (o n : Nat) (Hs : Nat → az_S) (j : Nat) : az_S := Hs ((o + (n - 1 - j)) % 4)
theorem ag_rec0 {o n : Nat} {N : az_S} {Hs : Nat → az_S} (ho : o < 4) (hn : n ≤ 4) : ag (rO o n) (rN n) (rH o n N Hs) 0 = dCp N (Hs ((o + n) % 4)) := by
  have q : (rO o n + (rN n - 1 - 0)) % 4 = (o + n) % 4 := by
    unfold rO rN
    split <;> omega
  unfold ag rH
  rw [q, if_pos rfl]
theorem ag_recS {o n j : Nat} {N : az_S} {Hs : Nat → az_S} (ho : o < 4) (hn : n ≤ 4) (hj : j + 1 < rN n) : ag (rO o n) (rN n) (rH o n N Hs) (j + 1) = ag o n Hs j := by
  unfold rN at hj
  have q : (rO o n + (rN n - 1 - (j + 1))) % 4 = (o + (n - 1 - j)) % 4 ∧ (o + (n - 1 - j)) % 4 ≠ (o + n) % 4 := by
    unfold rO rN
    split at hj
    · rename_i h
      rw [if_pos h, if_pos h]
      constructor <;> omega
    · rename_i h
      rw [if_neg h, if_neg h]
      constructor <;> omega
  unfold ag rH
  rw [q.1, if_neg q.2]
theorem ag_undo {o k j : Nat} {Hs : Nat → az_S} (hj : j < k) : ag o (k + 1) Hs (j + 1) = ag o k Hs j := by
  unfold ag
  rw [show k + 1 - 1 - (j + 1) = k - 1 - j by omega]
theorem ag_undo0 {o k : Nat} {Hs : Nat → az_S} : Hs ((o + k) % 4) = ag o (k + 1) Hs 0 := rfl
