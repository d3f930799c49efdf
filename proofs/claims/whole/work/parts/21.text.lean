/-! methods' runs, laid by wip/whole/walk.py out of wip/whole/specs7.py -/
/-! the text and its entries -/
def tblk (p : Nat) (ch pg tl : Nat → Int32) (n e : Int32) : Nat → va_E
  | 0 => .inr (4, [.ref (p + 1), .int n, .ref (p + 2), .ref (p + 3), .int e])
  | 1 => .inl (1, 60, .inl ch)
  | 2 => .inl (0, 20, .inl pg)
  | _ => .inl (0, 20, .inl tl)
def tw (w : az_W) (p : Nat) (ch pg tl : Nat → Int32) (n e : Int32) : az_W := fun k => if p ≤ k ∧ k < p + 4 then tblk p ch pg tl n e (k - p) else w k
theorem tw_at {w : az_W} {p : Nat} {ch pg tl : Nat → Int32} {n e : Int32} (k : Nat) (h : k < 4) : tw w p ch pg tl n e (p + k) = tblk p ch pg tl n e k := by
  unfold tw
  rw [if_pos ⟨by omega, by omega⟩, show p + k - p = k by omega]
theorem tw_out {w : az_W} {p k : Nat} {ch pg tl : Nat → Int32} {n e : Int32} (h : k < p ∨ p + 4 ≤ k) : tw w p ch pg tl n e k = w k := by
  unfold tw
  rw [if_neg (by omega)]
theorem tw_in {w : az_W} {p : Nat} {ch pg tl : Nat → Int32} {n e : Int32} (h : ∀ k, k < 4 → w (p + k) = tblk p ch pg tl n e k) : tw w p ch pg tl n e = w := by
  funext k
  unfold tw
  by_cases hk : p ≤ k ∧ k < p + 4
  · rw [if_pos hk, ← h (k - p) (by omega), show p + (k - p) = k by omega]
  · rw [if_neg hk]
theorem tw_up {w : az_W} {p c : Nat} {ch pg tl ch2 pg2 tl2 : Nat → Int32} {n e n2 e2 : Int32} {x : va_E} (hc : c < 4) (he : tblk p ch2 pg2 tl2 n2 e2 c = x) (ho : ∀ k, k < 4 → k ≠ c → tblk p ch2 pg2 tl2 n2 e2 k = tblk p ch pg tl n e k) : va_up (tw w p ch pg tl n e) (p + c) x = tw w p ch2 pg2 tl2 n2 e2 := by
  funext k
  by_cases hk : k = p + c
  · subst hk
    rw [tw_at c hc, he]
    simp [va_up]
  · have e1 : va_up (tw w p ch pg tl n e) (p + c) x k = tw w p ch pg tl n e k := by simp [va_up, hk]
    rw [e1]
    by_cases hr : p ≤ k ∧ k < p + 4
    · obtain ⟨j, rfl⟩ : ∃ j, k = p + j := ⟨k - p, by omega⟩
      rw [tw_at j (by omega), tw_at j (by omega), ho j (by omega) (by omega)]
    · rw [tw_out (by omega), tw_out (by omega)]
section
variable {w : az_W} {p : Nat} {ch pg tl g : Nat → Int32} {n e x : Int32}
theorem tw_0 : tw w p ch pg tl n e p = .inr (4, [.ref (p + 1), .int n, .ref (p + 2), .ref (p + 3), .int e]) := tw_at 0 (by decide)
theorem tw_1 : tw w p ch pg tl n e (p + 1) = .inl (1, 60, .inl ch) := tw_at 1 (by decide)
theorem tw_2 : tw w p ch pg tl n e (p + 2) = .inl (0, 20, .inl pg) := tw_at 2 (by decide)
theorem tw_3 : tw w p ch pg tl n e (p + 3) = .inl (0, 20, .inl tl) := tw_at 3 (by decide)
theorem tu_1 : va_up (tw w p ch pg tl n e) (p + 1) (.inl (1, 60, .inl g)) = tw w p g pg tl n e := tw_up (by decide) rfl (fun k hk hn => by
  match k, hk, hn with
  | 0, _, _ => rfl
  | 1, _, hn => exact absurd rfl hn
  | 2, _, _ => rfl
  | 3, _, _ => rfl)
theorem tu_2 : va_up (tw w p ch pg tl n e) (p + 2) (.inl (0, 20, .inl g)) = tw w p ch g tl n e := tw_up (by decide) rfl (fun k hk hn => by
  match k, hk, hn with
  | 0, _, _ => rfl
  | 1, _, _ => rfl
  | 2, _, hn => exact absurd rfl hn
  | 3, _, _ => rfl)
theorem tu_3 : va_up (tw w p ch pg tl n e) (p + 3) (.inl (0, 20, .inl g)) = tw w p ch pg g n e := tw_up (by decide) rfl (fun k hk hn => by
  match k, hk, hn with
  | 0, _, _ => rfl
  | 1, _, _ => rfl
  | 2, _, _ => rfl
  | 3, _, hn => exact absurd rfl hn)
theorem tn_1 : va_up (tw w p ch pg tl n e) p (.inr (4, List.set [.ref (p + 1), .int n, .ref (p + 2), .ref (p + 3), .int e] 1 (.int x))) = tw w p ch pg tl x e := tw_up (c := 0) (by decide) rfl (fun k hk hn => by
  match k, hk, hn with
  | 0, _, hn => exact absurd rfl hn
  | 1, _, _ => rfl
  | 2, _, _ => rfl
  | 3, _, _ => rfl)
theorem tn_4 : va_up (tw w p ch pg tl n e) p (.inr (4, List.set [.ref (p + 1), .int n, .ref (p + 2), .ref (p + 3), .int e] 4 (.int x))) = tw w p ch pg tl n x := tw_up (c := 0) (by decide) rfl (fun k hk hn => by
  match k, hk, hn with
  | 0, _, hn => exact absurd rfl hn
  | 1, _, _ => rfl
  | 2, _, _ => rfl
  | 3, _, _ => rfl)
end
def dgB (c : Int32) : Bool := if c < 48 then false else if 57 < c then false else true
/-- what is due behind a character -/
def dueB (d c : Int32) : Int32 :=
  if d = 0 then (if c < 48 then 6 else if 55 < c then 6 else 1)
  else if d = 1 then (if ¬ c = 61 then (if ¬ c = 45 then 6 else 5) else 2)
  else if d = 2 then (if ¬ c = 48 then (if dgB c = true then 3 else 6) else 5)
  else if d = 3 then (if dgB c = true then 4 else if ¬ c = 44 then 6 else 0)
  else if d = 4 then (if dgB c = true then 5 else if ¬ c = 44 then 6 else 0)
  else (if ¬ c = 44 then 6 else 0)
theorem dueB_0 {c : Int32} : dueB 0 c = (if c < 48 then 6 else if 55 < c then 6 else 1) := rfl
theorem dueB_1 {c : Int32} : dueB 1 c = (if ¬ c = 61 then (if ¬ c = 45 then 6 else 5) else 2) := rfl
theorem dueB_2 {c : Int32} : dueB 2 c = (if ¬ c = 48 then (if dgB c = true then 3 else 6) else 5) := rfl
theorem dueB_3 {c : Int32} : dueB 3 c = (if dgB c = true then 4 else if ¬ c = 44 then 6 else 0) := rfl
theorem dueB_4 {c : Int32} : dueB 4 c = (if dgB c = true then 5 else if ¬ c = 44 then 6 else 0) := rfl
theorem dueB_x {d c : Int32} (h : d.toInt < 0 ∨ 4 < d.toInt) : dueB d c = (if ¬ c = 44 then 6 else 0) := by
  have k : ∀ z : Int32, (0 ≤ z.toInt ∧ z.toInt ≤ 4) → ¬ d = z := fun z hz q => by subst q; omega
  unfold dueB
  rw [if_neg (k 0 (by decide)), if_neg (k 1 (by decide)), if_neg (k 2 (by decide)), if_neg (k 3 (by decide)), if_neg (k 4 (by decide))]
abbrev tx_S : Type := (Nat → Int32) × (Nat → Int32) × Nat
def stE (t : tx_S) (x : Int32) : tx_S := if t.2.2 < 20 then (upd t.1 t.2.2 x, upd t.2.1 t.2.2 (-5), t.2.2 + 1) else t
def adD (t : tx_S) (x : Int32) : tx_S := if t.2.2 = 0 then t else (t.1, upd t.2.1 (t.2.2 - 1) (if ¬ t.2.1 (t.2.2 - 1) = -5 then t.2.1 (t.2.2 - 1) * 10 + x else x), t.2.2)
def ntC (t : tx_S) (d c : Int32) : tx_S := if d = 0 then stE t (c - 48) else if dgB c = true then adD t (c - 48) else t
/-- the text, read up to j: what is due, the entries -/
def scS (ch : Nat → Int32) (t0 : tx_S) : Nat → Int32 × tx_S
  | 0 => (0, t0)
  | j + 1 => (dueB (scS ch t0 j).1 (ch j), ntC (scS ch t0 j).2 (scS ch t0 j).1 (ch j))
theorem stE_le {t : tx_S} {x : Int32} (h : t.2.2 ≤ 20) : (stE t x).2.2 ≤ 20 := by
  unfold stE
  split
  · show t.2.2 + 1 ≤ 20; omega
  · exact h
theorem adD_le {t : tx_S} {x : Int32} (h : t.2.2 ≤ 20) : (adD t x).2.2 ≤ 20 := by unfold adD; split <;> exact h
theorem ntC_le {t : tx_S} {d c : Int32} (h : t.2.2 ≤ 20) : (ntC t d c).2.2 ≤ 20 := by
  unfold ntC
  split
  · exact stE_le h
  · split
    · exact adD_le h
    · exact h
theorem scS_le {ch : Nat → Int32} {t0 : tx_S} (h : t0.2.2 ≤ 20) : ∀ j, (scS ch t0 j).2.2.2 ≤ 20
  | 0 => h
  | j + 1 => ntC_le (scS_le h j)
def okE (d : Int32) : Bool := if d = 3 then true else if d = 4 then true else if ¬ d = 5 then false else true
/-- the first character that is refused, below n; n -/
def rfAt (ch : Nat → Int32) (t0 : tx_S) (n : Nat) : Nat := match (List.range n).find? (fun j => decide (dueB (scS ch t0 j).1 (ch j) = 6)) with
  | some j => j
  | none => n
def scF (ch : Nat → Int32) (t0 : tx_S) (n : Nat) : Int32 := let j := rfAt ch t0 n; if j < n then nI j else if okE (scS ch t0 n).1 = true then -1 else nI n
theorem rfAt_hit {ch : Nat → Int32} {t0 : tx_S} {n j : Nat} (h : ∀ i, i < j → ¬ dueB (scS ch t0 i).1 (ch i) = 6) (hj : dueB (scS ch t0 j).1 (ch j) = 6) (hn : j < n) : rfAt ch t0 n = j := by
  have : (List.range n).find? (fun j => decide (dueB (scS ch t0 j).1 (ch j) = 6)) = some j := by
    rw [List.find?_range_eq_some]
    exact ⟨decide_eq_true hj, by simpa using hn, fun i hi => by simp [h i hi]⟩
  unfold rfAt
  rw [this]
theorem rfAt_none {ch : Nat → Int32} {t0 : tx_S} {n : Nat} (h : ∀ i, i < n → ¬ dueB (scS ch t0 i).1 (ch i) = 6) : rfAt ch t0 n = n := by
  have : (List.range n).find? (fun j => decide (dueB (scS ch t0 j).1 (ch j) = 6)) = none := by
    rw [List.find?_range_eq_none]
    intro i hi
    simp [h i hi]
  unfold rfAt
  rw [this]

set_option maxRecDepth 20000 in
theorem s_tLength {X : az_X} {w : az_W} {sz sl : Nat} {p : Nat} {ch pg tl : Nat → Int32} {n e : Int32}  : az_M X 36 [.ref p] (tw w p ch pg tl n e) sz sl (some (.int (n)), (tw w p ch pg tl n e), sz, sl) := by
  refine az_Mof hd36 ?_
  show az_Ev X 36 0 [.ref p] [] (tw w p ch pg tl n e) sz sl _
  refine E_al0 k36_0 ?_
  refine E_get k36_1 tw_0 rfl ?_
  exact E_iret k36_2 hd36 rfl rfl
set_option maxRecDepth 20000 in
theorem s_tEntries {X : az_X} {w : az_W} {sz sl : Nat} {p : Nat} {ch pg tl : Nat → Int32} {n e : Int32}  : az_M X 40 [.ref p] (tw w p ch pg tl n e) sz sl (some (.int (e)), (tw w p ch pg tl n e), sz, sl) := by
  refine az_Mof hd40 ?_
  show az_Ev X 40 0 [.ref p] [] (tw w p ch pg tl n e) sz sl _
  refine E_al0 k40_0 ?_
  refine E_get k40_1 tw_0 rfl ?_
  exact E_iret k40_2 hd40 rfl rfl
set_option maxRecDepth 20000 in
theorem s_tFull {X : az_X} {w : az_W} {sz sl : Nat} {p m : Nat} {ch pg tl : Nat → Int32} {e : Int32} (hm : m ≤ 60) : az_M X 37 [.ref p] (tw w p ch pg tl (nI m) e) sz sl (some (.int (zb (decide (m = 60)))), (tw w p ch pg tl (nI m) e), sz, sl) := by
  refine az_Mof hd37 ?_
  show az_Ev X 37 0 [.ref p] [] (tw w p ch pg tl (nI m) e) sz sl _
  refine E_al0 k37_0 ?_
  refine E_get k37_1 tw_0 rfl ?_
  refine E_bipush k37_2 ?_
  refine E_iclt k37_3 (fun c3 => ?_) (fun d3 => ?_)
  · skip
    have hc := (nI_ltI (by omega) (by decide)).mp (show nI m < nI 60 from c3)
    refine E_iconst k37_6 ?_
    exact E_zret k37_7 hd37 rfl (by first | exact Or.inl rfl | exact Or.inr rfl | exact zb01 _ | assumption) (by first | (rw [decide_eq_false (by omega)]; rfl) | (rw [decide_eq_true hc]; rfl))
  · skip
    have hc : m = 60 := by
      rcases Nat.lt_or_ge m 60 with q | q
      · exact absurd ((nI_ltI (by omega) (by decide)).mpr q) d3
      · omega
    refine E_iconst k37_4 ?_
    refine E_goto k37_5 ?_
    exact E_zret k37_7 hd37 rfl (by first | exact Or.inl rfl | exact Or.inr rfl | exact zb01 _ | assumption) (by first | (rw [decide_eq_false (by omega)]; rfl) | (rw [decide_eq_true hc]; rfl))
set_option maxRecDepth 20000 in
theorem s_tAppend {X : az_X} {w : az_W} {sz sl : Nat} {p m : Nat} {ch pg tl : Nat → Int32} {e x : Int32} (hm : m < 60) : az_M X 38 [.ref p, .int x] (tw w p ch pg tl (nI m) e) sz sl (none, (tw w p (upd ch m (az_nr 1 x)) pg tl (nI (m + 1)) e), sz, sl) := by
  refine az_Mof hd38 ?_
  show az_Ev X 38 0 [.ref p, .int x] [] (tw w p ch pg tl (nI m) e) sz sl _
  refine E_al0 k38_0 ?_
  refine E_get k38_1 tw_0 rfl ?_
  refine E_iflt k38_2 (fun c2 => ?_) (fun d2 => ?_)
  · skip
    exact absurd c2 (nI_pos (by omega))
  · skip
    refine E_al0 k38_3 ?_
    refine E_get k38_4 tw_0 rfl ?_
    refine E_bipush k38_5 ?_
    refine E_icge k38_6 (fun c6 => ?_) (fun d6 => ?_)
    · skip
      exact absurd ((nI_leI (by decide) (by omega)).mp (show nI 60 ≤ nI m from c6)) (by omega)
    · skip
      refine E_al0 k38_7 ?_
      refine E_get k38_8 tw_0 rfl ?_
      refine E_al0 k38_9 ?_
      refine E_get k38_10 tw_0 rfl ?_
      refine E_il1 k38_11 ?_
      refine E_ast k38_12 rfl tw_1 hm (by decide) ?_
      rw [tu_1]
      refine E_al0 k38_13 ?_
      refine E_dupR k38_14 ?_
      refine E_get k38_15 tw_0 rfl ?_
      refine E_iconst k38_16 ?_
      refine E_iadd k38_17 ?_
      refine E_put k38_18 tw_0 (Nat.le_of_ble_eq_true rfl) (az_fiti rfl) ?_
      rw [tn_1, nI_1]
      exact E_vret k38_19 hd38 rfl rfl
set_option maxRecDepth 20000 in
theorem s_tEmpty {X : az_X} {w : az_W} {sz sl : Nat} {p : Nat} {ch pg tl : Nat → Int32} {n e : Int32}  : az_M X 39 [.ref p] (tw w p ch pg tl n e) sz sl (none, (tw w p ch pg tl 0 e), sz, sl) := by
  refine az_Mof hd39 ?_
  show az_Ev X 39 0 [.ref p] [] (tw w p ch pg tl n e) sz sl _
  refine E_al0 k39_0 ?_
  refine E_iconst k39_1 ?_
  refine E_put k39_2 tw_0 (Nat.le_of_ble_eq_true rfl) (az_fiti rfl) ?_
  rw [tn_1]
  exact E_vret k39_3 hd39 rfl rfl
set_option maxRecDepth 20000 in
theorem s_pageOfEntry {X : az_X} {w : az_W} {sz sl : Nat} {p j : Nat} {ch pg tl : Nat → Int32} {n e : Int32} (hj : j < 20) : az_M X 41 [.ref p, .int (nI j)] (tw w p ch pg tl n e) sz sl (some (.int (pg j)), (tw w p ch pg tl n e), sz, sl) := by
  refine az_Mof hd41 ?_
  show az_Ev X 41 0 [.ref p, .int (nI j)] [] (tw w p ch pg tl n e) sz sl _
  refine E_il1 k41_0 ?_
  refine E_iflt k41_1 (fun c1 => ?_) (fun d1 => ?_)
  · skip
    exact absurd c1 (nI_pos (by omega))
  · skip
    refine E_il1 k41_2 ?_
    refine E_bipush k41_3 ?_
    refine E_icge k41_4 (fun c4 => ?_) (fun d4 => ?_)
    · skip
      exact absurd ((nI_leI (by decide) (by omega)).mp (show nI 20 ≤ nI j from c4)) (by omega)
    · skip
      refine E_al0 k41_5 ?_
      refine E_get k41_6 tw_0 rfl ?_
      refine E_il1 k41_7 ?_
      refine E_ald k41_8 rfl tw_2 hj (by decide) ?_
      refine E_goto k41_9 ?_
      exact E_iret k41_11 hd41 rfl rfl
set_option maxRecDepth 20000 in
theorem s_toldByEntry {X : az_X} {w : az_W} {sz sl : Nat} {p j : Nat} {ch pg tl : Nat → Int32} {n e : Int32} (hj : j < 20) : az_M X 42 [.ref p, .int (nI j)] (tw w p ch pg tl n e) sz sl (some (.int (tl j)), (tw w p ch pg tl n e), sz, sl) := by
  refine az_Mof hd42 ?_
  show az_Ev X 42 0 [.ref p, .int (nI j)] [] (tw w p ch pg tl n e) sz sl _
  refine E_il1 k42_0 ?_
  refine E_iflt k42_1 (fun c1 => ?_) (fun d1 => ?_)
  · skip
    exact absurd c1 (nI_pos (by omega))
  · skip
    refine E_il1 k42_2 ?_
    refine E_bipush k42_3 ?_
    refine E_icge k42_4 (fun c4 => ?_) (fun d4 => ?_)
    · skip
      exact absurd ((nI_leI (by decide) (by omega)).mp (show nI 20 ≤ nI j from c4)) (by omega)
    · skip
      refine E_al0 k42_5 ?_
      refine E_get k42_6 tw_0 rfl ?_
      refine E_il1 k42_7 ?_
      refine E_ald k42_8 rfl tw_3 hj (by decide) ?_
      refine E_goto k42_9 ?_
      exact E_iret k42_11 hd42 rfl rfl
set_option maxRecDepth 20000 in
theorem s_startEntry {X : az_X} {w : az_W} {sz sl : Nat} {p : Nat} {ch : Nat → Int32} {t : tx_S} {n x : Int32} (ht : t.2.2 ≤ 20) : az_M X 46 [.ref p, .int x] (tw w p ch t.1 t.2.1 n (nI t.2.2)) sz sl (none, (tw w p ch (stE t x).1 (stE t x).2.1 n (nI (stE t x).2.2)), sz, sl) := by
  refine az_Mof hd46 ?_
  show az_Ev X 46 0 [.ref p, .int x] [] (tw w p ch t.1 t.2.1 n (nI t.2.2)) sz sl _
  refine E_al0 k46_0 ?_
  refine E_get k46_1 tw_0 rfl ?_
  refine E_iflt k46_2 (fun c2 => ?_) (fun d2 => ?_)
  · skip
    exact absurd c2 (nI_pos (by omega))
  · skip
    refine E_al0 k46_3 ?_
    refine E_get k46_4 tw_0 rfl ?_
    refine E_bipush k46_5 ?_
    refine E_icge k46_6 (fun c6 => ?_) (fun d6 => ?_)
    · skip
      have hge : ¬ t.2.2 < 20 := fun q => absurd ((nI_leI (by decide) (by omega)).mp (show nI 20 ≤ nI t.2.2 from c6)) (by omega)
      exact E_vret k46_25 hd46 rfl (by first | (rw [stE, if_pos hlt]; done) | rw [stE, if_neg hge])
    · skip
      have hlt : t.2.2 < 20 := lp_f (by omega) (by decide) (show (20 : Int32) = nI 20 from rfl) d6
      refine E_al0 k46_7 ?_
      refine E_get k46_8 tw_0 rfl ?_
      refine E_al0 k46_9 ?_
      refine E_get k46_10 tw_0 rfl ?_
      refine E_il1 k46_11 ?_
      refine E_iast k46_12 tw_2 hlt (by decide) ?_
      rw [tu_2]
      refine E_al0 k46_13 ?_
      refine E_get k46_14 tw_0 rfl ?_
      refine E_al0 k46_15 ?_
      refine E_get k46_16 tw_0 rfl ?_
      refine E_bipush k46_17 ?_
      refine E_iast k46_18 tw_3 hlt (by decide) ?_
      rw [tu_3]
      refine E_al0 k46_19 ?_
      refine E_dupR k46_20 ?_
      refine E_get k46_21 tw_0 rfl ?_
      refine E_iconst k46_22 ?_
      refine E_iadd k46_23 ?_
      refine E_put k46_24 tw_0 (Nat.le_of_ble_eq_true rfl) (az_fiti rfl) ?_
      rw [tn_4, nI_1]
      exact E_vret k46_25 hd46 rfl (by first | (rw [stE, if_pos hlt]; done) | rw [stE, if_neg hge])
