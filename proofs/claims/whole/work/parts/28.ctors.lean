/-! methods' runs, laid by wip/whole/walk.py out of wip/whole/specs13.py -/
/-! the constructors -/
def bk (w : az_W) (a n : Nat) (g : Nat → va_E) : az_W := fun k => if a ≤ k ∧ k < a + n then g (k - a) else w k
theorem bk_at {w : az_W} {a n : Nat} {g : Nat → va_E} (i : Nat) (h : i < n) : bk w a n g (a + i) = g i := by
  unfold bk
  rw [if_pos ⟨by omega, by omega⟩, show a + i - a = i by omega]
theorem bk_0 {w : az_W} {a n : Nat} {g : Nat → va_E} (h : 0 < n) : bk w a n g a = g 0 := bk_at 0 h
theorem bk_out {w : az_W} {a n k : Nat} {g : Nat → va_E} (h : k < a ∨ a + n ≤ k) : bk w a n g k = w k := by
  unfold bk
  rw [if_neg (by omega)]
theorem up_x {w : az_W} {a k : Nat} {e : va_E} (h : k ≠ a) : va_up w a e k = w k := up_ne rfl h
theorem bk_ext {w v : az_W} {a n : Nat} {g : Nat → va_E} (h1 : ∀ k, k < a ∨ a + n ≤ k → v k = w k) (h2 : ∀ i, i < n → v (a + i) = g i) : bk w a n g = v := by
  funext k
  by_cases h : k < a ∨ a + n ≤ k
  · rw [bk_out h, h1 k h]
  · have := h2 (k - a) (by omega)
    rw [show k = a + (k - a) by omega, bk_at _ (by omega), this]
theorem res_w {w v : az_W} {r : Option Value} {sz sl : Nat} (h : w = v) : (r, w, sz, sl) = (r, v, sz, sl) := by rw [h]
def z0 : Nat → Int32 := fun _ => 0
def zf : Nat → Int32 := flf (fun _ => 0) (-5) 8
def g0 (a : Nat) : Nat → va_E
  | 0 => .inr (0, [.ref (a + 1), .ref (a + 2), .ref (a + 3)])
  | 1 => .inl (0, 24, .inl (fun _ => 0))
  | 2 => .inl (0, 24, .inl (flf (fun _ => 0) (sealOf 0) 24))
  | _ => .inl (0, 24, .inl (fun _ => 0))
def g1 (a : Nat) : Nat → va_E
  | 0 => .inr (1, [.ref (a + 1)])
  | _ => .inl (0, 8, .inl (flf (fun _ => 0) (-1) 8))
def g2 (a : Nat) (x : Int32) : Nat → va_E
  | 0 => .inr (2, [.int x, .int 0, .ref (a + 1)])
  | _ => .inl (0, 8, .inl zf)
def g7 (a : Nat) : Nat → va_E
  | 0 => .inr (7, [.int 0, .int 0, .ref (a + 1)])
  | _ => .inl (0, 8, .inl zf)
def g5 (a j : Nat) : Nat → va_E
  | 0 => .inr (5, [.ref (a + 1), .ref (a + 2)])
  | 1 => .inl (2, 4, .inl (fun _ => 0))
  | 2 => .inl (3, 4, .inr (.inr (.inr (.inr (fun i => if i < j then some (a + 3 + 2 * i) else none)))))
  | k + 3 => if k % 2 = 0 then .inr (2, [.int 0, .int 0, .ref (a + 4 + k)]) else .inl (0, 8, .inl zf)
theorem g5_3 {a j k : Nat} : g5 a j (k + 3) = if k % 2 = 0 then .inr (2, [.int 0, .int 0, .ref (a + 4 + k)]) else .inl (0, 8, .inl zf) := rfl
theorem g5_step {w : az_W} {a j : Nat} {E : va_E} (hj : j < 4) : bk w a (3 + 2 * (j + 1)) (g5 a (j + 1)) = va_up (bk (va_up (bk w a (3 + 2 * j) (g5 a j)) (a + 3 + 2 * j) E) (a + 3 + 2 * j) 2 (g2 (a + 3 + 2 * j) 0)) (a + 2) (.inl (3, 4, .inr (.inr (.inr (.inr (va_up (fun i => if i < j then some (a + 3 + 2 * i) else none) j (some (a + 3 + 2 * j)))))))) := by
  refine bk_ext (fun k hk => ?_) (fun i hi => ?_)
  · rw [up_x (by omega), bk_out (by omega), up_x (by omega), bk_out (by omega)]
  · by_cases h2 : i = 2
    · subst h2
      rw [up_eq]
      refine congrArg (fun f : Nat → Option Nat => (Sum.inl (3, 4, Sum.inr (Sum.inr (Sum.inr (Sum.inr f)))) : va_E)) ?_
      funext i
      by_cases q : i = j
      · subst q
        simp [va_up]
      · have : i < j ↔ i < j + 1 := by omega
        simp [va_up, q, this]
    · rw [up_x (by omega)]
      by_cases h3 : i = 3 + 2 * j
      · subst h3
        rw [show a + (3 + 2 * j) = a + 3 + 2 * j by omega, bk_0 (by decide), show 3 + 2 * j = 2 * j + 3 by omega]
        rw [g5_3, if_pos (by omega)]
        show (Sum.inr (2, [.int 0, .int 0, .ref (a + 3 + 2 * j + 1)]) : va_E) = _
        rw [show a + 3 + 2 * j + 1 = a + 4 + 2 * j by omega]
      · by_cases h4 : i = 4 + 2 * j
        · subst h4
          rw [show a + (4 + 2 * j) = (a + 3 + 2 * j) + 1 by omega, bk_at 1 (by decide), show 4 + 2 * j = (2 * j + 1) + 3 by omega]
          rw [g5_3, if_neg (by omega)]
          rfl
        · rw [bk_out (by omega), up_x (by omega), bk_at i (by omega)]
          match i, h2 with
          | 0, _ => rfl
          | 1, _ => rfl
          | k + 3, _ => rfl
theorem bk_in {w : az_W} {b n k : Nat} {g : Nat → va_E} {x : va_E} (c : Nat) (h : k = b + c) (hc : c < n) (hg : g c = x) : bk w b n g k = x := by
  subst h
  rw [bk_at c hc, hg]
def S0 : az_S := fun c => match c with
  | 1 => flf (fun _ => 0) (sealOf 0) 24
  | 3 => zf
  | 4 => zf
  | 5 => flf (fun _ => 0) (-1) 8
  | 6 => zf
  | 8 => zf
  | 9 => zf
  | 10 => zf
  | 11 => zf
  | 12 => fun i => if i = 0 then 1 else 0
  | _ => fun _ => 0
def g3 (a j : Nat) : Nat → va_E
  | 0 => .inr (3, [.ref (a + 1), .int 0, .int 0])
  | 1 => .inl (4, 4, .inr (.inr (.inr (.inr (fun i => if i < j then some (a + 2 + 24 * i) else none)))))
  | k + 2 => blk (a + 2 + 24 * (k / 24)) S0 (k % 24)
theorem g3_2 {a j k : Nat} : g3 a j (k + 2) = blk (a + 2 + 24 * (k / 24)) S0 (k % 24) := rfl
theorem g3_step {w : az_W} {a j : Nat} {E : va_E} (hj : j < 4) : bk w a (2 + 24 * (j + 1)) (g3 a (j + 1)) = va_up (bw (va_up (bk w a (2 + 24 * j) (g3 a j)) (a + 2 + 24 * j) E) (a + 2 + 24 * j) S0) (a + 1) (.inl (4, 4, .inr (.inr (.inr (.inr (va_up (fun i => if i < j then some (a + 2 + 24 * i) else none) j (some (a + 2 + 24 * j)))))))) := by
  refine bk_ext (fun k hk => ?_) (fun i hi => ?_)
  · rw [up_x (by omega), bw_out (by omega), up_x (by omega), bk_out (by omega)]
  · by_cases h2 : i = 1
    · subst h2
      rw [up_eq]
      refine congrArg (fun f : Nat → Option Nat => (Sum.inl (4, 4, Sum.inr (Sum.inr (Sum.inr (Sum.inr f)))) : va_E)) ?_
      funext i
      by_cases q : i = j
      · subst q
        simp [va_up]
      · have : i < j ↔ i < j + 1 := by omega
        simp [va_up, q, this]
    · rw [up_x (by omega)]
      by_cases h3 : 2 + 24 * j ≤ i
      · obtain ⟨k, rfl⟩ : ∃ k, i = 24 * j + k + 2 := ⟨i - (24 * j + 2), by omega⟩
        rw [g3_2, show (24 * j + k) / 24 = j by omega, show (24 * j + k) % 24 = k by omega, show a + (24 * j + k + 2) = (a + 2 + 24 * j) + k by omega, bw_at k (by omega)]
      · rw [bw_out (by omega), up_x (by omega), bk_at i (by omega)]
        match i, h2 with
        | 0, _ => rfl
        | k + 2, _ => rfl
def g8 (a : Nat) (i : Nat) : va_E := if i = 0 then .inr (8, [.ref (a + 1), .ref (a + 25), .ref (a + 49), .ref (a + 147), .int 0]) else if i < 25 then blk (a + 1) S0 (i - 1) else if i < 49 then blk (a + 25) S0 (i - 25) else if i < 147 then g3 (a + 49) 4 (i - 49) else tblk (a + 147) (fun _ => 0) (fun _ => 0) (fun _ => 0) 0 0 (i - 147)

set_option maxRecDepth 20000 in
theorem s_init0 {X : az_X} {w : az_W} {sz sl : Nat} {a : Nat} (hs : sz = a + 1) (h0 : w a = .inr (0, [.null, .null, .null])) : az_M X 1 [.ref a] w sz sl (none, bk w a 4 (g0 a), a + 4, sl + 72) := by
  subst hs
  refine az_Mof hd1 ?_
  show az_Ev X 1 0 [.ref a] [] w (a + 1) sl _
  refine E_al0 k1_0 ?_
  refine E_objinit k1_1 rfl ?_
  refine E_al0 k1_2 ?_
  refine E_bipush k1_3 ?_
  refine E_newa k1_4 (n := 24) (by decide) ?_
  refine E_put k1_5 (up_ne h0 (by omega)) (Nat.le_of_ble_eq_true rfl) (az_fitr (Or.inr ⟨_, rfl⟩)) ?_
  refine E_al0 k1_6 ?_
  refine E_bipush k1_7 ?_
  refine E_newa k1_8 (n := 24) (by decide) ?_
  refine E_put k1_9 (up_ne up_eq (by omega)) (Nat.le_of_ble_eq_true rfl) (az_fitr (Or.inr ⟨_, rfl⟩)) ?_
  refine E_al0 k1_10 ?_
  refine E_bipush k1_11 ?_
  refine E_newa k1_12 (n := 24) (by decide) ?_
  refine E_put k1_13 (up_ne up_eq (by omega)) (Nat.le_of_ble_eq_true rfl) (az_fitr (Or.inr ⟨_, rfl⟩)) ?_
  refine E_al0 k1_14 ?_
  refine E_get k1_15 up_eq rfl ?_
  refine E_iconst k1_16 ?_
  refine E_cs1 k1_17 (Or.inl rfl) rfl rfl (s_sealOf) ?_
  refine E_cs2 k1_18 (Or.inr rfl) rfl rfl (s_fillInts (up_ne (up_ne (up_ne up_eq (by omega)) (by omega)) (by omega)) (by decide)) ?_
  exact E_vret k1_19 hd1 rfl (by exact res_w (bk_ext (fun k hk => by repeat first | rw [up_x (by omega)] | rw [bk_out (by omega)]) (fun i hi => by
      have q : i = 0 ∨ i = 1 ∨ i = 2 ∨ i = 3 := by omega
      rcases q with q | q | q | q <;> subst q <;> simp [va_up, bk, g0] <;> first | omega | rfl)))
set_option maxRecDepth 20000 in
theorem s_init1 {X : az_X} {w : az_W} {sz sl : Nat} {a : Nat} (hs : sz = a + 1) (h0 : w a = .inr (1, [.null])) : az_M X 12 [.ref a] w sz sl (none, bk w a 2 (g1 a), a + 2, sl + 8) := by
  subst hs
  refine az_Mof hd12 ?_
  show az_Ev X 12 0 [.ref a] [] w (a + 1) sl _
  refine E_al0 k12_0 ?_
  refine E_objinit k12_1 rfl ?_
  refine E_al0 k12_2 ?_
  refine E_bipush k12_3 ?_
  refine E_newa k12_4 (n := 8) (by decide) ?_
  refine E_put k12_5 (up_ne h0 (by omega)) (Nat.le_of_ble_eq_true rfl) (az_fitr (Or.inr ⟨_, rfl⟩)) ?_
  refine E_al0 k12_6 ?_
  refine E_get k12_7 up_eq rfl ?_
  refine E_iconst k12_8 ?_
  refine E_cs2 k12_9 (Or.inr rfl) rfl rfl (s_fillInts (up_ne up_eq (by omega)) (by decide)) ?_
  exact E_vret k12_10 hd12 rfl (by exact res_w (bk_ext (fun k hk => by repeat first | rw [up_x (by omega)] | rw [bk_out (by omega)]) (fun i hi => by
      have q : i = 0 ∨ i = 1 := by omega
      rcases q with q | q <;> subst q <;> simp [va_up, bk, g1] <;> first | omega | rfl)))
set_option maxRecDepth 20000 in
theorem s_init2 {X : az_X} {w : az_W} {sz sl : Nat} {a : Nat} {x : Int32} (hs : sz = a + 1) (h0 : w a = .inr (2, [.int 0, .int 0, .null])) : az_M X 21 [.ref a, .int x] w sz sl (none, bk w a 2 (g2 a x), a + 2, sl + 8) := by
  subst hs
  refine az_Mof hd21 ?_
  show az_Ev X 21 0 [.ref a, .int x] [] w (a + 1) sl _
  refine E_al0 k21_0 ?_
  refine E_objinit k21_1 rfl ?_
  refine E_al0 k21_2 ?_
  refine E_bipush k21_3 ?_
  refine E_newa k21_4 (n := 8) (by decide) ?_
  refine E_put k21_5 (up_ne h0 (by omega)) (Nat.le_of_ble_eq_true rfl) (az_fitr (Or.inr ⟨_, rfl⟩)) ?_
  refine E_al0 k21_6 ?_
  refine E_il1 k21_7 ?_
  refine E_put k21_8 up_eq (Nat.le_of_ble_eq_true rfl) (az_fiti rfl) ?_
  refine E_al0 k21_9 ?_
  refine E_iconst k21_10 ?_
  refine E_put k21_11 up_eq (Nat.le_of_ble_eq_true rfl) (az_fitb (Or.inl rfl)) ?_
  refine E_al0 k21_12 ?_
  refine E_get k21_13 up_eq rfl ?_
  refine E_bipush k21_14 ?_
  refine E_cs2 k21_15 (Or.inr rfl) rfl rfl (s_fillInts (up_ne (up_ne (up_ne up_eq (by omega)) (by omega)) (by omega)) (by decide)) ?_
  exact E_vret k21_16 hd21 rfl (by exact res_w (bk_ext (fun k hk => by repeat first | rw [up_x (by omega)] | rw [bk_out (by omega)]) (fun i hi => by
      have q : i = 0 ∨ i = 1 := by omega
      rcases q with q | q <;> subst q <;> simp [va_up, bk, g2] <;> first | omega | rfl)))
set_option maxRecDepth 20000 in
theorem s_init7 {X : az_X} {w : az_W} {sz sl : Nat} {a : Nat} (hs : sz = a + 1) (h0 : w a = .inr (7, [.int 0, .int 0, .null])) : az_M X 83 [.ref a] w sz sl (none, bk w a 2 (g7 a), a + 2, sl + 8) := by
  subst hs
  refine az_Mof hd83 ?_
  show az_Ev X 83 0 [.ref a] [] w (a + 1) sl _
  refine E_al0 k83_0 ?_
  refine E_objinit k83_1 rfl ?_
  refine E_al0 k83_2 ?_
  refine E_bipush k83_3 ?_
  refine E_newa k83_4 (n := 8) (by decide) ?_
  refine E_put k83_5 (up_ne h0 (by omega)) (Nat.le_of_ble_eq_true rfl) (az_fitr (Or.inr ⟨_, rfl⟩)) ?_
  refine E_al0 k83_6 ?_
  refine E_iconst k83_7 ?_
  refine E_put k83_8 up_eq (Nat.le_of_ble_eq_true rfl) (az_fitb (Or.inl rfl)) ?_
  refine E_al0 k83_9 ?_
  refine E_iconst k83_10 ?_
  refine E_put k83_11 up_eq (Nat.le_of_ble_eq_true rfl) (az_fiti rfl) ?_
  refine E_al0 k83_12 ?_
  refine E_get k83_13 up_eq rfl ?_
  refine E_bipush k83_14 ?_
  refine E_cs2 k83_15 (Or.inr rfl) rfl rfl (s_fillInts (up_ne (up_ne (up_ne up_eq (by omega)) (by omega)) (by omega)) (by decide)) ?_
  exact E_vret k83_16 hd83 rfl (by exact res_w (bk_ext (fun k hk => by repeat first | rw [up_x (by omega)] | rw [bk_out (by omega)]) (fun i hi => by
      have q : i = 0 ∨ i = 1 := by omega
      rcases q with q | q <;> subst q <;> simp [va_up, bk, g7] <;> first | omega | rfl)))
set_option maxRecDepth 20000 in
theorem s_init5 {X : az_X} {w : az_W} {sz sl : Nat} {a : Nat} (hs : sz = a + 1) (h0 : w a = .inr (5, [.null, .null])) : az_M X 48 [.ref a] w sz sl (none, bk w a 11 (g5 a 4), a + 11, sl + 52) := by
  subst hs
  refine az_Mof hd48 ?_
  show az_Ev X 48 0 [.ref a, .null] [] w (a + 1) sl _
  refine E_al0 k48_0 ?_
  refine E_objinit k48_1 rfl ?_
  refine E_al0 k48_2 ?_
  refine E_iconst k48_3 ?_
  refine E_newa k48_4 (n := 4) (by decide) ?_
  refine E_put k48_5 (up_ne h0 (by omega)) (Nat.le_of_ble_eq_true rfl) (az_fitr (Or.inr ⟨_, rfl⟩)) ?_
  refine E_al0 k48_6 ?_
  refine E_iconst k48_7 ?_
  refine E_anew k48_8 (n := 4) (by decide) ?_
  refine E_put k48_9 (up_ne up_eq (by omega)) (Nat.le_of_ble_eq_true rfl) (az_fitr (Or.inr ⟨_, rfl⟩)) ?_
  refine E_iconst k48_10 ?_
  refine E_is1 k48_11 rfl ?_
  have loop12 : ∀ j : Nat, j ≤ 4 → az_Ev X 48 12 [.ref a, .int (nI j)] [] (bk w a (3 + 2 * j) (g5 a j)) (a + 3 + 2 * j) (sl + 8 + 11 * j) (none, bk w a 11 (g5 a 4), a + 11, sl + 52) := by
    refine az_ind 4 _ (fun j hj12 ih12 => ?_)
    refine E_il1 k48_12 ?_
    refine E_iconst k48_13 ?_
    refine E_icge k48_14 (fun c14 => ?_) (fun d14 => ?_)
    · skip
      have he12 := lp_t hj12 (by decide) rfl c14
      subst he12
      exact E_vret k48_25 hd48 rfl rfl
    · skip
      have hlt12 := lp_f (by omega) (by decide) rfl d14
      refine E_al0 k48_15 ?_
      refine E_get k48_16 (bk_0 (by omega)) rfl ?_
      refine E_il1 k48_17 ?_
      refine E_new k48_18 ?_
      refine E_dupR k48_19 ?_
      refine E_iconst k48_20 ?_
      refine E_ci1 k48_21 (Or.inl rfl) rfl rfl (s_init2 rfl up_eq) ?_
      refine E_aast k48_22 ((bk_out (by omega)).trans ((up_x (by omega)).trans (bk_at 2 (by omega)))) (bk_0 (by decide)) (Or.inl ⟨rfl, rfl⟩) hlt12 (by decide) ?_
      refine E_inc1 k48_23 rfl ?_
      refine E_goto k48_24 ?_
      exact ev_cong (ih12 hlt12) (by rw [nI_1]) rfl (g5_step (by omega)).symm
  exact ev_cong (loop12 0 (Nat.zero_le _)) rfl rfl (bk_ext (fun k hk => by repeat first | rw [up_x (by omega)] | rw [bk_out (by omega)]) (fun i hi => by
      have q : i = 0 ∨ i = 1 ∨ i = 2 := by omega
      rcases q with q | q | q <;> subst q <;> simp [va_up, bk, g5] <;> first | omega | rfl)).symm
set_option maxRecDepth 20000 in
theorem s_init4 {X : az_X} {w : az_W} {sz sl : Nat} {a : Nat} (hs : sz = a + 1) (h0 : w a = .inr (4, [.null, .int 0, .null, .null, .int 0])) : az_M X 35 [.ref a] w sz sl (none, bk w a 4 (tblk a (fun _ => 0) (fun _ => 0) (fun _ => 0) 0 0), a + 4, sl + 100) := by
  subst hs
  refine az_Mof hd35 ?_
  show az_Ev X 35 0 [.ref a] [] w (a + 1) sl _
  refine E_al0 k35_0 ?_
  refine E_objinit k35_1 rfl ?_
  refine E_al0 k35_2 ?_
  refine E_bipush k35_3 ?_
  refine E_newa k35_4 (n := 60) (by decide) ?_
  refine E_put k35_5 (up_ne h0 (by omega)) (Nat.le_of_ble_eq_true rfl) (az_fitr (Or.inr ⟨_, rfl⟩)) ?_
  refine E_al0 k35_6 ?_
  refine E_bipush k35_7 ?_
  refine E_newa k35_8 (n := 20) (by decide) ?_
  refine E_put k35_9 (up_ne up_eq (by omega)) (Nat.le_of_ble_eq_true rfl) (az_fitr (Or.inr ⟨_, rfl⟩)) ?_
  refine E_al0 k35_10 ?_
  refine E_bipush k35_11 ?_
  refine E_newa k35_12 (n := 20) (by decide) ?_
  refine E_put k35_13 (up_ne up_eq (by omega)) (Nat.le_of_ble_eq_true rfl) (az_fitr (Or.inr ⟨_, rfl⟩)) ?_
  refine E_al0 k35_14 ?_
  refine E_iconst k35_15 ?_
  refine E_put k35_16 up_eq (Nat.le_of_ble_eq_true rfl) (az_fiti rfl) ?_
  refine E_al0 k35_17 ?_
  refine E_iconst k35_18 ?_
  refine E_put k35_19 up_eq (Nat.le_of_ble_eq_true rfl) (az_fiti rfl) ?_
  exact E_vret k35_20 hd35 rfl (by exact res_w (bk_ext (fun k hk => by repeat first | rw [up_x (by omega)] | rw [bk_out (by omega)]) (fun i hi => by
      have q : i = 0 ∨ i = 1 ∨ i = 2 ∨ i = 3 := by omega
      rcases q with q | q | q | q <;> subst q <;> simp [va_up, bk, tblk] <;> first | omega | rfl)))
set_option maxRecDepth 20000 in
theorem s_init6 {X : az_X} {w : az_W} {sz sl : Nat} {a : Nat} (hs : sz = a + 1) (h0 : w a = .inr (6, [.null, .null, .null, .null, .null, .null, .int 0, .int 0, .int 0])) : az_M X 59 [.ref a] w sz sl (none, bw w a S0, a + 24, sl + 171) := by
  subst hs
  refine az_Mof hd59 ?_
  show az_Ev X 59 0 [.ref a] [] w (a + 1) sl _
  refine E_al0 k59_0 ?_
  refine E_objinit k59_1 rfl ?_
  refine E_al0 k59_2 ?_
  refine E_new k59_3 ?_
  refine E_dupR k59_4 ?_
  refine E_ci0 k59_5 (Or.inl rfl) rfl rfl (s_init0 rfl up_eq) ?_
  refine E_put k59_6 ((bk_out (by omega)).trans ((up_x (by omega)).trans h0)) (Nat.le_of_ble_eq_true rfl) (az_fitr (Or.inl ⟨_, rfl⟩)) ?_
  refine E_al0 k59_7 ?_
  refine E_new k59_8 ?_
  refine E_dupR k59_9 ?_
  refine E_iconst k59_10 ?_
  refine E_ci1 k59_11 (Or.inl rfl) rfl rfl (s_init2 rfl up_eq) ?_
  refine E_put k59_12 ((bk_out (by omega)).trans ((up_x (by omega)).trans up_eq)) (Nat.le_of_ble_eq_true rfl) (az_fitr (Or.inl ⟨_, rfl⟩)) ?_
  refine E_al0 k59_13 ?_
  refine E_new k59_14 ?_
  refine E_dupR k59_15 ?_
  refine E_iconst k59_16 ?_
  refine E_ci1 k59_17 (Or.inl rfl) rfl rfl (s_init2 rfl up_eq) ?_
  refine E_put k59_18 ((bk_out (by omega)).trans ((up_x (by omega)).trans up_eq)) (Nat.le_of_ble_eq_true rfl) (az_fitr (Or.inl ⟨_, rfl⟩)) ?_
  refine E_al0 k59_19 ?_
  refine E_new k59_20 ?_
  refine E_dupR k59_21 ?_
  refine E_ci0 k59_22 (Or.inl rfl) rfl rfl (s_init1 rfl up_eq) ?_
  refine E_put k59_23 ((bk_out (by omega)).trans ((up_x (by omega)).trans up_eq)) (Nat.le_of_ble_eq_true rfl) (az_fitr (Or.inl ⟨_, rfl⟩)) ?_
  refine E_al0 k59_24 ?_
  refine E_new k59_25 ?_
  refine E_dupR k59_26 ?_
  refine E_ci0 k59_27 (Or.inl rfl) rfl rfl (s_init7 rfl up_eq) ?_
  refine E_put k59_28 ((bk_out (by omega)).trans ((up_x (by omega)).trans up_eq)) (Nat.le_of_ble_eq_true rfl) (az_fitr (Or.inl ⟨_, rfl⟩)) ?_
  refine E_al0 k59_29 ?_
  refine E_new k59_30 ?_
  refine E_dupR k59_31 ?_
  refine E_ci0 k59_32 (Or.inl rfl) rfl rfl (s_init5 rfl up_eq) ?_
  refine E_put k59_33 ((bk_out (by omega)).trans ((up_x (by omega)).trans up_eq)) (Nat.le_of_ble_eq_true rfl) (az_fitr (Or.inl ⟨_, rfl⟩)) ?_
  refine E_al0 k59_34 ?_
  refine E_iconst k59_35 ?_
  refine E_put k59_36 up_eq (Nat.le_of_ble_eq_true rfl) (az_fiti rfl) ?_
  refine E_al0 k59_37 ?_
  refine E_iconst k59_38 ?_
  refine E_put k59_39 up_eq (Nat.le_of_ble_eq_true rfl) (az_fiti rfl) ?_
  refine E_al0 k59_40 ?_
  refine E_iconst k59_41 ?_
  refine E_put k59_42 up_eq (Nat.le_of_ble_eq_true rfl) (az_fiti rfl) ?_
  exact E_vret k59_43 hd59 rfl (by exact res_w (show bk w a 24 (blk a S0) = _ from bk_ext (fun k hk => by repeat first | rw [up_x (by omega)] | rw [bk_out (by omega)]) (fun i hi => by
      have q : i = 0 ∨ i = 1 ∨ i = 2 ∨ i = 3 ∨ i = 4 ∨ i = 5 ∨ i = 6 ∨ i = 7 ∨ i = 8 ∨ i = 9 ∨ i = 10 ∨ i = 11 ∨ i = 12 ∨ i = 13 ∨ i = 14 ∨ i = 15 ∨ i = 16 ∨ i = 17 ∨ i = 18 ∨ i = 19 ∨ i = 20 ∨ i = 21 ∨ i = 22 ∨ i = 23 := by omega
      rcases q with q | q | q | q | q | q | q | q | q | q | q | q | q | q | q | q | q | q | q | q | q | q | q | q <;> subst q
      · exact up_eq
      · repeat first | rw [up_x (by omega)] | rw [bk_out (by omega)]
        exact bk_in 0 (by omega) (by decide) rfl
      · repeat first | rw [up_x (by omega)] | rw [bk_out (by omega)]
        exact bk_in 1 (by omega) (by decide) rfl
      · repeat first | rw [up_x (by omega)] | rw [bk_out (by omega)]
        exact bk_in 2 (by omega) (by decide) rfl
      · repeat first | rw [up_x (by omega)] | rw [bk_out (by omega)]
        exact bk_in 3 (by omega) (by decide) rfl
      · repeat first | rw [up_x (by omega)] | rw [bk_out (by omega)]
        exact bk_in 0 (by omega) (by decide) rfl
      · repeat first | rw [up_x (by omega)] | rw [bk_out (by omega)]
        exact bk_in 1 (by omega) (by decide) rfl
      · repeat first | rw [up_x (by omega)] | rw [bk_out (by omega)]
        exact bk_in 0 (by omega) (by decide) rfl
      · repeat first | rw [up_x (by omega)] | rw [bk_out (by omega)]
        exact bk_in 1 (by omega) (by decide) rfl
      · repeat first | rw [up_x (by omega)] | rw [bk_out (by omega)]
        exact bk_in 0 (by omega) (by decide) rfl
      · repeat first | rw [up_x (by omega)] | rw [bk_out (by omega)]
        exact bk_in 1 (by omega) (by decide) rfl
      · repeat first | rw [up_x (by omega)] | rw [bk_out (by omega)]
        exact bk_in 0 (by omega) (by decide) rfl
      · repeat first | rw [up_x (by omega)] | rw [bk_out (by omega)]
        exact bk_in 1 (by omega) (by decide) rfl
      · repeat first | rw [up_x (by omega)] | rw [bk_out (by omega)]
        exact bk_in 0 (by omega) (by decide) rfl
      · repeat first | rw [up_x (by omega)] | rw [bk_out (by omega)]
        exact bk_in 1 (by omega) (by decide) rfl
      · repeat first | rw [up_x (by omega)] | rw [bk_out (by omega)]
        exact bk_in 2 (by omega) (by decide) rfl
      · repeat first | rw [up_x (by omega)] | rw [bk_out (by omega)]
        exact bk_in 3 (by omega) (by decide) rfl
      · repeat first | rw [up_x (by omega)] | rw [bk_out (by omega)]
        exact bk_in 4 (by omega) (by decide) rfl
      · repeat first | rw [up_x (by omega)] | rw [bk_out (by omega)]
        exact bk_in 5 (by omega) (by decide) rfl
      · repeat first | rw [up_x (by omega)] | rw [bk_out (by omega)]
        exact bk_in 6 (by omega) (by decide) rfl
      · repeat first | rw [up_x (by omega)] | rw [bk_out (by omega)]
        exact bk_in 7 (by omega) (by decide) rfl
      · repeat first | rw [up_x (by omega)] | rw [bk_out (by omega)]
        exact bk_in 8 (by omega) (by decide) rfl
      · repeat first | rw [up_x (by omega)] | rw [bk_out (by omega)]
        exact bk_in 9 (by omega) (by decide) rfl
      · repeat first | rw [up_x (by omega)] | rw [bk_out (by omega)]
        exact bk_in 10 (by omega) (by decide) rfl)))
set_option maxRecDepth 20000 in
theorem s_init3 {X : az_X} {w : az_W} {sz sl : Nat} {a : Nat} (hs : sz = a + 1) (h0 : w a = .inr (3, [.null, .int 0, .int 0])) : az_M X 31 [.ref a] w sz sl (none, bk w a 98 (g3 a 4), a + 98, sl + 724) := by
  subst hs
  refine az_Mof hd31 ?_
  show az_Ev X 31 0 [.ref a, .null] [] w (a + 1) sl _
  refine E_al0 k31_0 ?_
  refine E_objinit k31_1 rfl ?_
  refine E_al0 k31_2 ?_
  refine E_iconst k31_3 ?_
  refine E_anew k31_4 (n := 4) (by decide) ?_
  refine E_put k31_5 (up_ne h0 (by omega)) (Nat.le_of_ble_eq_true rfl) (az_fitr (Or.inr ⟨_, rfl⟩)) ?_
  refine E_al0 k31_6 ?_
  refine E_iconst k31_7 ?_
  refine E_put k31_8 up_eq (Nat.le_of_ble_eq_true rfl) (az_fiti rfl) ?_
  refine E_al0 k31_9 ?_
  refine E_iconst k31_10 ?_
  refine E_put k31_11 up_eq (Nat.le_of_ble_eq_true rfl) (az_fiti rfl) ?_
  refine E_iconst k31_12 ?_
  refine E_is1 k31_13 rfl ?_
  have loop14 : ∀ j : Nat, j ≤ 4 → az_Ev X 31 14 [.ref a, .int (nI j)] [] (bk w a (2 + 24 * j) (g3 a j)) (a + 2 + 24 * j) (sl + 4 + 180 * j) (none, bk w a 98 (g3 a 4), a + 98, sl + 724) := by
    refine az_ind 4 _ (fun j hj14 ih14 => ?_)
    refine E_il1 k31_14 ?_
    refine E_iconst k31_15 ?_
    refine E_icge k31_16 (fun c16 => ?_) (fun d16 => ?_)
    · skip
      have he14 := lp_t hj14 (by decide) rfl c16
      subst he14
      exact E_vret k31_26 hd31 rfl rfl
    · skip
      have hlt14 := lp_f (by omega) (by decide) rfl d16
      refine E_al0 k31_17 ?_
      refine E_get k31_18 (bk_0 (by omega)) rfl ?_
      refine E_il1 k31_19 ?_
      refine E_new k31_20 ?_
      refine E_dupR k31_21 ?_
      refine E_ci0 k31_22 (Or.inl rfl) rfl rfl (s_init6 rfl up_eq) ?_
      refine E_aast k31_23 ((bw_out (by omega)).trans ((up_x (by omega)).trans (bk_at 1 (by omega)))) bw_0 (Or.inr ⟨rfl, rfl⟩) hlt14 (by decide) ?_
      refine E_inc1 k31_24 rfl ?_
      refine E_goto k31_25 ?_
      exact ev_cong (ih14 hlt14) (by rw [nI_1]) rfl (g3_step (by omega)).symm
  exact ev_cong (loop14 0 (Nat.zero_le _)) rfl rfl (bk_ext (fun k hk => by repeat first | rw [up_x (by omega)] | rw [bk_out (by omega)]) (fun i hi => by
      have q : i = 0 ∨ i = 1 := by omega
      rcases q with q | q <;> subst q <;> simp [va_up, bk, g3] <;> first | omega | rfl)).symm
set_option maxRecDepth 20000 in
theorem s_init8 {X : az_X} {w : az_W} {sz sl : Nat} {a : Nat} (hs : sz = a + 1) (h0 : w a = .inr (8, [.null, .null, .null, .null, .int 0])) : az_M X 93 [.ref a] w sz sl (none, bk w a 151 (g8 a), a + 151, sl + 1192) := by
  subst hs
  refine az_Mof hd93 ?_
  show az_Ev X 93 0 [.ref a] [] w (a + 1) sl _
  refine E_al0 k93_0 ?_
  refine E_objinit k93_1 rfl ?_
  refine E_al0 k93_2 ?_
  refine E_new k93_3 ?_
  refine E_dupR k93_4 ?_
  refine E_ci0 k93_5 (Or.inl rfl) rfl rfl (s_init6 rfl up_eq) ?_
  refine E_put k93_6 ((bw_out (by omega)).trans ((up_x (by omega)).trans h0)) (Nat.le_of_ble_eq_true rfl) (az_fitr (Or.inl ⟨_, rfl⟩)) ?_
  refine E_al0 k93_7 ?_
  refine E_new k93_8 ?_
  refine E_dupR k93_9 ?_
  refine E_ci0 k93_10 (Or.inl rfl) rfl rfl (s_init6 rfl up_eq) ?_
  refine E_put k93_11 ((bw_out (by omega)).trans ((up_x (by omega)).trans up_eq)) (Nat.le_of_ble_eq_true rfl) (az_fitr (Or.inl ⟨_, rfl⟩)) ?_
  refine E_al0 k93_12 ?_
  refine E_new k93_13 ?_
  refine E_dupR k93_14 ?_
  refine E_ci0 k93_15 (Or.inl rfl) rfl rfl (s_init3 rfl up_eq) ?_
  refine E_put k93_16 ((bk_out (by omega)).trans ((up_x (by omega)).trans up_eq)) (Nat.le_of_ble_eq_true rfl) (az_fitr (Or.inl ⟨_, rfl⟩)) ?_
  refine E_al0 k93_17 ?_
  refine E_new k93_18 ?_
  refine E_dupR k93_19 ?_
  refine E_ci0 k93_20 (Or.inl rfl) rfl rfl (s_init4 rfl up_eq) ?_
  refine E_put k93_21 ((tw_out (by omega)).trans ((up_x (by omega)).trans up_eq)) (Nat.le_of_ble_eq_true rfl) (az_fitr (Or.inl ⟨_, rfl⟩)) ?_
  refine E_al0 k93_22 ?_
  refine E_iconst k93_23 ?_
  refine E_put k93_24 up_eq (Nat.le_of_ble_eq_true rfl) (az_fitb (Or.inl rfl)) ?_
  exact E_vret k93_25 hd93 rfl (by exact res_w (bk_ext (fun k hk => by repeat first | rw [up_x (by omega)] | rw [bk_out (by omega)] | rw [bw_out (by omega)] | rw [tw_out (by omega)]) (fun i hi => by
      by_cases q0 : i = 0
      · subst q0
        exact up_eq
      by_cases q1 : i < 25
      · rw [show g8 a i = blk (a + 1) S0 (i - 1) by unfold g8; rw [if_neg q0, if_pos q1]]
        repeat first | rw [up_x (by omega)] | rw [bk_out (by omega)] | rw [bw_out (by omega)] | rw [tw_out (by omega)]
        rw [show a + i = (a + 1) + (i - 1) by omega, bw_at _ (by omega)]
      by_cases q2 : i < 49
      · rw [show g8 a i = blk (a + 25) S0 (i - 25) by unfold g8; rw [if_neg q0, if_neg q1, if_pos q2]]
        repeat first | rw [up_x (by omega)] | rw [bk_out (by omega)] | rw [bw_out (by omega)] | rw [tw_out (by omega)]
        rw [show a + i = (a + 1 + 24) + (i - 25) by omega, bw_at _ (by omega)]
      by_cases q3 : i < 147
      · rw [show g8 a i = g3 (a + 49) 4 (i - 49) by unfold g8; rw [if_neg q0, if_neg q1, if_neg q2, if_pos q3]]
        repeat first | rw [up_x (by omega)] | rw [bk_out (by omega)] | rw [bw_out (by omega)] | rw [tw_out (by omega)]
        exact bk_in (i - 49) (by omega) (by omega) rfl
      · rw [show g8 a i = tblk (a + 147) (fun _ => 0) (fun _ => 0) (fun _ => 0) 0 0 (i - 147) by unfold g8; rw [if_neg q0, if_neg q1, if_neg q2, if_neg q3]]
        repeat first | rw [up_x (by omega)] | rw [bk_out (by omega)] | rw [bw_out (by omega)] | rw [tw_out (by omega)]
        exact bk_in (i - 147) (by omega) (by omega) rfl)))
theorem S0_OK : OKS S0 := by
  refine ⟨⟨fun i hi => Or.inl rfl, Or.inl rfl, Or.inl rfl, Or.inl rfl, fun r hr => Or.inl ?_⟩, Or.inl rfl⟩
  show (if 10 + 2 * r = 0 then (1 : Int32) else 0) = 0
  rw [if_neg (by omega)]
theorem GW_0 {w : az_W} : GW (bk w 0 151 (g8 0)) S0 S0 0 0 0 (fun _ => S0) (fun _ => 0) (fun _ => 0) (fun _ => 0) 0 0 := by
  have A : ∀ i, i < 151 → bk w 0 151 (g8 0) i = g8 0 i := fun i hi => by
    have := bk_at (w := w) (a := 0) (n := 151) (g := g8 0) i hi
    rw [Nat.zero_add] at this
    exact this
  refine ⟨A 0 (by decide), fun k hk => ?_, fun k hk => ?_, A 49 (by decide), A 50 (by decide), fun i hi k hk => ?_, fun k hk => ?_, by decide, by decide, by decide, Or.inl rfl, S0_OK, S0_OK, fun _ _ => S0_OK⟩
  · rw [A _ (by omega)]
    unfold g8
    rw [if_neg (by omega), if_pos (by omega), show 1 + k - 1 = k by omega]
  · rw [A _ (by omega)]
    unfold g8
    rw [if_neg (by omega), if_neg (by omega), if_pos (by omega), show 25 + k - 25 = k by omega]
  · rw [A _ (by omega)]
    unfold g8
    rw [if_neg (by omega), if_neg (by omega), if_neg (by omega), if_pos (by omega), show 51 + 24 * i + k - 49 = (24 * i + k) + 2 by omega, g3_2, show (24 * i + k) / 24 = i by omega, show (24 * i + k) % 24 = k by omega, show 0 + 49 + 2 + 24 * i = 51 + 24 * i by omega]
  · rw [A _ (by omega)]
    unfold g8
    rw [if_neg (by omega), if_neg (by omega), if_neg (by omega), if_neg (by omega), show 147 + k - 147 = k by omega]
    rfl

