/-! a State: 24 cells in a row, as one picture (written by wip/whole/gen15.py) -/
abbrev az_S : Type := Nat → Nat → Int32
def kfn (a : Nat) : Nat → Option Nat := fun i => if i < 4 then some (a + 16 + 2 * i) else none
theorem kfn_at (a : Nat) {i : Nat} (h : i < 4) : kfn a i = some (a + 16 + 2 * i) := if_pos h
def blk (a : Nat) (S : az_S) : Nat → va_E
  | 0 => (.inr (6, [.ref (a + 1), .ref (a + 5), .ref (a + 7), .ref (a + 9), .ref (a + 11), .ref (a + 13), .int (S 12 6), .int (S 12 7), .int (S 12 8)]))
  | 1 => (.inr (0, [.ref (a + 2), .ref (a + 3), .ref (a + 4)]))
  | 2 => (.inl (0, 24, .inl (S 0)))
  | 3 => (.inl (0, 24, .inl (S 1)))
  | 4 => (.inl (0, 24, .inl (S 2)))
  | 5 => (.inr (2, [.int (S 12 0), .int (S 12 1), .ref (a + 6)]))
  | 6 => (.inl (0, 8, .inl (S 3)))
  | 7 => (.inr (2, [.int (S 12 2), .int (S 12 3), .ref (a + 8)]))
  | 8 => (.inl (0, 8, .inl (S 4)))
  | 9 => (.inr (1, [.ref (a + 10)]))
  | 10 => (.inl (0, 8, .inl (S 5)))
  | 11 => (.inr (7, [.int (S 12 4), .int (S 12 5), .ref (a + 12)]))
  | 12 => (.inl (0, 8, .inl (S 6)))
  | 13 => (.inr (5, [.ref (a + 14), .ref (a + 15)]))
  | 14 => (.inl (2, 4, .inl (S 7)))
  | 15 => (.inl (3, 4, .inr (.inr (.inr (.inr (kfn a))))))
  | 16 => (.inr (2, [.int (S 12 9), .int (S 12 10), .ref (a + 17)]))
  | 17 => (.inl (0, 8, .inl (S 8)))
  | 18 => (.inr (2, [.int (S 12 11), .int (S 12 12), .ref (a + 19)]))
  | 19 => (.inl (0, 8, .inl (S 9)))
  | 20 => (.inr (2, [.int (S 12 13), .int (S 12 14), .ref (a + 21)]))
  | 21 => (.inl (0, 8, .inl (S 10)))
  | 22 => (.inr (2, [.int (S 12 15), .int (S 12 16), .ref (a + 23)]))
  | _ => (.inl (0, 8, .inl (S 11)))
/-- the world w with the picture of S from a on -/
def bw (w : az_W) (a : Nat) (S : az_S) : az_W := fun k => if a ≤ k ∧ k < a + 24 then blk a S (k - a) else w k
theorem bw_at {w : az_W} {a : Nat} {S : az_S} (k : Nat) (h : k < 24) : bw w a S (a + k) = blk a S k := by
  unfold bw
  rw [if_pos ⟨by omega, by omega⟩, show a + k - a = k by omega]
theorem bw_out {w : az_W} {a k : Nat} {S : az_S} (h : k < a ∨ a + 24 ≤ k) : bw w a S k = w k := by
  unfold bw
  rw [if_neg (by omega)]
theorem bw_bw {w : az_W} {a : Nat} {S T : az_S} : bw (bw w a S) a T = bw w a T := by
  funext k
  unfold bw
  by_cases h : a ≤ k ∧ k < a + 24
  · simp [h]
  · simp [h]
theorem bw_in {w : az_W} {a : Nat} {S : az_S} (h : ∀ k, k < 24 → w (a + k) = blk a S k) : bw w a S = w := by
  funext k
  unfold bw
  by_cases hk : a ≤ k ∧ k < a + 24
  · rw [if_pos hk, ← h (k - a) (by omega), show a + (k - a) = k by omega]
  · rw [if_neg hk]
theorem bw_up {w : az_W} {a c : Nat} {S T : az_S} {e : va_E} (hc : c < 24) (he : blk a T c = e) (ho : ∀ k, k < 24 → k ≠ c → blk a T k = blk a S k) : va_up (bw w a S) (a + c) e = bw w a T := by
  funext k
  by_cases hk : k = a + c
  · subst hk
    rw [bw_at c hc, he]
    simp [va_up]
  · have e1 : va_up (bw w a S) (a + c) e k = bw w a S k := by simp [va_up, hk]
    rw [e1]
    by_cases hr : a ≤ k ∧ k < a + 24
    · obtain ⟨j, rfl⟩ : ∃ j, k = a + j := ⟨k - a, by omega⟩
      rw [bw_at j (by omega), bw_at j (by omega), ho j (by omega) (by omega)]
    · rw [bw_out (by omega), bw_out (by omega)]
theorem sU_ne {S : az_S} {c d : Nat} {g : Nat → Int32} (h : d ≠ c) : va_up S c g d = S d := by simp [va_up, h]
theorem sU_eq {S : az_S} {c : Nat} {g : Nat → Int32} : va_up S c g c = g := by simp [va_up]
/-- a number of the picture's twelfth row -/
def sN (S : az_S) (k : Nat) (x : Int32) : az_S := va_up S 12 (upd (S 12) k x)
theorem sN_ne {S : az_S} {k d : Nat} {x : Int32} (h : d ≠ 12) : sN S k x d = S d := sU_ne h
theorem sN_12 {S : az_S} {k : Nat} {x : Int32} (j : Nat) : sN S k x 12 j = if j = k then x else S 12 j := by simp [sN, va_up, upd]

theorem bw_0 {w : az_W} {a : Nat} {S : az_S} : bw w a S a = (.inr (6, [.ref (a + 1), .ref (a + 5), .ref (a + 7), .ref (a + 9), .ref (a + 11), .ref (a + 13), .int (S 12 6), .int (S 12 7), .int (S 12 8)])) := bw_at 0 (by decide)
theorem bw_1 {w : az_W} {a : Nat} {S : az_S} : bw w a S (a + 1) = (.inr (0, [.ref (a + 2), .ref (a + 3), .ref (a + 4)])) := bw_at 1 (by decide)
theorem bw_2 {w : az_W} {a : Nat} {S : az_S} : bw w a S (a + 2) = (.inl (0, 24, .inl (S 0))) := bw_at 2 (by decide)
theorem bw_3 {w : az_W} {a : Nat} {S : az_S} : bw w a S (a + 3) = (.inl (0, 24, .inl (S 1))) := bw_at 3 (by decide)
theorem bw_4 {w : az_W} {a : Nat} {S : az_S} : bw w a S (a + 4) = (.inl (0, 24, .inl (S 2))) := bw_at 4 (by decide)
theorem bw_5 {w : az_W} {a : Nat} {S : az_S} : bw w a S (a + 5) = (.inr (2, [.int (S 12 0), .int (S 12 1), .ref (a + 6)])) := bw_at 5 (by decide)
theorem bw_6 {w : az_W} {a : Nat} {S : az_S} : bw w a S (a + 6) = (.inl (0, 8, .inl (S 3))) := bw_at 6 (by decide)
theorem bw_7 {w : az_W} {a : Nat} {S : az_S} : bw w a S (a + 7) = (.inr (2, [.int (S 12 2), .int (S 12 3), .ref (a + 8)])) := bw_at 7 (by decide)
theorem bw_8 {w : az_W} {a : Nat} {S : az_S} : bw w a S (a + 8) = (.inl (0, 8, .inl (S 4))) := bw_at 8 (by decide)
theorem bw_9 {w : az_W} {a : Nat} {S : az_S} : bw w a S (a + 9) = (.inr (1, [.ref (a + 10)])) := bw_at 9 (by decide)
theorem bw_10 {w : az_W} {a : Nat} {S : az_S} : bw w a S (a + 10) = (.inl (0, 8, .inl (S 5))) := bw_at 10 (by decide)
theorem bw_11 {w : az_W} {a : Nat} {S : az_S} : bw w a S (a + 11) = (.inr (7, [.int (S 12 4), .int (S 12 5), .ref (a + 12)])) := bw_at 11 (by decide)
theorem bw_12 {w : az_W} {a : Nat} {S : az_S} : bw w a S (a + 12) = (.inl (0, 8, .inl (S 6))) := bw_at 12 (by decide)
theorem bw_13 {w : az_W} {a : Nat} {S : az_S} : bw w a S (a + 13) = (.inr (5, [.ref (a + 14), .ref (a + 15)])) := bw_at 13 (by decide)
theorem bw_14 {w : az_W} {a : Nat} {S : az_S} : bw w a S (a + 14) = (.inl (2, 4, .inl (S 7))) := bw_at 14 (by decide)
theorem bw_15 {w : az_W} {a : Nat} {S : az_S} : bw w a S (a + 15) = (.inl (3, 4, .inr (.inr (.inr (.inr (kfn a)))))) := bw_at 15 (by decide)
theorem bw_16 {w : az_W} {a : Nat} {S : az_S} : bw w a S (a + 16) = (.inr (2, [.int (S 12 9), .int (S 12 10), .ref (a + 17)])) := bw_at 16 (by decide)
theorem bw_17 {w : az_W} {a : Nat} {S : az_S} : bw w a S (a + 17) = (.inl (0, 8, .inl (S 8))) := bw_at 17 (by decide)
theorem bw_18 {w : az_W} {a : Nat} {S : az_S} : bw w a S (a + 18) = (.inr (2, [.int (S 12 11), .int (S 12 12), .ref (a + 19)])) := bw_at 18 (by decide)
theorem bw_19 {w : az_W} {a : Nat} {S : az_S} : bw w a S (a + 19) = (.inl (0, 8, .inl (S 9))) := bw_at 19 (by decide)
theorem bw_20 {w : az_W} {a : Nat} {S : az_S} : bw w a S (a + 20) = (.inr (2, [.int (S 12 13), .int (S 12 14), .ref (a + 21)])) := bw_at 20 (by decide)
theorem bw_21 {w : az_W} {a : Nat} {S : az_S} : bw w a S (a + 21) = (.inl (0, 8, .inl (S 10))) := bw_at 21 (by decide)
theorem bw_22 {w : az_W} {a : Nat} {S : az_S} : bw w a S (a + 22) = (.inr (2, [.int (S 12 15), .int (S 12 16), .ref (a + 23)])) := bw_at 22 (by decide)
theorem bw_23 {w : az_W} {a : Nat} {S : az_S} : bw w a S (a + 23) = (.inl (0, 8, .inl (S 11))) := bw_at 23 (by decide)
set_option maxRecDepth 20000 in
theorem bu_2 {w : az_W} {a : Nat} {S : az_S} {g : Nat → Int32} : va_up (bw w a S) (a + 2) (.inl (0, 24, .inl g)) = bw w a (va_up S 0 g) := by
  refine bw_up (by decide) (by show _ = _; simp only [blk, sU_eq]) (fun k hk hn => ?_)
  match k, hk, hn with
  | 0, _, _ => simp only [blk, sU_ne (show (12 : Nat) ≠ 0 by decide)]
  | 1, _, _ => rfl
  | 2, _, hn => exact absurd rfl hn
  | 3, _, _ => simp only [blk, sU_ne (show (1 : Nat) ≠ 0 by decide)]
  | 4, _, _ => simp only [blk, sU_ne (show (2 : Nat) ≠ 0 by decide)]
  | 5, _, _ => simp only [blk, sU_ne (show (12 : Nat) ≠ 0 by decide)]
  | 6, _, _ => simp only [blk, sU_ne (show (3 : Nat) ≠ 0 by decide)]
  | 7, _, _ => simp only [blk, sU_ne (show (12 : Nat) ≠ 0 by decide)]
  | 8, _, _ => simp only [blk, sU_ne (show (4 : Nat) ≠ 0 by decide)]
  | 9, _, _ => rfl
  | 10, _, _ => simp only [blk, sU_ne (show (5 : Nat) ≠ 0 by decide)]
  | 11, _, _ => simp only [blk, sU_ne (show (12 : Nat) ≠ 0 by decide)]
  | 12, _, _ => simp only [blk, sU_ne (show (6 : Nat) ≠ 0 by decide)]
  | 13, _, _ => rfl
  | 14, _, _ => simp only [blk, sU_ne (show (7 : Nat) ≠ 0 by decide)]
  | 15, _, _ => rfl
  | 16, _, _ => simp only [blk, sU_ne (show (12 : Nat) ≠ 0 by decide)]
  | 17, _, _ => simp only [blk, sU_ne (show (8 : Nat) ≠ 0 by decide)]
  | 18, _, _ => simp only [blk, sU_ne (show (12 : Nat) ≠ 0 by decide)]
  | 19, _, _ => simp only [blk, sU_ne (show (9 : Nat) ≠ 0 by decide)]
  | 20, _, _ => simp only [blk, sU_ne (show (12 : Nat) ≠ 0 by decide)]
  | 21, _, _ => simp only [blk, sU_ne (show (10 : Nat) ≠ 0 by decide)]
  | 22, _, _ => simp only [blk, sU_ne (show (12 : Nat) ≠ 0 by decide)]
  | 23, _, _ => simp only [blk, sU_ne (show (11 : Nat) ≠ 0 by decide)]
  | k + 24, hk, _ => omega
set_option maxRecDepth 20000 in
theorem bu_3 {w : az_W} {a : Nat} {S : az_S} {g : Nat → Int32} : va_up (bw w a S) (a + 3) (.inl (0, 24, .inl g)) = bw w a (va_up S 1 g) := by
  refine bw_up (by decide) (by show _ = _; simp only [blk, sU_eq]) (fun k hk hn => ?_)
  match k, hk, hn with
  | 0, _, _ => simp only [blk, sU_ne (show (12 : Nat) ≠ 1 by decide)]
  | 1, _, _ => rfl
  | 2, _, _ => simp only [blk, sU_ne (show (0 : Nat) ≠ 1 by decide)]
  | 3, _, hn => exact absurd rfl hn
  | 4, _, _ => simp only [blk, sU_ne (show (2 : Nat) ≠ 1 by decide)]
  | 5, _, _ => simp only [blk, sU_ne (show (12 : Nat) ≠ 1 by decide)]
  | 6, _, _ => simp only [blk, sU_ne (show (3 : Nat) ≠ 1 by decide)]
  | 7, _, _ => simp only [blk, sU_ne (show (12 : Nat) ≠ 1 by decide)]
  | 8, _, _ => simp only [blk, sU_ne (show (4 : Nat) ≠ 1 by decide)]
  | 9, _, _ => rfl
  | 10, _, _ => simp only [blk, sU_ne (show (5 : Nat) ≠ 1 by decide)]
  | 11, _, _ => simp only [blk, sU_ne (show (12 : Nat) ≠ 1 by decide)]
  | 12, _, _ => simp only [blk, sU_ne (show (6 : Nat) ≠ 1 by decide)]
  | 13, _, _ => rfl
  | 14, _, _ => simp only [blk, sU_ne (show (7 : Nat) ≠ 1 by decide)]
  | 15, _, _ => rfl
  | 16, _, _ => simp only [blk, sU_ne (show (12 : Nat) ≠ 1 by decide)]
  | 17, _, _ => simp only [blk, sU_ne (show (8 : Nat) ≠ 1 by decide)]
  | 18, _, _ => simp only [blk, sU_ne (show (12 : Nat) ≠ 1 by decide)]
  | 19, _, _ => simp only [blk, sU_ne (show (9 : Nat) ≠ 1 by decide)]
  | 20, _, _ => simp only [blk, sU_ne (show (12 : Nat) ≠ 1 by decide)]
  | 21, _, _ => simp only [blk, sU_ne (show (10 : Nat) ≠ 1 by decide)]
  | 22, _, _ => simp only [blk, sU_ne (show (12 : Nat) ≠ 1 by decide)]
  | 23, _, _ => simp only [blk, sU_ne (show (11 : Nat) ≠ 1 by decide)]
  | k + 24, hk, _ => omega
set_option maxRecDepth 20000 in
theorem bu_4 {w : az_W} {a : Nat} {S : az_S} {g : Nat → Int32} : va_up (bw w a S) (a + 4) (.inl (0, 24, .inl g)) = bw w a (va_up S 2 g) := by
  refine bw_up (by decide) (by show _ = _; simp only [blk, sU_eq]) (fun k hk hn => ?_)
  match k, hk, hn with
  | 0, _, _ => simp only [blk, sU_ne (show (12 : Nat) ≠ 2 by decide)]
  | 1, _, _ => rfl
  | 2, _, _ => simp only [blk, sU_ne (show (0 : Nat) ≠ 2 by decide)]
  | 3, _, _ => simp only [blk, sU_ne (show (1 : Nat) ≠ 2 by decide)]
  | 4, _, hn => exact absurd rfl hn
  | 5, _, _ => simp only [blk, sU_ne (show (12 : Nat) ≠ 2 by decide)]
  | 6, _, _ => simp only [blk, sU_ne (show (3 : Nat) ≠ 2 by decide)]
  | 7, _, _ => simp only [blk, sU_ne (show (12 : Nat) ≠ 2 by decide)]
  | 8, _, _ => simp only [blk, sU_ne (show (4 : Nat) ≠ 2 by decide)]
  | 9, _, _ => rfl
  | 10, _, _ => simp only [blk, sU_ne (show (5 : Nat) ≠ 2 by decide)]
  | 11, _, _ => simp only [blk, sU_ne (show (12 : Nat) ≠ 2 by decide)]
  | 12, _, _ => simp only [blk, sU_ne (show (6 : Nat) ≠ 2 by decide)]
  | 13, _, _ => rfl
  | 14, _, _ => simp only [blk, sU_ne (show (7 : Nat) ≠ 2 by decide)]
  | 15, _, _ => rfl
  | 16, _, _ => simp only [blk, sU_ne (show (12 : Nat) ≠ 2 by decide)]
  | 17, _, _ => simp only [blk, sU_ne (show (8 : Nat) ≠ 2 by decide)]
  | 18, _, _ => simp only [blk, sU_ne (show (12 : Nat) ≠ 2 by decide)]
  | 19, _, _ => simp only [blk, sU_ne (show (9 : Nat) ≠ 2 by decide)]
  | 20, _, _ => simp only [blk, sU_ne (show (12 : Nat) ≠ 2 by decide)]
  | 21, _, _ => simp only [blk, sU_ne (show (10 : Nat) ≠ 2 by decide)]
  | 22, _, _ => simp only [blk, sU_ne (show (12 : Nat) ≠ 2 by decide)]
  | 23, _, _ => simp only [blk, sU_ne (show (11 : Nat) ≠ 2 by decide)]
  | k + 24, hk, _ => omega
set_option maxRecDepth 20000 in
theorem bu_6 {w : az_W} {a : Nat} {S : az_S} {g : Nat → Int32} : va_up (bw w a S) (a + 6) (.inl (0, 8, .inl g)) = bw w a (va_up S 3 g) := by
  refine bw_up (by decide) (by show _ = _; simp only [blk, sU_eq]) (fun k hk hn => ?_)
  match k, hk, hn with
  | 0, _, _ => simp only [blk, sU_ne (show (12 : Nat) ≠ 3 by decide)]
  | 1, _, _ => rfl
  | 2, _, _ => simp only [blk, sU_ne (show (0 : Nat) ≠ 3 by decide)]
  | 3, _, _ => simp only [blk, sU_ne (show (1 : Nat) ≠ 3 by decide)]
  | 4, _, _ => simp only [blk, sU_ne (show (2 : Nat) ≠ 3 by decide)]
  | 5, _, _ => simp only [blk, sU_ne (show (12 : Nat) ≠ 3 by decide)]
  | 6, _, hn => exact absurd rfl hn
  | 7, _, _ => simp only [blk, sU_ne (show (12 : Nat) ≠ 3 by decide)]
  | 8, _, _ => simp only [blk, sU_ne (show (4 : Nat) ≠ 3 by decide)]
  | 9, _, _ => rfl
  | 10, _, _ => simp only [blk, sU_ne (show (5 : Nat) ≠ 3 by decide)]
  | 11, _, _ => simp only [blk, sU_ne (show (12 : Nat) ≠ 3 by decide)]
  | 12, _, _ => simp only [blk, sU_ne (show (6 : Nat) ≠ 3 by decide)]
  | 13, _, _ => rfl
  | 14, _, _ => simp only [blk, sU_ne (show (7 : Nat) ≠ 3 by decide)]
  | 15, _, _ => rfl
  | 16, _, _ => simp only [blk, sU_ne (show (12 : Nat) ≠ 3 by decide)]
  | 17, _, _ => simp only [blk, sU_ne (show (8 : Nat) ≠ 3 by decide)]
  | 18, _, _ => simp only [blk, sU_ne (show (12 : Nat) ≠ 3 by decide)]
  | 19, _, _ => simp only [blk, sU_ne (show (9 : Nat) ≠ 3 by decide)]
  | 20, _, _ => simp only [blk, sU_ne (show (12 : Nat) ≠ 3 by decide)]
  | 21, _, _ => simp only [blk, sU_ne (show (10 : Nat) ≠ 3 by decide)]
  | 22, _, _ => simp only [blk, sU_ne (show (12 : Nat) ≠ 3 by decide)]
  | 23, _, _ => simp only [blk, sU_ne (show (11 : Nat) ≠ 3 by decide)]
  | k + 24, hk, _ => omega
set_option maxRecDepth 20000 in
theorem bu_8 {w : az_W} {a : Nat} {S : az_S} {g : Nat → Int32} : va_up (bw w a S) (a + 8) (.inl (0, 8, .inl g)) = bw w a (va_up S 4 g) := by
  refine bw_up (by decide) (by show _ = _; simp only [blk, sU_eq]) (fun k hk hn => ?_)
  match k, hk, hn with
  | 0, _, _ => simp only [blk, sU_ne (show (12 : Nat) ≠ 4 by decide)]
  | 1, _, _ => rfl
  | 2, _, _ => simp only [blk, sU_ne (show (0 : Nat) ≠ 4 by decide)]
  | 3, _, _ => simp only [blk, sU_ne (show (1 : Nat) ≠ 4 by decide)]
  | 4, _, _ => simp only [blk, sU_ne (show (2 : Nat) ≠ 4 by decide)]
  | 5, _, _ => simp only [blk, sU_ne (show (12 : Nat) ≠ 4 by decide)]
  | 6, _, _ => simp only [blk, sU_ne (show (3 : Nat) ≠ 4 by decide)]
  | 7, _, _ => simp only [blk, sU_ne (show (12 : Nat) ≠ 4 by decide)]
  | 8, _, hn => exact absurd rfl hn
  | 9, _, _ => rfl
  | 10, _, _ => simp only [blk, sU_ne (show (5 : Nat) ≠ 4 by decide)]
  | 11, _, _ => simp only [blk, sU_ne (show (12 : Nat) ≠ 4 by decide)]
  | 12, _, _ => simp only [blk, sU_ne (show (6 : Nat) ≠ 4 by decide)]
  | 13, _, _ => rfl
  | 14, _, _ => simp only [blk, sU_ne (show (7 : Nat) ≠ 4 by decide)]
  | 15, _, _ => rfl
  | 16, _, _ => simp only [blk, sU_ne (show (12 : Nat) ≠ 4 by decide)]
  | 17, _, _ => simp only [blk, sU_ne (show (8 : Nat) ≠ 4 by decide)]
  | 18, _, _ => simp only [blk, sU_ne (show (12 : Nat) ≠ 4 by decide)]
  | 19, _, _ => simp only [blk, sU_ne (show (9 : Nat) ≠ 4 by decide)]
  | 20, _, _ => simp only [blk, sU_ne (show (12 : Nat) ≠ 4 by decide)]
  | 21, _, _ => simp only [blk, sU_ne (show (10 : Nat) ≠ 4 by decide)]
  | 22, _, _ => simp only [blk, sU_ne (show (12 : Nat) ≠ 4 by decide)]
  | 23, _, _ => simp only [blk, sU_ne (show (11 : Nat) ≠ 4 by decide)]
  | k + 24, hk, _ => omega
set_option maxRecDepth 20000 in
theorem bu_10 {w : az_W} {a : Nat} {S : az_S} {g : Nat → Int32} : va_up (bw w a S) (a + 10) (.inl (0, 8, .inl g)) = bw w a (va_up S 5 g) := by
  refine bw_up (by decide) (by show _ = _; simp only [blk, sU_eq]) (fun k hk hn => ?_)
  match k, hk, hn with
  | 0, _, _ => simp only [blk, sU_ne (show (12 : Nat) ≠ 5 by decide)]
  | 1, _, _ => rfl
  | 2, _, _ => simp only [blk, sU_ne (show (0 : Nat) ≠ 5 by decide)]
  | 3, _, _ => simp only [blk, sU_ne (show (1 : Nat) ≠ 5 by decide)]
  | 4, _, _ => simp only [blk, sU_ne (show (2 : Nat) ≠ 5 by decide)]
  | 5, _, _ => simp only [blk, sU_ne (show (12 : Nat) ≠ 5 by decide)]
  | 6, _, _ => simp only [blk, sU_ne (show (3 : Nat) ≠ 5 by decide)]
  | 7, _, _ => simp only [blk, sU_ne (show (12 : Nat) ≠ 5 by decide)]
  | 8, _, _ => simp only [blk, sU_ne (show (4 : Nat) ≠ 5 by decide)]
  | 9, _, _ => rfl
  | 10, _, hn => exact absurd rfl hn
  | 11, _, _ => simp only [blk, sU_ne (show (12 : Nat) ≠ 5 by decide)]
  | 12, _, _ => simp only [blk, sU_ne (show (6 : Nat) ≠ 5 by decide)]
  | 13, _, _ => rfl
  | 14, _, _ => simp only [blk, sU_ne (show (7 : Nat) ≠ 5 by decide)]
  | 15, _, _ => rfl
  | 16, _, _ => simp only [blk, sU_ne (show (12 : Nat) ≠ 5 by decide)]
  | 17, _, _ => simp only [blk, sU_ne (show (8 : Nat) ≠ 5 by decide)]
  | 18, _, _ => simp only [blk, sU_ne (show (12 : Nat) ≠ 5 by decide)]
  | 19, _, _ => simp only [blk, sU_ne (show (9 : Nat) ≠ 5 by decide)]
  | 20, _, _ => simp only [blk, sU_ne (show (12 : Nat) ≠ 5 by decide)]
  | 21, _, _ => simp only [blk, sU_ne (show (10 : Nat) ≠ 5 by decide)]
  | 22, _, _ => simp only [blk, sU_ne (show (12 : Nat) ≠ 5 by decide)]
  | 23, _, _ => simp only [blk, sU_ne (show (11 : Nat) ≠ 5 by decide)]
  | k + 24, hk, _ => omega
set_option maxRecDepth 20000 in
theorem bu_12 {w : az_W} {a : Nat} {S : az_S} {g : Nat → Int32} : va_up (bw w a S) (a + 12) (.inl (0, 8, .inl g)) = bw w a (va_up S 6 g) := by
  refine bw_up (by decide) (by show _ = _; simp only [blk, sU_eq]) (fun k hk hn => ?_)
  match k, hk, hn with
  | 0, _, _ => simp only [blk, sU_ne (show (12 : Nat) ≠ 6 by decide)]
  | 1, _, _ => rfl
  | 2, _, _ => simp only [blk, sU_ne (show (0 : Nat) ≠ 6 by decide)]
  | 3, _, _ => simp only [blk, sU_ne (show (1 : Nat) ≠ 6 by decide)]
  | 4, _, _ => simp only [blk, sU_ne (show (2 : Nat) ≠ 6 by decide)]
  | 5, _, _ => simp only [blk, sU_ne (show (12 : Nat) ≠ 6 by decide)]
  | 6, _, _ => simp only [blk, sU_ne (show (3 : Nat) ≠ 6 by decide)]
  | 7, _, _ => simp only [blk, sU_ne (show (12 : Nat) ≠ 6 by decide)]
  | 8, _, _ => simp only [blk, sU_ne (show (4 : Nat) ≠ 6 by decide)]
  | 9, _, _ => rfl
  | 10, _, _ => simp only [blk, sU_ne (show (5 : Nat) ≠ 6 by decide)]
  | 11, _, _ => simp only [blk, sU_ne (show (12 : Nat) ≠ 6 by decide)]
  | 12, _, hn => exact absurd rfl hn
  | 13, _, _ => rfl
  | 14, _, _ => simp only [blk, sU_ne (show (7 : Nat) ≠ 6 by decide)]
  | 15, _, _ => rfl
  | 16, _, _ => simp only [blk, sU_ne (show (12 : Nat) ≠ 6 by decide)]
  | 17, _, _ => simp only [blk, sU_ne (show (8 : Nat) ≠ 6 by decide)]
  | 18, _, _ => simp only [blk, sU_ne (show (12 : Nat) ≠ 6 by decide)]
  | 19, _, _ => simp only [blk, sU_ne (show (9 : Nat) ≠ 6 by decide)]
  | 20, _, _ => simp only [blk, sU_ne (show (12 : Nat) ≠ 6 by decide)]
  | 21, _, _ => simp only [blk, sU_ne (show (10 : Nat) ≠ 6 by decide)]
  | 22, _, _ => simp only [blk, sU_ne (show (12 : Nat) ≠ 6 by decide)]
  | 23, _, _ => simp only [blk, sU_ne (show (11 : Nat) ≠ 6 by decide)]
  | k + 24, hk, _ => omega
set_option maxRecDepth 20000 in
theorem bu_14 {w : az_W} {a : Nat} {S : az_S} {g : Nat → Int32} : va_up (bw w a S) (a + 14) (.inl (2, 4, .inl g)) = bw w a (va_up S 7 g) := by
  refine bw_up (by decide) (by show _ = _; simp only [blk, sU_eq]) (fun k hk hn => ?_)
  match k, hk, hn with
  | 0, _, _ => simp only [blk, sU_ne (show (12 : Nat) ≠ 7 by decide)]
  | 1, _, _ => rfl
  | 2, _, _ => simp only [blk, sU_ne (show (0 : Nat) ≠ 7 by decide)]
  | 3, _, _ => simp only [blk, sU_ne (show (1 : Nat) ≠ 7 by decide)]
  | 4, _, _ => simp only [blk, sU_ne (show (2 : Nat) ≠ 7 by decide)]
  | 5, _, _ => simp only [blk, sU_ne (show (12 : Nat) ≠ 7 by decide)]
  | 6, _, _ => simp only [blk, sU_ne (show (3 : Nat) ≠ 7 by decide)]
  | 7, _, _ => simp only [blk, sU_ne (show (12 : Nat) ≠ 7 by decide)]
  | 8, _, _ => simp only [blk, sU_ne (show (4 : Nat) ≠ 7 by decide)]
  | 9, _, _ => rfl
  | 10, _, _ => simp only [blk, sU_ne (show (5 : Nat) ≠ 7 by decide)]
  | 11, _, _ => simp only [blk, sU_ne (show (12 : Nat) ≠ 7 by decide)]
  | 12, _, _ => simp only [blk, sU_ne (show (6 : Nat) ≠ 7 by decide)]
  | 13, _, _ => rfl
  | 14, _, hn => exact absurd rfl hn
  | 15, _, _ => rfl
  | 16, _, _ => simp only [blk, sU_ne (show (12 : Nat) ≠ 7 by decide)]
  | 17, _, _ => simp only [blk, sU_ne (show (8 : Nat) ≠ 7 by decide)]
  | 18, _, _ => simp only [blk, sU_ne (show (12 : Nat) ≠ 7 by decide)]
  | 19, _, _ => simp only [blk, sU_ne (show (9 : Nat) ≠ 7 by decide)]
  | 20, _, _ => simp only [blk, sU_ne (show (12 : Nat) ≠ 7 by decide)]
  | 21, _, _ => simp only [blk, sU_ne (show (10 : Nat) ≠ 7 by decide)]
  | 22, _, _ => simp only [blk, sU_ne (show (12 : Nat) ≠ 7 by decide)]
  | 23, _, _ => simp only [blk, sU_ne (show (11 : Nat) ≠ 7 by decide)]
  | k + 24, hk, _ => omega
set_option maxRecDepth 20000 in
theorem bu_17 {w : az_W} {a : Nat} {S : az_S} {g : Nat → Int32} : va_up (bw w a S) (a + 17) (.inl (0, 8, .inl g)) = bw w a (va_up S 8 g) := by
  refine bw_up (by decide) (by show _ = _; simp only [blk, sU_eq]) (fun k hk hn => ?_)
  match k, hk, hn with
  | 0, _, _ => simp only [blk, sU_ne (show (12 : Nat) ≠ 8 by decide)]
  | 1, _, _ => rfl
  | 2, _, _ => simp only [blk, sU_ne (show (0 : Nat) ≠ 8 by decide)]
  | 3, _, _ => simp only [blk, sU_ne (show (1 : Nat) ≠ 8 by decide)]
  | 4, _, _ => simp only [blk, sU_ne (show (2 : Nat) ≠ 8 by decide)]
  | 5, _, _ => simp only [blk, sU_ne (show (12 : Nat) ≠ 8 by decide)]
  | 6, _, _ => simp only [blk, sU_ne (show (3 : Nat) ≠ 8 by decide)]
  | 7, _, _ => simp only [blk, sU_ne (show (12 : Nat) ≠ 8 by decide)]
  | 8, _, _ => simp only [blk, sU_ne (show (4 : Nat) ≠ 8 by decide)]
  | 9, _, _ => rfl
  | 10, _, _ => simp only [blk, sU_ne (show (5 : Nat) ≠ 8 by decide)]
  | 11, _, _ => simp only [blk, sU_ne (show (12 : Nat) ≠ 8 by decide)]
  | 12, _, _ => simp only [blk, sU_ne (show (6 : Nat) ≠ 8 by decide)]
  | 13, _, _ => rfl
  | 14, _, _ => simp only [blk, sU_ne (show (7 : Nat) ≠ 8 by decide)]
  | 15, _, _ => rfl
  | 16, _, _ => simp only [blk, sU_ne (show (12 : Nat) ≠ 8 by decide)]
  | 17, _, hn => exact absurd rfl hn
  | 18, _, _ => simp only [blk, sU_ne (show (12 : Nat) ≠ 8 by decide)]
  | 19, _, _ => simp only [blk, sU_ne (show (9 : Nat) ≠ 8 by decide)]
  | 20, _, _ => simp only [blk, sU_ne (show (12 : Nat) ≠ 8 by decide)]
  | 21, _, _ => simp only [blk, sU_ne (show (10 : Nat) ≠ 8 by decide)]
  | 22, _, _ => simp only [blk, sU_ne (show (12 : Nat) ≠ 8 by decide)]
  | 23, _, _ => simp only [blk, sU_ne (show (11 : Nat) ≠ 8 by decide)]
  | k + 24, hk, _ => omega
set_option maxRecDepth 20000 in
theorem bu_19 {w : az_W} {a : Nat} {S : az_S} {g : Nat → Int32} : va_up (bw w a S) (a + 19) (.inl (0, 8, .inl g)) = bw w a (va_up S 9 g) := by
  refine bw_up (by decide) (by show _ = _; simp only [blk, sU_eq]) (fun k hk hn => ?_)
  match k, hk, hn with
  | 0, _, _ => simp only [blk, sU_ne (show (12 : Nat) ≠ 9 by decide)]
  | 1, _, _ => rfl
  | 2, _, _ => simp only [blk, sU_ne (show (0 : Nat) ≠ 9 by decide)]
  | 3, _, _ => simp only [blk, sU_ne (show (1 : Nat) ≠ 9 by decide)]
  | 4, _, _ => simp only [blk, sU_ne (show (2 : Nat) ≠ 9 by decide)]
  | 5, _, _ => simp only [blk, sU_ne (show (12 : Nat) ≠ 9 by decide)]
  | 6, _, _ => simp only [blk, sU_ne (show (3 : Nat) ≠ 9 by decide)]
  | 7, _, _ => simp only [blk, sU_ne (show (12 : Nat) ≠ 9 by decide)]
  | 8, _, _ => simp only [blk, sU_ne (show (4 : Nat) ≠ 9 by decide)]
  | 9, _, _ => rfl
  | 10, _, _ => simp only [blk, sU_ne (show (5 : Nat) ≠ 9 by decide)]
  | 11, _, _ => simp only [blk, sU_ne (show (12 : Nat) ≠ 9 by decide)]
  | 12, _, _ => simp only [blk, sU_ne (show (6 : Nat) ≠ 9 by decide)]
  | 13, _, _ => rfl
  | 14, _, _ => simp only [blk, sU_ne (show (7 : Nat) ≠ 9 by decide)]
  | 15, _, _ => rfl
  | 16, _, _ => simp only [blk, sU_ne (show (12 : Nat) ≠ 9 by decide)]
  | 17, _, _ => simp only [blk, sU_ne (show (8 : Nat) ≠ 9 by decide)]
  | 18, _, _ => simp only [blk, sU_ne (show (12 : Nat) ≠ 9 by decide)]
  | 19, _, hn => exact absurd rfl hn
  | 20, _, _ => simp only [blk, sU_ne (show (12 : Nat) ≠ 9 by decide)]
  | 21, _, _ => simp only [blk, sU_ne (show (10 : Nat) ≠ 9 by decide)]
  | 22, _, _ => simp only [blk, sU_ne (show (12 : Nat) ≠ 9 by decide)]
  | 23, _, _ => simp only [blk, sU_ne (show (11 : Nat) ≠ 9 by decide)]
  | k + 24, hk, _ => omega
set_option maxRecDepth 20000 in
theorem bu_21 {w : az_W} {a : Nat} {S : az_S} {g : Nat → Int32} : va_up (bw w a S) (a + 21) (.inl (0, 8, .inl g)) = bw w a (va_up S 10 g) := by
  refine bw_up (by decide) (by show _ = _; simp only [blk, sU_eq]) (fun k hk hn => ?_)
  match k, hk, hn with
  | 0, _, _ => simp only [blk, sU_ne (show (12 : Nat) ≠ 10 by decide)]
  | 1, _, _ => rfl
  | 2, _, _ => simp only [blk, sU_ne (show (0 : Nat) ≠ 10 by decide)]
  | 3, _, _ => simp only [blk, sU_ne (show (1 : Nat) ≠ 10 by decide)]
  | 4, _, _ => simp only [blk, sU_ne (show (2 : Nat) ≠ 10 by decide)]
  | 5, _, _ => simp only [blk, sU_ne (show (12 : Nat) ≠ 10 by decide)]
  | 6, _, _ => simp only [blk, sU_ne (show (3 : Nat) ≠ 10 by decide)]
  | 7, _, _ => simp only [blk, sU_ne (show (12 : Nat) ≠ 10 by decide)]
  | 8, _, _ => simp only [blk, sU_ne (show (4 : Nat) ≠ 10 by decide)]
  | 9, _, _ => rfl
  | 10, _, _ => simp only [blk, sU_ne (show (5 : Nat) ≠ 10 by decide)]
  | 11, _, _ => simp only [blk, sU_ne (show (12 : Nat) ≠ 10 by decide)]
  | 12, _, _ => simp only [blk, sU_ne (show (6 : Nat) ≠ 10 by decide)]
  | 13, _, _ => rfl
  | 14, _, _ => simp only [blk, sU_ne (show (7 : Nat) ≠ 10 by decide)]
  | 15, _, _ => rfl
  | 16, _, _ => simp only [blk, sU_ne (show (12 : Nat) ≠ 10 by decide)]
  | 17, _, _ => simp only [blk, sU_ne (show (8 : Nat) ≠ 10 by decide)]
  | 18, _, _ => simp only [blk, sU_ne (show (12 : Nat) ≠ 10 by decide)]
  | 19, _, _ => simp only [blk, sU_ne (show (9 : Nat) ≠ 10 by decide)]
  | 20, _, _ => simp only [blk, sU_ne (show (12 : Nat) ≠ 10 by decide)]
  | 21, _, hn => exact absurd rfl hn
  | 22, _, _ => simp only [blk, sU_ne (show (12 : Nat) ≠ 10 by decide)]
  | 23, _, _ => simp only [blk, sU_ne (show (11 : Nat) ≠ 10 by decide)]
  | k + 24, hk, _ => omega
set_option maxRecDepth 20000 in
theorem bu_23 {w : az_W} {a : Nat} {S : az_S} {g : Nat → Int32} : va_up (bw w a S) (a + 23) (.inl (0, 8, .inl g)) = bw w a (va_up S 11 g) := by
  refine bw_up (by decide) (by show _ = _; simp only [blk, sU_eq]) (fun k hk hn => ?_)
  match k, hk, hn with
  | 0, _, _ => simp only [blk, sU_ne (show (12 : Nat) ≠ 11 by decide)]
  | 1, _, _ => rfl
  | 2, _, _ => simp only [blk, sU_ne (show (0 : Nat) ≠ 11 by decide)]
  | 3, _, _ => simp only [blk, sU_ne (show (1 : Nat) ≠ 11 by decide)]
  | 4, _, _ => simp only [blk, sU_ne (show (2 : Nat) ≠ 11 by decide)]
  | 5, _, _ => simp only [blk, sU_ne (show (12 : Nat) ≠ 11 by decide)]
  | 6, _, _ => simp only [blk, sU_ne (show (3 : Nat) ≠ 11 by decide)]
  | 7, _, _ => simp only [blk, sU_ne (show (12 : Nat) ≠ 11 by decide)]
  | 8, _, _ => simp only [blk, sU_ne (show (4 : Nat) ≠ 11 by decide)]
  | 9, _, _ => rfl
  | 10, _, _ => simp only [blk, sU_ne (show (5 : Nat) ≠ 11 by decide)]
  | 11, _, _ => simp only [blk, sU_ne (show (12 : Nat) ≠ 11 by decide)]
  | 12, _, _ => simp only [blk, sU_ne (show (6 : Nat) ≠ 11 by decide)]
  | 13, _, _ => rfl
  | 14, _, _ => simp only [blk, sU_ne (show (7 : Nat) ≠ 11 by decide)]
  | 15, _, _ => rfl
  | 16, _, _ => simp only [blk, sU_ne (show (12 : Nat) ≠ 11 by decide)]
  | 17, _, _ => simp only [blk, sU_ne (show (8 : Nat) ≠ 11 by decide)]
  | 18, _, _ => simp only [blk, sU_ne (show (12 : Nat) ≠ 11 by decide)]
  | 19, _, _ => simp only [blk, sU_ne (show (9 : Nat) ≠ 11 by decide)]
  | 20, _, _ => simp only [blk, sU_ne (show (12 : Nat) ≠ 11 by decide)]
  | 21, _, _ => simp only [blk, sU_ne (show (10 : Nat) ≠ 11 by decide)]
  | 22, _, _ => simp only [blk, sU_ne (show (12 : Nat) ≠ 11 by decide)]
  | 23, _, hn => exact absurd rfl hn
  | k + 24, hk, _ => omega
set_option maxRecDepth 20000 in
theorem bn_0 {w : az_W} {a : Nat} {S : az_S} {x : Int32} : va_up (bw w a S) (a + 5) (.inr (2, List.set [.int (S 12 0), .int (S 12 1), .ref (a + 6)] 0 (.int x))) = bw w a (sN S 0 x) := by
  refine bw_up (c := 5) (by decide) (by simp only [blk, sN_12]; rfl) (fun k hk hn => ?_)
  match k, hk, hn with
  | 0, _, _ => simp only [blk, sN_12]; rfl
  | 1, _, _ => rfl
  | 2, _, _ => simp only [blk, sN_ne (show (0 : Nat) ≠ 12 by decide)]
  | 3, _, _ => simp only [blk, sN_ne (show (1 : Nat) ≠ 12 by decide)]
  | 4, _, _ => simp only [blk, sN_ne (show (2 : Nat) ≠ 12 by decide)]
  | 5, _, hn => exact absurd rfl hn
  | 6, _, _ => simp only [blk, sN_ne (show (3 : Nat) ≠ 12 by decide)]
  | 7, _, _ => simp only [blk, sN_12]; rfl
  | 8, _, _ => simp only [blk, sN_ne (show (4 : Nat) ≠ 12 by decide)]
  | 9, _, _ => rfl
  | 10, _, _ => simp only [blk, sN_ne (show (5 : Nat) ≠ 12 by decide)]
  | 11, _, _ => simp only [blk, sN_12]; rfl
  | 12, _, _ => simp only [blk, sN_ne (show (6 : Nat) ≠ 12 by decide)]
  | 13, _, _ => rfl
  | 14, _, _ => simp only [blk, sN_ne (show (7 : Nat) ≠ 12 by decide)]
  | 15, _, _ => rfl
  | 16, _, _ => simp only [blk, sN_12]; rfl
  | 17, _, _ => simp only [blk, sN_ne (show (8 : Nat) ≠ 12 by decide)]
  | 18, _, _ => simp only [blk, sN_12]; rfl
  | 19, _, _ => simp only [blk, sN_ne (show (9 : Nat) ≠ 12 by decide)]
  | 20, _, _ => simp only [blk, sN_12]; rfl
  | 21, _, _ => simp only [blk, sN_ne (show (10 : Nat) ≠ 12 by decide)]
  | 22, _, _ => simp only [blk, sN_12]; rfl
  | 23, _, _ => simp only [blk, sN_ne (show (11 : Nat) ≠ 12 by decide)]
  | k + 24, hk, _ => omega
set_option maxRecDepth 20000 in
theorem bn_1 {w : az_W} {a : Nat} {S : az_S} {x : Int32} : va_up (bw w a S) (a + 5) (.inr (2, List.set [.int (S 12 0), .int (S 12 1), .ref (a + 6)] 1 (.int x))) = bw w a (sN S 1 x) := by
  refine bw_up (c := 5) (by decide) (by simp only [blk, sN_12]; rfl) (fun k hk hn => ?_)
  match k, hk, hn with
  | 0, _, _ => simp only [blk, sN_12]; rfl
  | 1, _, _ => rfl
  | 2, _, _ => simp only [blk, sN_ne (show (0 : Nat) ≠ 12 by decide)]
  | 3, _, _ => simp only [blk, sN_ne (show (1 : Nat) ≠ 12 by decide)]
  | 4, _, _ => simp only [blk, sN_ne (show (2 : Nat) ≠ 12 by decide)]
  | 5, _, hn => exact absurd rfl hn
  | 6, _, _ => simp only [blk, sN_ne (show (3 : Nat) ≠ 12 by decide)]
  | 7, _, _ => simp only [blk, sN_12]; rfl
  | 8, _, _ => simp only [blk, sN_ne (show (4 : Nat) ≠ 12 by decide)]
  | 9, _, _ => rfl
  | 10, _, _ => simp only [blk, sN_ne (show (5 : Nat) ≠ 12 by decide)]
  | 11, _, _ => simp only [blk, sN_12]; rfl
  | 12, _, _ => simp only [blk, sN_ne (show (6 : Nat) ≠ 12 by decide)]
  | 13, _, _ => rfl
  | 14, _, _ => simp only [blk, sN_ne (show (7 : Nat) ≠ 12 by decide)]
  | 15, _, _ => rfl
  | 16, _, _ => simp only [blk, sN_12]; rfl
  | 17, _, _ => simp only [blk, sN_ne (show (8 : Nat) ≠ 12 by decide)]
  | 18, _, _ => simp only [blk, sN_12]; rfl
  | 19, _, _ => simp only [blk, sN_ne (show (9 : Nat) ≠ 12 by decide)]
  | 20, _, _ => simp only [blk, sN_12]; rfl
  | 21, _, _ => simp only [blk, sN_ne (show (10 : Nat) ≠ 12 by decide)]
  | 22, _, _ => simp only [blk, sN_12]; rfl
  | 23, _, _ => simp only [blk, sN_ne (show (11 : Nat) ≠ 12 by decide)]
  | k + 24, hk, _ => omega
set_option maxRecDepth 20000 in
theorem bn_2 {w : az_W} {a : Nat} {S : az_S} {x : Int32} : va_up (bw w a S) (a + 7) (.inr (2, List.set [.int (S 12 2), .int (S 12 3), .ref (a + 8)] 0 (.int x))) = bw w a (sN S 2 x) := by
  refine bw_up (c := 7) (by decide) (by simp only [blk, sN_12]; rfl) (fun k hk hn => ?_)
  match k, hk, hn with
  | 0, _, _ => simp only [blk, sN_12]; rfl
  | 1, _, _ => rfl
  | 2, _, _ => simp only [blk, sN_ne (show (0 : Nat) ≠ 12 by decide)]
  | 3, _, _ => simp only [blk, sN_ne (show (1 : Nat) ≠ 12 by decide)]
  | 4, _, _ => simp only [blk, sN_ne (show (2 : Nat) ≠ 12 by decide)]
  | 5, _, _ => simp only [blk, sN_12]; rfl
  | 6, _, _ => simp only [blk, sN_ne (show (3 : Nat) ≠ 12 by decide)]
  | 7, _, hn => exact absurd rfl hn
  | 8, _, _ => simp only [blk, sN_ne (show (4 : Nat) ≠ 12 by decide)]
  | 9, _, _ => rfl
  | 10, _, _ => simp only [blk, sN_ne (show (5 : Nat) ≠ 12 by decide)]
  | 11, _, _ => simp only [blk, sN_12]; rfl
  | 12, _, _ => simp only [blk, sN_ne (show (6 : Nat) ≠ 12 by decide)]
  | 13, _, _ => rfl
  | 14, _, _ => simp only [blk, sN_ne (show (7 : Nat) ≠ 12 by decide)]
  | 15, _, _ => rfl
  | 16, _, _ => simp only [blk, sN_12]; rfl
  | 17, _, _ => simp only [blk, sN_ne (show (8 : Nat) ≠ 12 by decide)]
  | 18, _, _ => simp only [blk, sN_12]; rfl
  | 19, _, _ => simp only [blk, sN_ne (show (9 : Nat) ≠ 12 by decide)]
  | 20, _, _ => simp only [blk, sN_12]; rfl
  | 21, _, _ => simp only [blk, sN_ne (show (10 : Nat) ≠ 12 by decide)]
  | 22, _, _ => simp only [blk, sN_12]; rfl
  | 23, _, _ => simp only [blk, sN_ne (show (11 : Nat) ≠ 12 by decide)]
  | k + 24, hk, _ => omega
set_option maxRecDepth 20000 in
theorem bn_3 {w : az_W} {a : Nat} {S : az_S} {x : Int32} : va_up (bw w a S) (a + 7) (.inr (2, List.set [.int (S 12 2), .int (S 12 3), .ref (a + 8)] 1 (.int x))) = bw w a (sN S 3 x) := by
  refine bw_up (c := 7) (by decide) (by simp only [blk, sN_12]; rfl) (fun k hk hn => ?_)
  match k, hk, hn with
  | 0, _, _ => simp only [blk, sN_12]; rfl
  | 1, _, _ => rfl
  | 2, _, _ => simp only [blk, sN_ne (show (0 : Nat) ≠ 12 by decide)]
  | 3, _, _ => simp only [blk, sN_ne (show (1 : Nat) ≠ 12 by decide)]
  | 4, _, _ => simp only [blk, sN_ne (show (2 : Nat) ≠ 12 by decide)]
  | 5, _, _ => simp only [blk, sN_12]; rfl
  | 6, _, _ => simp only [blk, sN_ne (show (3 : Nat) ≠ 12 by decide)]
  | 7, _, hn => exact absurd rfl hn
  | 8, _, _ => simp only [blk, sN_ne (show (4 : Nat) ≠ 12 by decide)]
  | 9, _, _ => rfl
  | 10, _, _ => simp only [blk, sN_ne (show (5 : Nat) ≠ 12 by decide)]
  | 11, _, _ => simp only [blk, sN_12]; rfl
  | 12, _, _ => simp only [blk, sN_ne (show (6 : Nat) ≠ 12 by decide)]
  | 13, _, _ => rfl
  | 14, _, _ => simp only [blk, sN_ne (show (7 : Nat) ≠ 12 by decide)]
  | 15, _, _ => rfl
  | 16, _, _ => simp only [blk, sN_12]; rfl
  | 17, _, _ => simp only [blk, sN_ne (show (8 : Nat) ≠ 12 by decide)]
  | 18, _, _ => simp only [blk, sN_12]; rfl
  | 19, _, _ => simp only [blk, sN_ne (show (9 : Nat) ≠ 12 by decide)]
  | 20, _, _ => simp only [blk, sN_12]; rfl
  | 21, _, _ => simp only [blk, sN_ne (show (10 : Nat) ≠ 12 by decide)]
  | 22, _, _ => simp only [blk, sN_12]; rfl
  | 23, _, _ => simp only [blk, sN_ne (show (11 : Nat) ≠ 12 by decide)]
  | k + 24, hk, _ => omega
set_option maxRecDepth 20000 in
theorem bn_4 {w : az_W} {a : Nat} {S : az_S} {x : Int32} : va_up (bw w a S) (a + 11) (.inr (7, List.set [.int (S 12 4), .int (S 12 5), .ref (a + 12)] 0 (.int x))) = bw w a (sN S 4 x) := by
  refine bw_up (c := 11) (by decide) (by simp only [blk, sN_12]; rfl) (fun k hk hn => ?_)
  match k, hk, hn with
  | 0, _, _ => simp only [blk, sN_12]; rfl
  | 1, _, _ => rfl
  | 2, _, _ => simp only [blk, sN_ne (show (0 : Nat) ≠ 12 by decide)]
  | 3, _, _ => simp only [blk, sN_ne (show (1 : Nat) ≠ 12 by decide)]
  | 4, _, _ => simp only [blk, sN_ne (show (2 : Nat) ≠ 12 by decide)]
  | 5, _, _ => simp only [blk, sN_12]; rfl
  | 6, _, _ => simp only [blk, sN_ne (show (3 : Nat) ≠ 12 by decide)]
  | 7, _, _ => simp only [blk, sN_12]; rfl
  | 8, _, _ => simp only [blk, sN_ne (show (4 : Nat) ≠ 12 by decide)]
  | 9, _, _ => rfl
  | 10, _, _ => simp only [blk, sN_ne (show (5 : Nat) ≠ 12 by decide)]
  | 11, _, hn => exact absurd rfl hn
  | 12, _, _ => simp only [blk, sN_ne (show (6 : Nat) ≠ 12 by decide)]
  | 13, _, _ => rfl
  | 14, _, _ => simp only [blk, sN_ne (show (7 : Nat) ≠ 12 by decide)]
  | 15, _, _ => rfl
  | 16, _, _ => simp only [blk, sN_12]; rfl
  | 17, _, _ => simp only [blk, sN_ne (show (8 : Nat) ≠ 12 by decide)]
  | 18, _, _ => simp only [blk, sN_12]; rfl
  | 19, _, _ => simp only [blk, sN_ne (show (9 : Nat) ≠ 12 by decide)]
  | 20, _, _ => simp only [blk, sN_12]; rfl
  | 21, _, _ => simp only [blk, sN_ne (show (10 : Nat) ≠ 12 by decide)]
  | 22, _, _ => simp only [blk, sN_12]; rfl
  | 23, _, _ => simp only [blk, sN_ne (show (11 : Nat) ≠ 12 by decide)]
  | k + 24, hk, _ => omega
set_option maxRecDepth 20000 in
theorem bn_5 {w : az_W} {a : Nat} {S : az_S} {x : Int32} : va_up (bw w a S) (a + 11) (.inr (7, List.set [.int (S 12 4), .int (S 12 5), .ref (a + 12)] 1 (.int x))) = bw w a (sN S 5 x) := by
  refine bw_up (c := 11) (by decide) (by simp only [blk, sN_12]; rfl) (fun k hk hn => ?_)
  match k, hk, hn with
  | 0, _, _ => simp only [blk, sN_12]; rfl
  | 1, _, _ => rfl
  | 2, _, _ => simp only [blk, sN_ne (show (0 : Nat) ≠ 12 by decide)]
  | 3, _, _ => simp only [blk, sN_ne (show (1 : Nat) ≠ 12 by decide)]
  | 4, _, _ => simp only [blk, sN_ne (show (2 : Nat) ≠ 12 by decide)]
  | 5, _, _ => simp only [blk, sN_12]; rfl
  | 6, _, _ => simp only [blk, sN_ne (show (3 : Nat) ≠ 12 by decide)]
  | 7, _, _ => simp only [blk, sN_12]; rfl
  | 8, _, _ => simp only [blk, sN_ne (show (4 : Nat) ≠ 12 by decide)]
  | 9, _, _ => rfl
  | 10, _, _ => simp only [blk, sN_ne (show (5 : Nat) ≠ 12 by decide)]
  | 11, _, hn => exact absurd rfl hn
  | 12, _, _ => simp only [blk, sN_ne (show (6 : Nat) ≠ 12 by decide)]
  | 13, _, _ => rfl
  | 14, _, _ => simp only [blk, sN_ne (show (7 : Nat) ≠ 12 by decide)]
  | 15, _, _ => rfl
  | 16, _, _ => simp only [blk, sN_12]; rfl
  | 17, _, _ => simp only [blk, sN_ne (show (8 : Nat) ≠ 12 by decide)]
  | 18, _, _ => simp only [blk, sN_12]; rfl
  | 19, _, _ => simp only [blk, sN_ne (show (9 : Nat) ≠ 12 by decide)]
  | 20, _, _ => simp only [blk, sN_12]; rfl
  | 21, _, _ => simp only [blk, sN_ne (show (10 : Nat) ≠ 12 by decide)]
  | 22, _, _ => simp only [blk, sN_12]; rfl
  | 23, _, _ => simp only [blk, sN_ne (show (11 : Nat) ≠ 12 by decide)]
  | k + 24, hk, _ => omega
set_option maxRecDepth 20000 in
theorem bn_6 {w : az_W} {a : Nat} {S : az_S} {x : Int32} : va_up (bw w a S) a (.inr (6, List.set [.ref (a + 1), .ref (a + 5), .ref (a + 7), .ref (a + 9), .ref (a + 11), .ref (a + 13), .int (S 12 6), .int (S 12 7), .int (S 12 8)] 6 (.int x))) = bw w a (sN S 6 x) := by
  refine bw_up (c := 0) (by decide) (by simp only [blk, sN_12]; rfl) (fun k hk hn => ?_)
  match k, hk, hn with
  | 0, _, hn => exact absurd rfl hn
  | 1, _, _ => rfl
  | 2, _, _ => simp only [blk, sN_ne (show (0 : Nat) ≠ 12 by decide)]
  | 3, _, _ => simp only [blk, sN_ne (show (1 : Nat) ≠ 12 by decide)]
  | 4, _, _ => simp only [blk, sN_ne (show (2 : Nat) ≠ 12 by decide)]
  | 5, _, _ => simp only [blk, sN_12]; rfl
  | 6, _, _ => simp only [blk, sN_ne (show (3 : Nat) ≠ 12 by decide)]
  | 7, _, _ => simp only [blk, sN_12]; rfl
  | 8, _, _ => simp only [blk, sN_ne (show (4 : Nat) ≠ 12 by decide)]
  | 9, _, _ => rfl
  | 10, _, _ => simp only [blk, sN_ne (show (5 : Nat) ≠ 12 by decide)]
  | 11, _, _ => simp only [blk, sN_12]; rfl
  | 12, _, _ => simp only [blk, sN_ne (show (6 : Nat) ≠ 12 by decide)]
  | 13, _, _ => rfl
  | 14, _, _ => simp only [blk, sN_ne (show (7 : Nat) ≠ 12 by decide)]
  | 15, _, _ => rfl
  | 16, _, _ => simp only [blk, sN_12]; rfl
  | 17, _, _ => simp only [blk, sN_ne (show (8 : Nat) ≠ 12 by decide)]
  | 18, _, _ => simp only [blk, sN_12]; rfl
  | 19, _, _ => simp only [blk, sN_ne (show (9 : Nat) ≠ 12 by decide)]
  | 20, _, _ => simp only [blk, sN_12]; rfl
  | 21, _, _ => simp only [blk, sN_ne (show (10 : Nat) ≠ 12 by decide)]
  | 22, _, _ => simp only [blk, sN_12]; rfl
  | 23, _, _ => simp only [blk, sN_ne (show (11 : Nat) ≠ 12 by decide)]
  | k + 24, hk, _ => omega
set_option maxRecDepth 20000 in
theorem bn_7 {w : az_W} {a : Nat} {S : az_S} {x : Int32} : va_up (bw w a S) a (.inr (6, List.set [.ref (a + 1), .ref (a + 5), .ref (a + 7), .ref (a + 9), .ref (a + 11), .ref (a + 13), .int (S 12 6), .int (S 12 7), .int (S 12 8)] 7 (.int x))) = bw w a (sN S 7 x) := by
  refine bw_up (c := 0) (by decide) (by simp only [blk, sN_12]; rfl) (fun k hk hn => ?_)
  match k, hk, hn with
  | 0, _, hn => exact absurd rfl hn
  | 1, _, _ => rfl
  | 2, _, _ => simp only [blk, sN_ne (show (0 : Nat) ≠ 12 by decide)]
  | 3, _, _ => simp only [blk, sN_ne (show (1 : Nat) ≠ 12 by decide)]
  | 4, _, _ => simp only [blk, sN_ne (show (2 : Nat) ≠ 12 by decide)]
  | 5, _, _ => simp only [blk, sN_12]; rfl
  | 6, _, _ => simp only [blk, sN_ne (show (3 : Nat) ≠ 12 by decide)]
  | 7, _, _ => simp only [blk, sN_12]; rfl
  | 8, _, _ => simp only [blk, sN_ne (show (4 : Nat) ≠ 12 by decide)]
  | 9, _, _ => rfl
  | 10, _, _ => simp only [blk, sN_ne (show (5 : Nat) ≠ 12 by decide)]
  | 11, _, _ => simp only [blk, sN_12]; rfl
  | 12, _, _ => simp only [blk, sN_ne (show (6 : Nat) ≠ 12 by decide)]
  | 13, _, _ => rfl
  | 14, _, _ => simp only [blk, sN_ne (show (7 : Nat) ≠ 12 by decide)]
  | 15, _, _ => rfl
  | 16, _, _ => simp only [blk, sN_12]; rfl
  | 17, _, _ => simp only [blk, sN_ne (show (8 : Nat) ≠ 12 by decide)]
  | 18, _, _ => simp only [blk, sN_12]; rfl
  | 19, _, _ => simp only [blk, sN_ne (show (9 : Nat) ≠ 12 by decide)]
  | 20, _, _ => simp only [blk, sN_12]; rfl
  | 21, _, _ => simp only [blk, sN_ne (show (10 : Nat) ≠ 12 by decide)]
  | 22, _, _ => simp only [blk, sN_12]; rfl
  | 23, _, _ => simp only [blk, sN_ne (show (11 : Nat) ≠ 12 by decide)]
  | k + 24, hk, _ => omega
set_option maxRecDepth 20000 in
theorem bn_8 {w : az_W} {a : Nat} {S : az_S} {x : Int32} : va_up (bw w a S) a (.inr (6, List.set [.ref (a + 1), .ref (a + 5), .ref (a + 7), .ref (a + 9), .ref (a + 11), .ref (a + 13), .int (S 12 6), .int (S 12 7), .int (S 12 8)] 8 (.int x))) = bw w a (sN S 8 x) := by
  refine bw_up (c := 0) (by decide) (by simp only [blk, sN_12]; rfl) (fun k hk hn => ?_)
  match k, hk, hn with
  | 0, _, hn => exact absurd rfl hn
  | 1, _, _ => rfl
  | 2, _, _ => simp only [blk, sN_ne (show (0 : Nat) ≠ 12 by decide)]
  | 3, _, _ => simp only [blk, sN_ne (show (1 : Nat) ≠ 12 by decide)]
  | 4, _, _ => simp only [blk, sN_ne (show (2 : Nat) ≠ 12 by decide)]
  | 5, _, _ => simp only [blk, sN_12]; rfl
  | 6, _, _ => simp only [blk, sN_ne (show (3 : Nat) ≠ 12 by decide)]
  | 7, _, _ => simp only [blk, sN_12]; rfl
  | 8, _, _ => simp only [blk, sN_ne (show (4 : Nat) ≠ 12 by decide)]
  | 9, _, _ => rfl
  | 10, _, _ => simp only [blk, sN_ne (show (5 : Nat) ≠ 12 by decide)]
  | 11, _, _ => simp only [blk, sN_12]; rfl
  | 12, _, _ => simp only [blk, sN_ne (show (6 : Nat) ≠ 12 by decide)]
  | 13, _, _ => rfl
  | 14, _, _ => simp only [blk, sN_ne (show (7 : Nat) ≠ 12 by decide)]
  | 15, _, _ => rfl
  | 16, _, _ => simp only [blk, sN_12]; rfl
  | 17, _, _ => simp only [blk, sN_ne (show (8 : Nat) ≠ 12 by decide)]
  | 18, _, _ => simp only [blk, sN_12]; rfl
  | 19, _, _ => simp only [blk, sN_ne (show (9 : Nat) ≠ 12 by decide)]
  | 20, _, _ => simp only [blk, sN_12]; rfl
  | 21, _, _ => simp only [blk, sN_ne (show (10 : Nat) ≠ 12 by decide)]
  | 22, _, _ => simp only [blk, sN_12]; rfl
  | 23, _, _ => simp only [blk, sN_ne (show (11 : Nat) ≠ 12 by decide)]
  | k + 24, hk, _ => omega
set_option maxRecDepth 20000 in
theorem bn_9 {w : az_W} {a : Nat} {S : az_S} {x : Int32} : va_up (bw w a S) (a + 16) (.inr (2, List.set [.int (S 12 9), .int (S 12 10), .ref (a + 17)] 0 (.int x))) = bw w a (sN S 9 x) := by
  refine bw_up (c := 16) (by decide) (by simp only [blk, sN_12]; rfl) (fun k hk hn => ?_)
  match k, hk, hn with
  | 0, _, _ => simp only [blk, sN_12]; rfl
  | 1, _, _ => rfl
  | 2, _, _ => simp only [blk, sN_ne (show (0 : Nat) ≠ 12 by decide)]
  | 3, _, _ => simp only [blk, sN_ne (show (1 : Nat) ≠ 12 by decide)]
  | 4, _, _ => simp only [blk, sN_ne (show (2 : Nat) ≠ 12 by decide)]
  | 5, _, _ => simp only [blk, sN_12]; rfl
  | 6, _, _ => simp only [blk, sN_ne (show (3 : Nat) ≠ 12 by decide)]
  | 7, _, _ => simp only [blk, sN_12]; rfl
  | 8, _, _ => simp only [blk, sN_ne (show (4 : Nat) ≠ 12 by decide)]
  | 9, _, _ => rfl
  | 10, _, _ => simp only [blk, sN_ne (show (5 : Nat) ≠ 12 by decide)]
  | 11, _, _ => simp only [blk, sN_12]; rfl
  | 12, _, _ => simp only [blk, sN_ne (show (6 : Nat) ≠ 12 by decide)]
  | 13, _, _ => rfl
  | 14, _, _ => simp only [blk, sN_ne (show (7 : Nat) ≠ 12 by decide)]
  | 15, _, _ => rfl
  | 16, _, hn => exact absurd rfl hn
  | 17, _, _ => simp only [blk, sN_ne (show (8 : Nat) ≠ 12 by decide)]
  | 18, _, _ => simp only [blk, sN_12]; rfl
  | 19, _, _ => simp only [blk, sN_ne (show (9 : Nat) ≠ 12 by decide)]
  | 20, _, _ => simp only [blk, sN_12]; rfl
  | 21, _, _ => simp only [blk, sN_ne (show (10 : Nat) ≠ 12 by decide)]
  | 22, _, _ => simp only [blk, sN_12]; rfl
  | 23, _, _ => simp only [blk, sN_ne (show (11 : Nat) ≠ 12 by decide)]
  | k + 24, hk, _ => omega
set_option maxRecDepth 20000 in
theorem bn_10 {w : az_W} {a : Nat} {S : az_S} {x : Int32} : va_up (bw w a S) (a + 16) (.inr (2, List.set [.int (S 12 9), .int (S 12 10), .ref (a + 17)] 1 (.int x))) = bw w a (sN S 10 x) := by
  refine bw_up (c := 16) (by decide) (by simp only [blk, sN_12]; rfl) (fun k hk hn => ?_)
  match k, hk, hn with
  | 0, _, _ => simp only [blk, sN_12]; rfl
  | 1, _, _ => rfl
  | 2, _, _ => simp only [blk, sN_ne (show (0 : Nat) ≠ 12 by decide)]
  | 3, _, _ => simp only [blk, sN_ne (show (1 : Nat) ≠ 12 by decide)]
  | 4, _, _ => simp only [blk, sN_ne (show (2 : Nat) ≠ 12 by decide)]
  | 5, _, _ => simp only [blk, sN_12]; rfl
  | 6, _, _ => simp only [blk, sN_ne (show (3 : Nat) ≠ 12 by decide)]
  | 7, _, _ => simp only [blk, sN_12]; rfl
  | 8, _, _ => simp only [blk, sN_ne (show (4 : Nat) ≠ 12 by decide)]
  | 9, _, _ => rfl
  | 10, _, _ => simp only [blk, sN_ne (show (5 : Nat) ≠ 12 by decide)]
  | 11, _, _ => simp only [blk, sN_12]; rfl
  | 12, _, _ => simp only [blk, sN_ne (show (6 : Nat) ≠ 12 by decide)]
  | 13, _, _ => rfl
  | 14, _, _ => simp only [blk, sN_ne (show (7 : Nat) ≠ 12 by decide)]
  | 15, _, _ => rfl
  | 16, _, hn => exact absurd rfl hn
  | 17, _, _ => simp only [blk, sN_ne (show (8 : Nat) ≠ 12 by decide)]
  | 18, _, _ => simp only [blk, sN_12]; rfl
  | 19, _, _ => simp only [blk, sN_ne (show (9 : Nat) ≠ 12 by decide)]
  | 20, _, _ => simp only [blk, sN_12]; rfl
  | 21, _, _ => simp only [blk, sN_ne (show (10 : Nat) ≠ 12 by decide)]
  | 22, _, _ => simp only [blk, sN_12]; rfl
  | 23, _, _ => simp only [blk, sN_ne (show (11 : Nat) ≠ 12 by decide)]
  | k + 24, hk, _ => omega
set_option maxRecDepth 20000 in
theorem bn_11 {w : az_W} {a : Nat} {S : az_S} {x : Int32} : va_up (bw w a S) (a + 18) (.inr (2, List.set [.int (S 12 11), .int (S 12 12), .ref (a + 19)] 0 (.int x))) = bw w a (sN S 11 x) := by
  refine bw_up (c := 18) (by decide) (by simp only [blk, sN_12]; rfl) (fun k hk hn => ?_)
  match k, hk, hn with
  | 0, _, _ => simp only [blk, sN_12]; rfl
  | 1, _, _ => rfl
  | 2, _, _ => simp only [blk, sN_ne (show (0 : Nat) ≠ 12 by decide)]
  | 3, _, _ => simp only [blk, sN_ne (show (1 : Nat) ≠ 12 by decide)]
  | 4, _, _ => simp only [blk, sN_ne (show (2 : Nat) ≠ 12 by decide)]
  | 5, _, _ => simp only [blk, sN_12]; rfl
  | 6, _, _ => simp only [blk, sN_ne (show (3 : Nat) ≠ 12 by decide)]
  | 7, _, _ => simp only [blk, sN_12]; rfl
  | 8, _, _ => simp only [blk, sN_ne (show (4 : Nat) ≠ 12 by decide)]
  | 9, _, _ => rfl
  | 10, _, _ => simp only [blk, sN_ne (show (5 : Nat) ≠ 12 by decide)]
  | 11, _, _ => simp only [blk, sN_12]; rfl
  | 12, _, _ => simp only [blk, sN_ne (show (6 : Nat) ≠ 12 by decide)]
  | 13, _, _ => rfl
  | 14, _, _ => simp only [blk, sN_ne (show (7 : Nat) ≠ 12 by decide)]
  | 15, _, _ => rfl
  | 16, _, _ => simp only [blk, sN_12]; rfl
  | 17, _, _ => simp only [blk, sN_ne (show (8 : Nat) ≠ 12 by decide)]
  | 18, _, hn => exact absurd rfl hn
  | 19, _, _ => simp only [blk, sN_ne (show (9 : Nat) ≠ 12 by decide)]
  | 20, _, _ => simp only [blk, sN_12]; rfl
  | 21, _, _ => simp only [blk, sN_ne (show (10 : Nat) ≠ 12 by decide)]
  | 22, _, _ => simp only [blk, sN_12]; rfl
  | 23, _, _ => simp only [blk, sN_ne (show (11 : Nat) ≠ 12 by decide)]
  | k + 24, hk, _ => omega
set_option maxRecDepth 20000 in
theorem bn_12 {w : az_W} {a : Nat} {S : az_S} {x : Int32} : va_up (bw w a S) (a + 18) (.inr (2, List.set [.int (S 12 11), .int (S 12 12), .ref (a + 19)] 1 (.int x))) = bw w a (sN S 12 x) := by
  refine bw_up (c := 18) (by decide) (by simp only [blk, sN_12]; rfl) (fun k hk hn => ?_)
  match k, hk, hn with
  | 0, _, _ => simp only [blk, sN_12]; rfl
  | 1, _, _ => rfl
  | 2, _, _ => simp only [blk, sN_ne (show (0 : Nat) ≠ 12 by decide)]
  | 3, _, _ => simp only [blk, sN_ne (show (1 : Nat) ≠ 12 by decide)]
  | 4, _, _ => simp only [blk, sN_ne (show (2 : Nat) ≠ 12 by decide)]
  | 5, _, _ => simp only [blk, sN_12]; rfl
  | 6, _, _ => simp only [blk, sN_ne (show (3 : Nat) ≠ 12 by decide)]
  | 7, _, _ => simp only [blk, sN_12]; rfl
  | 8, _, _ => simp only [blk, sN_ne (show (4 : Nat) ≠ 12 by decide)]
  | 9, _, _ => rfl
  | 10, _, _ => simp only [blk, sN_ne (show (5 : Nat) ≠ 12 by decide)]
  | 11, _, _ => simp only [blk, sN_12]; rfl
  | 12, _, _ => simp only [blk, sN_ne (show (6 : Nat) ≠ 12 by decide)]
  | 13, _, _ => rfl
  | 14, _, _ => simp only [blk, sN_ne (show (7 : Nat) ≠ 12 by decide)]
  | 15, _, _ => rfl
  | 16, _, _ => simp only [blk, sN_12]; rfl
  | 17, _, _ => simp only [blk, sN_ne (show (8 : Nat) ≠ 12 by decide)]
  | 18, _, hn => exact absurd rfl hn
  | 19, _, _ => simp only [blk, sN_ne (show (9 : Nat) ≠ 12 by decide)]
  | 20, _, _ => simp only [blk, sN_12]; rfl
  | 21, _, _ => simp only [blk, sN_ne (show (10 : Nat) ≠ 12 by decide)]
  | 22, _, _ => simp only [blk, sN_12]; rfl
  | 23, _, _ => simp only [blk, sN_ne (show (11 : Nat) ≠ 12 by decide)]
  | k + 24, hk, _ => omega
set_option maxRecDepth 20000 in
theorem bn_13 {w : az_W} {a : Nat} {S : az_S} {x : Int32} : va_up (bw w a S) (a + 20) (.inr (2, List.set [.int (S 12 13), .int (S 12 14), .ref (a + 21)] 0 (.int x))) = bw w a (sN S 13 x) := by
  refine bw_up (c := 20) (by decide) (by simp only [blk, sN_12]; rfl) (fun k hk hn => ?_)
  match k, hk, hn with
  | 0, _, _ => simp only [blk, sN_12]; rfl
  | 1, _, _ => rfl
  | 2, _, _ => simp only [blk, sN_ne (show (0 : Nat) ≠ 12 by decide)]
  | 3, _, _ => simp only [blk, sN_ne (show (1 : Nat) ≠ 12 by decide)]
  | 4, _, _ => simp only [blk, sN_ne (show (2 : Nat) ≠ 12 by decide)]
  | 5, _, _ => simp only [blk, sN_12]; rfl
  | 6, _, _ => simp only [blk, sN_ne (show (3 : Nat) ≠ 12 by decide)]
  | 7, _, _ => simp only [blk, sN_12]; rfl
  | 8, _, _ => simp only [blk, sN_ne (show (4 : Nat) ≠ 12 by decide)]
  | 9, _, _ => rfl
  | 10, _, _ => simp only [blk, sN_ne (show (5 : Nat) ≠ 12 by decide)]
  | 11, _, _ => simp only [blk, sN_12]; rfl
  | 12, _, _ => simp only [blk, sN_ne (show (6 : Nat) ≠ 12 by decide)]
  | 13, _, _ => rfl
  | 14, _, _ => simp only [blk, sN_ne (show (7 : Nat) ≠ 12 by decide)]
  | 15, _, _ => rfl
  | 16, _, _ => simp only [blk, sN_12]; rfl
  | 17, _, _ => simp only [blk, sN_ne (show (8 : Nat) ≠ 12 by decide)]
  | 18, _, _ => simp only [blk, sN_12]; rfl
  | 19, _, _ => simp only [blk, sN_ne (show (9 : Nat) ≠ 12 by decide)]
  | 20, _, hn => exact absurd rfl hn
  | 21, _, _ => simp only [blk, sN_ne (show (10 : Nat) ≠ 12 by decide)]
  | 22, _, _ => simp only [blk, sN_12]; rfl
  | 23, _, _ => simp only [blk, sN_ne (show (11 : Nat) ≠ 12 by decide)]
  | k + 24, hk, _ => omega
set_option maxRecDepth 20000 in
theorem bn_14 {w : az_W} {a : Nat} {S : az_S} {x : Int32} : va_up (bw w a S) (a + 20) (.inr (2, List.set [.int (S 12 13), .int (S 12 14), .ref (a + 21)] 1 (.int x))) = bw w a (sN S 14 x) := by
  refine bw_up (c := 20) (by decide) (by simp only [blk, sN_12]; rfl) (fun k hk hn => ?_)
  match k, hk, hn with
  | 0, _, _ => simp only [blk, sN_12]; rfl
  | 1, _, _ => rfl
  | 2, _, _ => simp only [blk, sN_ne (show (0 : Nat) ≠ 12 by decide)]
  | 3, _, _ => simp only [blk, sN_ne (show (1 : Nat) ≠ 12 by decide)]
  | 4, _, _ => simp only [blk, sN_ne (show (2 : Nat) ≠ 12 by decide)]
  | 5, _, _ => simp only [blk, sN_12]; rfl
  | 6, _, _ => simp only [blk, sN_ne (show (3 : Nat) ≠ 12 by decide)]
  | 7, _, _ => simp only [blk, sN_12]; rfl
  | 8, _, _ => simp only [blk, sN_ne (show (4 : Nat) ≠ 12 by decide)]
  | 9, _, _ => rfl
  | 10, _, _ => simp only [blk, sN_ne (show (5 : Nat) ≠ 12 by decide)]
  | 11, _, _ => simp only [blk, sN_12]; rfl
  | 12, _, _ => simp only [blk, sN_ne (show (6 : Nat) ≠ 12 by decide)]
  | 13, _, _ => rfl
  | 14, _, _ => simp only [blk, sN_ne (show (7 : Nat) ≠ 12 by decide)]
  | 15, _, _ => rfl
  | 16, _, _ => simp only [blk, sN_12]; rfl
  | 17, _, _ => simp only [blk, sN_ne (show (8 : Nat) ≠ 12 by decide)]
  | 18, _, _ => simp only [blk, sN_12]; rfl
  | 19, _, _ => simp only [blk, sN_ne (show (9 : Nat) ≠ 12 by decide)]
  | 20, _, hn => exact absurd rfl hn
  | 21, _, _ => simp only [blk, sN_ne (show (10 : Nat) ≠ 12 by decide)]
  | 22, _, _ => simp only [blk, sN_12]; rfl
  | 23, _, _ => simp only [blk, sN_ne (show (11 : Nat) ≠ 12 by decide)]
  | k + 24, hk, _ => omega
set_option maxRecDepth 20000 in
theorem bn_15 {w : az_W} {a : Nat} {S : az_S} {x : Int32} : va_up (bw w a S) (a + 22) (.inr (2, List.set [.int (S 12 15), .int (S 12 16), .ref (a + 23)] 0 (.int x))) = bw w a (sN S 15 x) := by
  refine bw_up (c := 22) (by decide) (by simp only [blk, sN_12]; rfl) (fun k hk hn => ?_)
  match k, hk, hn with
  | 0, _, _ => simp only [blk, sN_12]; rfl
  | 1, _, _ => rfl
  | 2, _, _ => simp only [blk, sN_ne (show (0 : Nat) ≠ 12 by decide)]
  | 3, _, _ => simp only [blk, sN_ne (show (1 : Nat) ≠ 12 by decide)]
  | 4, _, _ => simp only [blk, sN_ne (show (2 : Nat) ≠ 12 by decide)]
  | 5, _, _ => simp only [blk, sN_12]; rfl
  | 6, _, _ => simp only [blk, sN_ne (show (3 : Nat) ≠ 12 by decide)]
  | 7, _, _ => simp only [blk, sN_12]; rfl
  | 8, _, _ => simp only [blk, sN_ne (show (4 : Nat) ≠ 12 by decide)]
  | 9, _, _ => rfl
  | 10, _, _ => simp only [blk, sN_ne (show (5 : Nat) ≠ 12 by decide)]
  | 11, _, _ => simp only [blk, sN_12]; rfl
  | 12, _, _ => simp only [blk, sN_ne (show (6 : Nat) ≠ 12 by decide)]
  | 13, _, _ => rfl
  | 14, _, _ => simp only [blk, sN_ne (show (7 : Nat) ≠ 12 by decide)]
  | 15, _, _ => rfl
  | 16, _, _ => simp only [blk, sN_12]; rfl
  | 17, _, _ => simp only [blk, sN_ne (show (8 : Nat) ≠ 12 by decide)]
  | 18, _, _ => simp only [blk, sN_12]; rfl
  | 19, _, _ => simp only [blk, sN_ne (show (9 : Nat) ≠ 12 by decide)]
  | 20, _, _ => simp only [blk, sN_12]; rfl
  | 21, _, _ => simp only [blk, sN_ne (show (10 : Nat) ≠ 12 by decide)]
  | 22, _, hn => exact absurd rfl hn
  | 23, _, _ => simp only [blk, sN_ne (show (11 : Nat) ≠ 12 by decide)]
  | k + 24, hk, _ => omega
set_option maxRecDepth 20000 in
theorem bn_16 {w : az_W} {a : Nat} {S : az_S} {x : Int32} : va_up (bw w a S) (a + 22) (.inr (2, List.set [.int (S 12 15), .int (S 12 16), .ref (a + 23)] 1 (.int x))) = bw w a (sN S 16 x) := by
  refine bw_up (c := 22) (by decide) (by simp only [blk, sN_12]; rfl) (fun k hk hn => ?_)
  match k, hk, hn with
  | 0, _, _ => simp only [blk, sN_12]; rfl
  | 1, _, _ => rfl
  | 2, _, _ => simp only [blk, sN_ne (show (0 : Nat) ≠ 12 by decide)]
  | 3, _, _ => simp only [blk, sN_ne (show (1 : Nat) ≠ 12 by decide)]
  | 4, _, _ => simp only [blk, sN_ne (show (2 : Nat) ≠ 12 by decide)]
  | 5, _, _ => simp only [blk, sN_12]; rfl
  | 6, _, _ => simp only [blk, sN_ne (show (3 : Nat) ≠ 12 by decide)]
  | 7, _, _ => simp only [blk, sN_12]; rfl
  | 8, _, _ => simp only [blk, sN_ne (show (4 : Nat) ≠ 12 by decide)]
  | 9, _, _ => rfl
  | 10, _, _ => simp only [blk, sN_ne (show (5 : Nat) ≠ 12 by decide)]
  | 11, _, _ => simp only [blk, sN_12]; rfl
  | 12, _, _ => simp only [blk, sN_ne (show (6 : Nat) ≠ 12 by decide)]
  | 13, _, _ => rfl
  | 14, _, _ => simp only [blk, sN_ne (show (7 : Nat) ≠ 12 by decide)]
  | 15, _, _ => rfl
  | 16, _, _ => simp only [blk, sN_12]; rfl
  | 17, _, _ => simp only [blk, sN_ne (show (8 : Nat) ≠ 12 by decide)]
  | 18, _, _ => simp only [blk, sN_12]; rfl
  | 19, _, _ => simp only [blk, sN_ne (show (9 : Nat) ≠ 12 by decide)]
  | 20, _, _ => simp only [blk, sN_12]; rfl
  | 21, _, _ => simp only [blk, sN_ne (show (10 : Nat) ≠ 12 by decide)]
  | 22, _, hn => exact absurd rfl hn
  | 23, _, _ => simp only [blk, sN_ne (show (11 : Nat) ≠ 12 by decide)]
  | k + 24, hk, _ => omega
