/-! methods' runs, laid by wip/whole/walk.py out of wip/whole/specs3.py -/
/-! pure words of a State: what its methods answer, out of its picture -/
def tA (a : Nat) (m : Int32) : Nat := if m = 0 then a + 5 else a + 7
def tB (a : Nat) (m : Int32) : Nat := if m = 0 then a + 6 else a + 8
def tN (S : az_S) (m : Int32) : Int32 := if m = 0 then S 12 0 else S 12 2
def tT (S : az_S) (m : Int32) : Int32 := if m = 0 then S 12 1 else S 12 3
def tb (S : az_S) (m : Int32) : Nat → Int32 := if m = 0 then S 3 else S 4
theorem bw_tA {w : az_W} {a : Nat} {S : az_S} (m : Int32) : bw w a S (tA a m) = .inr (2, [.int (tN S m), .int (tT S m), .ref (tB a m)]) := by
  unfold tA tN tT tB
  by_cases h : m = 0
  · simp only [if_pos h]; exact bw_5
  · simp only [if_neg h]; exact bw_7
theorem bw_tB {w : az_W} {a : Nat} {S : az_S} (m : Int32) : bw w a S (tB a m) = .inl (0, 8, .inl (tb S m)) := by
  unfold tB tb
  by_cases h : m = 0
  · simp only [if_pos h]; exact bw_6
  · simp only [if_neg h]; exact bw_8
theorem bw_G {w : az_W} {a r : Nat} {S : az_S} (h : r < 4) : bw w a S (a + 16 + 2 * r) = .inr (2, [.int (S 12 (9 + 2 * r)), .int (S 12 (10 + 2 * r)), .ref (a + 17 + 2 * r)]) := by
  match r, h with
  | 0, _ => exact bw_16
  | 1, _ => exact bw_18
  | 2, _ => exact bw_20
  | 3, _ => exact bw_22
theorem bw_H {w : az_W} {a r : Nat} {S : az_S} (h : r < 4) : bw w a S (a + 17 + 2 * r) = .inl (0, 8, .inl (S (8 + r))) := by
  match r, h with
  | 0, _ => exact bw_17
  | 1, _ => exact bw_19
  | 2, _ => exact bw_21
  | 3, _ => exact bw_23
def cO (S : az_S) : Nat → Int32 := tb S (S 12 6)
theorem nI_le0 {k : Nat} (h : k < 2 ^ 31) : nI k ≤ 0 ↔ k = 0 := by
  rw [← nI_0, nI_leI h (by decide)]
  omega
theorem nI_eq0 {k : Nat} (h : k < 2 ^ 31) : nI k = 0 ↔ k = 0 := by
  rw [← nI_0, nI_eq h (by decide)]
/-- the first page whose cell is c -/
def fc (f : Nat → Int32) (c : Int32) : Int32 := fi (fun i => decide (f i = c)) 8
def cbo (S : az_S) (p : Int32) : Int32 := ix 24 (-5) (S 0) (ix 8 (-5) (cO S) p)
def cbd (S : az_S) (p : Int32) : Int32 := if ix 8 (-1) (S 5) p = -1 then cbo S p else ix 8 (-1) (S 5) p
def hmB (S : az_S) (c : Int32) (r : Nat) : Bool := decide (¬ S 7 r = 0) && decide (¬ fc (S (8 + r)) c = -5)
def hm (S : az_S) (c : Int32) : Nat := cnt (hmB S c) 4
theorem hm_lt (S : az_S) (c : Int32) : hm S c < 2 ^ 31 := Nat.lt_of_le_of_lt (cnt_le _ 4) (by decide)
def frB (S : az_S) (c : Int32) : Bool := decide (fc (cO S) c = -5) && (decide (hm S c = 0) && decide (fc (S 6) c = -5))
def roB (S : az_S) (c : Int32) : Bool := decide (¬ hm S c = 0) && (decide (fc (cO S) c = -5) && decide (fc (S 6) c = -5))
theorem hmB_1 {S : az_S} {c : Int32} {r : Nat} (h : S 7 r = 0) : hmB S c r = false := by rw [hmB, decide_eq_false (fun q => q h)]; rfl
theorem hmB_2 {S : az_S} {c : Int32} {r : Nat} (h : fc (S (8 + r)) c = -5) : hmB S c r = false := by rw [hmB, decide_eq_false (p := ¬ fc (S (8 + r)) c = -5) (fun q => q h), Bool.and_false]
theorem hmB_t {S : az_S} {c : Int32} {r : Nat} (h : ¬ S 7 r = 0) (h2 : ¬ fc (S (8 + r)) c = -5) : hmB S c r = true := by rw [hmB, decide_eq_true h, decide_eq_true h2]; rfl
theorem frB_1 {S : az_S} {c : Int32} (h : ¬ fc (cO S) c = -5) : frB S c = false := by rw [frB, decide_eq_false h]; rfl
theorem frB_2 {S : az_S} {c : Int32} (h : ¬ hm S c = 0) : frB S c = false := by rw [frB, decide_eq_false h, Bool.false_and, Bool.and_false]
theorem frB_3 {S : az_S} {c : Int32} (h : ¬ fc (S 6) c = -5) : frB S c = false := by rw [frB, decide_eq_false h, Bool.and_false, Bool.and_false]
theorem frB_t {S : az_S} {c : Int32} (h1 : fc (cO S) c = -5) (h2 : hm S c = 0) (h3 : fc (S 6) c = -5) : frB S c = true := by rw [frB, decide_eq_true h1, decide_eq_true h2, decide_eq_true h3]; rfl
theorem roB_1 {S : az_S} {c : Int32} (h : hm S c = 0) : roB S c = false := by rw [roB, decide_eq_false (fun q => q h)]; rfl
theorem roB_2 {S : az_S} {c : Int32} (h : ¬ fc (cO S) c = -5) : roB S c = false := by rw [roB, decide_eq_false h, Bool.false_and, Bool.and_false]
theorem roB_3 {S : az_S} {c : Int32} (h : ¬ fc (S 6) c = -5) : roB S c = false := by rw [roB, decide_eq_false h, Bool.and_false, Bool.and_false]
theorem roB_t {S : az_S} {c : Int32} (h1 : fc (cO S) c = -5) (h2 : ¬ hm S c = 0) (h3 : fc (S 6) c = -5) : roB S c = true := by rw [roB, decide_eq_true h1, decide_eq_true h2, decide_eq_true h3]; rfl
def cw (S : az_S) : Nat → Int32
  | 0 => -5
  | n + 1 => if frB S (nI n) = true then (if cw S n = -5 then nI n else if ix 24 0 (S 2) (cw S n) ≤ ix 24 0 (S 2) (nI n) then cw S n else nI n) else cw S n
def pC (S : az_S) : Nat → Bool := fun i => decide (¬ S 5 i < 0)
def cN (S : az_S) : Nat := cnt (pC S) 8
/-- the page of a content -/
def pq (S : az_S) (p : Int32) : Int32 := fi (fun i => decide (¬ S 5 i < 0) && decide (nI (cnt (fun i => decide (¬ S 5 i < 0)) i) = p)) 8
def sO (S : az_S) : Int32 := if S 12 4 = 0 then 0 else nI (cN S) + 2 - S 12 5
def cOw (S : az_S) : Int32 := if sO S - 2 ≤ 0 then 0 else sO S - 2
def kO (S : az_S) (p : Int32) : Int32 := if cOw S ≤ p then (if ¬ p = sO S - 1 then 1 else 2) else 0
def pO (S : az_S) (p : Int32) : Int32 := if kO S p = 0 then pq S (S 12 5 + p) else -5
def cgB (S : az_S) : Bool := decide (¬ S 12 4 = 0) && (decide (¬ kO S 0 = 0) || decide (¬ cw S 24 = -5))
theorem cgB_1 {S : az_S} (h : S 12 4 = 0) : cgB S = false := by rw [cgB, decide_eq_false (fun q => q h)]; rfl
theorem cgB_2 {S : az_S} (h : ¬ S 12 4 = 0) (h2 : ¬ kO S 0 = 0) : cgB S = true := by rw [cgB, decide_eq_true h, decide_eq_true h2]; rfl
theorem cgB_3 {S : az_S} (h2 : kO S 0 = 0) (h3 : cw S 24 = -5) : cgB S = false := by rw [cgB, decide_eq_false (p := ¬ kO S 0 = 0) (fun q => q h2), decide_eq_false (p := ¬ cw S 24 = -5) (fun q => q h3), Bool.or_false, Bool.and_false]
theorem cgB_4 {S : az_S} (h : ¬ S 12 4 = 0) (h3 : ¬ cw S 24 = -5) : cgB S = true := by rw [cgB, decide_eq_true h, decide_eq_true h3, Bool.or_true]; rfl
def hsB (S : az_S) (r : Int32) : Bool := decide (¬ ix 4 0 (S 7) r = 0)
theorem hsB_nI {S : az_S} {p : Int32} (h : hsB S p = true) : ∃ j : Nat, j < 4 ∧ p = nI j := by
  have h1 := of_decide_eq_true h
  cases hp : pgn 4 p with
  | true => exact pgn_nI hp (by decide)
  | false => exact absurd (ix_out hp) h1

set_option maxRecDepth 20000 in
theorem s_has {X : az_X} {w : az_W} {sz sl : Nat} {a : Nat} {S : az_S} {p : Int32}  : az_M X 49 [.ref (a + 13), .int p] (bw w a S) sz sl (some (.int (zb (hsB S p))), (bw w a S), sz, sl) := by
  refine az_Mof hd49 ?_
  show az_Ev X 49 0 [.ref (a + 13), .int p] [] (bw w a S) sz sl _
  refine E_il1 k49_0 ?_
  refine E_iflt k49_1 (fun c1 => ?_) (fun d1 => ?_)
  · skip
    refine E_iconst k49_12 ?_
    exact E_zret k49_13 hd49 rfl (by first | exact Or.inl rfl | exact Or.inr rfl | exact zb01 _ | assumption) (by first | (rw [hsB, ix_out (pgn_neg c1)]; rfl) | (rw [hsB, ix_out (pgn_big rfl c4)]; rfl) | (rw [hsB, ix_in hj (by decide), decide_eq_false (fun q => q c9)]; rfl) | (rw [hsB, ix_in hj (by decide), decide_eq_true d9]; rfl))
  · skip
    refine E_il1 k49_2 ?_
    refine E_iconst k49_3 ?_
    refine E_icge k49_4 (fun c4 => ?_) (fun d4 => ?_)
    · skip
      refine E_iconst k49_12 ?_
      exact E_zret k49_13 hd49 rfl (by first | exact Or.inl rfl | exact Or.inr rfl | exact zb01 _ | assumption) (by first | (rw [hsB, ix_out (pgn_neg c1)]; rfl) | (rw [hsB, ix_out (pgn_big rfl c4)]; rfl) | (rw [hsB, ix_in hj (by decide), decide_eq_false (fun q => q c9)]; rfl) | (rw [hsB, ix_in hj (by decide), decide_eq_true d9]; rfl))
    · skip
      obtain ⟨j, hj, rfl⟩ := ix_nI d1 rfl d4 (by decide)
      refine E_al0 k49_5 ?_
      refine E_get k49_6 bw_13 rfl ?_
      refine E_il1 k49_7 ?_
      refine E_ald k49_8 rfl bw_14 hj (by decide) ?_
      refine E_ifeq k49_9 (fun c9 => ?_) (fun d9 => ?_)
      · skip
        refine E_iconst k49_12 ?_
        exact E_zret k49_13 hd49 rfl (by first | exact Or.inl rfl | exact Or.inr rfl | exact zb01 _ | assumption) (by first | (rw [hsB, ix_out (pgn_neg c1)]; rfl) | (rw [hsB, ix_out (pgn_big rfl c4)]; rfl) | (rw [hsB, ix_in hj (by decide), decide_eq_false (fun q => q c9)]; rfl) | (rw [hsB, ix_in hj (by decide), decide_eq_true d9]; rfl))
      · skip
        refine E_iconst k49_10 ?_
        refine E_goto k49_11 ?_
        exact E_zret k49_13 hd49 rfl (by first | exact Or.inl rfl | exact Or.inr rfl | exact zb01 _ | assumption) (by first | (rw [hsB, ix_out (pgn_neg c1)]; rfl) | (rw [hsB, ix_out (pgn_big rfl c4)]; rfl) | (rw [hsB, ix_in hj (by decide), decide_eq_false (fun q => q c9)]; rfl) | (rw [hsB, ix_in hj (by decide), decide_eq_true d9]; rfl))
set_option maxRecDepth 20000 in
theorem s_lowestFree {X : az_X} {w : az_W} {sz sl : Nat} {a : Nat} {S : az_S}  : az_M X 50 [.ref (a + 13)] (bw w a S) sz sl (some (.int (fi (fun i => decide (S 7 i = 0)) 4)), (bw w a S), sz, sl) := by
  refine az_Mof hd50 ?_
  show az_Ev X 50 0 [.ref (a + 13), .null] [] (bw w a S) sz sl _
  refine E_iconst k50_0 ?_
  refine E_is1 k50_1 rfl ?_
  have loop2 : ∀ j : Nat, j ≤ 4 → (∀ i, i < j → decide (S 7 i = 0) = false) → az_Ev X 50 2 [.ref (a + 13), .int (nI j)] [] (bw w a S) sz sl (some (.int (fi (fun i => decide (S 7 i = 0)) 4)), (bw w a S), sz, sl) := by
    refine az_ind 4 _ (fun j hj2 ih2 => ?_)
    intro hv2
    refine E_il1 k50_2 ?_
    refine E_iconst k50_3 ?_
    refine E_icge k50_4 (fun c4 => ?_) (fun d4 => ?_)
    · skip
      have he2 := lp_t hj2 (by decide) rfl c4
      subst he2
      refine E_bipush k50_14 ?_
      exact E_iret k50_15 hd50 rfl (by rw [fi_none hv2])
    · skip
      have hlt2 := lp_f (by omega) (by decide) rfl d4
      refine E_al0 k50_5 ?_
      refine E_get k50_6 bw_13 rfl ?_
      refine E_il1 k50_7 ?_
      refine E_ald k50_8 rfl bw_14 hlt2 (by decide) ?_
      refine E_ifne k50_9 (fun c9 => ?_) (fun d9 => ?_)
      · skip
        refine E_inc1 k50_12 rfl ?_
        refine E_goto k50_13 ?_
        exact ev_cong (ih2 hlt2 (lt_s hv2 (decide_eq_false c9))) (by rw [nI_1]) rfl rfl
      · skip
        refine E_il1 k50_10 ?_
        exact E_iret k50_11 hd50 rfl (by rw [fi_hit hv2 (decide_eq_true (Classical.not_not.mp d9)) hlt2])
  exact ev_cong (loop2 0 (Nat.zero_le _) lt_0) rfl rfl rfl
set_option maxRecDepth 20000 in
theorem s_howMany {X : az_X} {w : az_W} {sz sl : Nat} {a : Nat} {S : az_S}  : az_M X 51 [.ref (a + 13)] (bw w a S) sz sl (some (.int (nI (cnt (fun i => decide (¬ S 7 i = 0)) 4))), (bw w a S), sz, sl) := by
  refine az_Mof hd51 ?_
  show az_Ev X 51 0 [.ref (a + 13), .null, .null] [] (bw w a S) sz sl _
  refine E_iconst k51_0 ?_
  refine E_is1 k51_1 rfl ?_
  refine E_iconst k51_2 ?_
  refine E_is2 k51_3 rfl ?_
  have loop4 : ∀ j : Nat, j ≤ 4 → az_Ev X 51 4 [.ref (a + 13), .int (nI (cnt (fun i => decide (¬ S 7 i = 0)) j)), .int (nI j)] [] (bw w a S) sz sl (some (.int (nI (cnt (fun i => decide (¬ S 7 i = 0)) 4))), (bw w a S), sz, sl) := by
    refine az_ind 4 _ (fun j hj4 ih4 => ?_)
    refine E_il2 k51_4 ?_
    refine E_iconst k51_5 ?_
    refine E_icge k51_6 (fun c6 => ?_) (fun d6 => ?_)
    · skip
      have he4 := lp_t hj4 (by decide) rfl c6
      subst he4
      refine E_il1 k51_15 ?_
      exact E_iret k51_16 hd51 rfl rfl
    · skip
      have hlt4 := lp_f (by omega) (by decide) rfl d6
      refine E_al0 k51_7 ?_
      refine E_get k51_8 bw_13 rfl ?_
      refine E_il2 k51_9 ?_
      refine E_ald k51_10 rfl bw_14 hlt4 (by decide) ?_
      refine E_ifeq k51_11 (fun c11 => ?_) (fun d11 => ?_)
      · skip
        refine E_inc2 k51_13 rfl ?_
        refine E_goto k51_14 ?_
        exact ev_cong (ih4 hlt4) (by first | (rw [cnt_t (by exact decide_eq_true d11), nI_1, nI_1]; done) | (rw [cnt_f (by exact decide_eq_false (fun q => q c11)), nI_1]; done)) rfl rfl
      · skip
        refine E_inc1 k51_12 rfl ?_
        refine E_inc2 k51_13 rfl ?_
        refine E_goto k51_14 ?_
        exact ev_cong (ih4 hlt4) (by first | (rw [cnt_t (by exact decide_eq_true d11), nI_1, nI_1]; done) | (rw [cnt_f (by exact decide_eq_false (fun q => q c11)), nI_1]; done)) rfl rfl
  exact ev_cong (loop4 0 (Nat.zero_le _)) rfl rfl rfl
set_option maxRecDepth 20000 in
theorem s_howManyWith {X : az_X} {w : az_W} {sz sl : Nat} {a : Nat} {S : az_S} {c : Int32}  : az_M X 52 [.ref (a + 13), .int c] (bw w a S) sz sl (some (.int (nI (hm S c))), (bw w a S), sz, sl) := by
  refine az_Mof hd52 ?_
  show az_Ev X 52 0 [.ref (a + 13), .int c, .null, .null] [] (bw w a S) sz sl _
  refine E_iconst k52_0 ?_
  refine E_is2 k52_1 rfl ?_
  refine E_iconst k52_2 ?_
  refine E_is3 k52_3 rfl ?_
  have loop4 : ∀ j : Nat, j ≤ 4 → az_Ev X 52 4 [.ref (a + 13), .int c, .int (nI (cnt (hmB S c) j)), .int (nI j)] [] (bw w a S) sz sl (some (.int (nI (hm S c))), (bw w a S), sz, sl) := by
    refine az_ind 4 _ (fun j hj4 ih4 => ?_)
    refine E_il3 k52_4 ?_
    refine E_iconst k52_5 ?_
    refine E_icge k52_6 (fun c6 => ?_) (fun d6 => ?_)
    · skip
      have he4 := lp_t hj4 (by decide) rfl c6
      subst he4
      refine E_il2 k52_23 ?_
      exact E_iret k52_24 hd52 rfl rfl
    · skip
      have hlt4 := lp_f (by omega) (by decide) rfl d6
      refine E_al0 k52_7 ?_
      refine E_get k52_8 bw_13 rfl ?_
      refine E_il3 k52_9 ?_
      refine E_ald k52_10 rfl bw_14 hlt4 (by decide) ?_
      refine E_ifeq k52_11 (fun c11 => ?_) (fun d11 => ?_)
      · skip
        refine E_inc3 k52_21 rfl ?_
        refine E_goto k52_22 ?_
        exact ev_cong (ih4 hlt4) (by first | (rw [cnt_t (hmB_t d11 d19), nI_1, nI_1]; done) | (rw [cnt_f (hmB_2 c19), nI_1]; done) | (rw [cnt_f (hmB_1 c11), nI_1]; done)) rfl rfl
      · skip
        refine E_al0 k52_12 ?_
        refine E_get k52_13 bw_13 rfl ?_
        refine E_il3 k52_14 ?_
        refine E_aald k52_15 bw_15 (Or.inl rfl) hlt4 (by decide) (kfn_at a hlt4) ?_
        refine E_il1 k52_16 ?_
        refine E_cv1 k52_17 (Or.inl rfl) (bw_G hlt4) cl27 rfl rfl (s_pageWith (bw_G hlt4) (bw_H hlt4)) ?_
        refine E_bipush k52_18 ?_
        refine E_iceq k52_19 (fun c19 => ?_) (fun d19 => ?_)
        · skip
          refine E_inc3 k52_21 rfl ?_
          refine E_goto k52_22 ?_
          exact ev_cong (ih4 hlt4) (by first | (rw [cnt_t (hmB_t d11 d19), nI_1, nI_1]; done) | (rw [cnt_f (hmB_2 c19), nI_1]; done) | (rw [cnt_f (hmB_1 c11), nI_1]; done)) rfl rfl
        · skip
          refine E_inc2 k52_20 rfl ?_
          refine E_inc3 k52_21 rfl ?_
          refine E_goto k52_22 ?_
          exact ev_cong (ih4 hlt4) (by first | (rw [cnt_t (hmB_t d11 d19), nI_1, nI_1]; done) | (rw [cnt_f (hmB_2 c19), nI_1]; done) | (rw [cnt_f (hmB_1 c11), nI_1]; done)) rfl rfl
  exact ev_cong (loop4 0 (Nat.zero_le _)) rfl rfl rfl
set_option maxRecDepth 20000 in
theorem s_numberOf {X : az_X} {w : az_W} {sz sl : Nat} {a : Nat} {S : az_S} {p : Int32}  : az_M X 56 [.ref (a + 13), .int p] (bw w a S) sz sl (some (.int (if hsB S p = true then S 12 (9 + 2 * p.toNatClampNeg) else -5)), (bw w a S), sz, sl) := by
  refine az_Mof hd56 ?_
  show az_Ev X 56 0 [.ref (a + 13), .int p] [] (bw w a S) sz sl _
  refine E_al0 k56_0 ?_
  refine E_il1 k56_1 ?_
  refine E_cv1 k56_2 (Or.inl rfl) bw_13 cl49 rfl rfl s_has ?_
  refine E_zeq k56_3 (fun c3 => ?_) (fun d3 => ?_)
  · skip
    refine E_bipush k56_10 ?_
    exact E_iret k56_11 hd56 rfl (by first | (rw [c3]; rfl) | (rw [if_pos d3, nI_clamp (by omega)]))
  · skip
    obtain ⟨j, hj, rfl⟩ := hsB_nI d3
    refine E_al0 k56_4 ?_
    refine E_get k56_5 bw_13 rfl ?_
    refine E_il1 k56_6 ?_
    refine E_aald k56_7 bw_15 (Or.inl rfl) hj (by decide) (kfn_at a hj) ?_
    refine E_cv0 k56_8 (Or.inl rfl) (bw_G hj) cl22 rfl rfl (s_gNumber (bw_G hj)) ?_
    refine E_goto k56_9 ?_
    exact E_iret k56_11 hd56 rfl (by first | (rw [c3]; rfl) | (rw [if_pos d3, nI_clamp (by omega)]))
set_option maxRecDepth 20000 in
theorem s_rCellOf {X : az_X} {w : az_W} {sz sl : Nat} {a : Nat} {S : az_S} {p q : Int32}  : az_M X 57 [.ref (a + 13), .int p, .int q] (bw w a S) sz sl (some (.int (if hsB S p = true then ix 8 (-5) (S (8 + p.toNatClampNeg)) q else -5)), (bw w a S), sz, sl) := by
  refine az_Mof hd57 ?_
  show az_Ev X 57 0 [.ref (a + 13), .int p, .int q] [] (bw w a S) sz sl _
  refine E_al0 k57_0 ?_
  refine E_il1 k57_1 ?_
  refine E_cv1 k57_2 (Or.inl rfl) bw_13 cl49 rfl rfl s_has ?_
  refine E_zeq k57_3 (fun c3 => ?_) (fun d3 => ?_)
  · skip
    refine E_bipush k57_11 ?_
    exact E_iret k57_12 hd57 rfl (by first | (rw [c3]; rfl) | (rw [if_pos d3, nI_clamp (by omega)]))
  · skip
    obtain ⟨j, hj, rfl⟩ := hsB_nI d3
    refine E_al0 k57_4 ?_
    refine E_get k57_5 bw_13 rfl ?_
    refine E_il1 k57_6 ?_
    refine E_aald k57_7 bw_15 (Or.inl rfl) hj (by decide) (kfn_at a hj) ?_
    refine E_il2 k57_8 ?_
    refine E_cv1 k57_9 (Or.inl rfl) (bw_G hj) cl25 rfl rfl (s_cellOf (bw_G hj) (bw_H hj)) ?_
    refine E_goto k57_10 ?_
    exact E_iret k57_12 hd57 rfl (by first | (rw [c3]; rfl) | (rw [if_pos d3, nI_clamp (by omega)]))
set_option maxRecDepth 20000 in
theorem s_mark {X : az_X} {w : az_W} {sz sl : Nat} {a : Nat} {S : az_S}  : az_M X 60 [.ref a] (bw w a S) sz sl (some (.int (S 12 6)), (bw w a S), sz, sl) := by
  refine az_Mof hd60 ?_
  show az_Ev X 60 0 [.ref a] [] (bw w a S) sz sl _
  refine E_al0 k60_0 ?_
  refine E_get k60_1 bw_0 rfl ?_
  exact E_iret k60_2 hd60 rfl rfl
set_option maxRecDepth 20000 in
theorem s_crashes {X : az_X} {w : az_W} {sz sl : Nat} {a : Nat} {S : az_S}  : az_M X 61 [.ref a] (bw w a S) sz sl (some (.int (S 12 7)), (bw w a S), sz, sl) := by
  refine az_Mof hd61 ?_
  show az_Ev X 61 0 [.ref a] [] (bw w a S) sz sl _
  refine E_al0 k61_0 ?_
  refine E_get k61_1 bw_0 rfl ?_
  exact E_iret k61_2 hd61 rfl rfl
set_option maxRecDepth 20000 in
theorem s_swaps {X : az_X} {w : az_W} {sz sl : Nat} {a : Nat} {S : az_S}  : az_M X 62 [.ref a] (bw w a S) sz sl (some (.int (S 12 8)), (bw w a S), sz, sl) := by
  refine az_Mof hd62 ?_
  show az_Ev X 62 0 [.ref a] [] (bw w a S) sz sl _
  refine E_al0 k62_0 ?_
  refine E_get k62_1 bw_0 rfl ?_
  exact E_iret k62_2 hd62 rfl rfl
set_option maxRecDepth 20000 in
theorem s_tableAt {X : az_X} {w : az_W} {sz sl : Nat} {a : Nat} {S : az_S} {m : Int32}  : az_M X 63 [.ref a, .int m] (bw w a S) sz sl (some (.ref (tA a m)), (bw w a S), sz, sl) := by
  refine az_Mof hd63 ?_
  show az_Ev X 63 0 [.ref a, .int m] [] (bw w a S) sz sl _
  refine E_il1 k63_0 ?_
  refine E_ifne k63_1 (fun c1 => ?_) (fun d1 => ?_)
  · skip
    refine E_al0 k63_5 ?_
    refine E_get k63_6 bw_0 rfl ?_
    exact E_aret k63_7 hd63 rfl (by first | rw [tA, if_neg c1] | rw [tA, if_pos (Classical.not_not.mp d1)])
  · skip
    refine E_al0 k63_2 ?_
    refine E_get k63_3 bw_0 rfl ?_
    refine E_goto k63_4 ?_
    exact E_aret k63_7 hd63 rfl (by first | rw [tA, if_neg c1] | rw [tA, if_pos (Classical.not_not.mp d1)])
set_option maxRecDepth 20000 in
theorem s_oldGeneration {X : az_X} {w : az_W} {sz sl : Nat} {a : Nat} {S : az_S}  : az_M X 64 [.ref a] (bw w a S) sz sl (some (.ref (tA a (S 12 6))), (bw w a S), sz, sl) := by
  refine az_Mof hd64 ?_
  show az_Ev X 64 0 [.ref a] [] (bw w a S) sz sl _
  refine E_al0 k64_0 ?_
  refine E_al0 k64_1 ?_
  refine E_get k64_2 bw_0 rfl ?_
  refine E_cv1 k64_3 (Or.inl rfl) bw_0 cl63 rfl rfl s_tableAt ?_
  exact E_aret k64_4 hd64 rfl rfl
set_option maxRecDepth 20000 in
theorem s_contentByOld {X : az_X} {w : az_W} {sz sl : Nat} {a : Nat} {S : az_S} {p : Int32}  : az_M X 65 [.ref a, .int p] (bw w a S) sz sl (some (.int (cbo S p)), (bw w a S), sz, sl) := by
  refine az_Mof hd65 ?_
  show az_Ev X 65 0 [.ref a, .int p] [] (bw w a S) sz sl _
  refine E_al0 k65_0 ?_
  refine E_get k65_1 bw_0 rfl ?_
  refine E_al0 k65_2 ?_
  refine E_cv0 k65_3 (Or.inl rfl) bw_0 cl64 rfl rfl s_oldGeneration ?_
  refine E_il1 k65_4 ?_
  refine E_cv1 k65_5 (Or.inl rfl) (bw_tA _) cl25 rfl rfl (s_cellOf (bw_tA _) (bw_tB _)) ?_
  refine E_cv1 k65_6 (Or.inl rfl) bw_1 cl4 rfl rfl (s_contentOf bw_1 bw_2) ?_
  exact E_iret k65_7 hd65 rfl rfl
set_option maxRecDepth 20000 in
theorem s_contentByDesk {X : az_X} {w : az_W} {sz sl : Nat} {a : Nat} {S : az_S} {p : Int32}  : az_M X 66 [.ref a, .int p] (bw w a S) sz sl (some (.int (cbd S p)), (bw w a S), sz, sl) := by
  refine az_Mof hd66 ?_
  show az_Ev X 66 0 [.ref a, .int p] [] (bw w a S) sz sl _
  refine E_al0 k66_0 ?_
  refine E_get k66_1 bw_0 rfl ?_
  refine E_il1 k66_2 ?_
  refine E_cv1 k66_3 (Or.inl rfl) bw_9 cl14 rfl rfl (s_tellsOf bw_9 bw_10) ?_
  refine E_zeq k66_4 (fun c4 => ?_) (fun d4 => ?_)
  · skip
    refine E_al0 k66_10 ?_
    refine E_il1 k66_11 ?_
    refine E_cv1 k66_12 (Or.inl rfl) bw_0 cl65 rfl rfl s_contentByOld ?_
    exact E_iret k66_13 hd66 rfl (by first | rw [cbd, if_neg (of_decide_eq_true d4)] | rw [cbd, if_pos (Classical.not_not.mp (of_decide_eq_false c4))])
  · skip
    refine E_al0 k66_5 ?_
    refine E_get k66_6 bw_0 rfl ?_
    refine E_il1 k66_7 ?_
    refine E_cv1 k66_8 (Or.inl rfl) bw_9 cl13 rfl rfl (s_toldOf bw_9 bw_10) ?_
    refine E_goto k66_9 ?_
    exact E_iret k66_13 hd66 rfl (by first | rw [cbd, if_neg (of_decide_eq_true d4)] | rw [cbd, if_pos (Classical.not_not.mp (of_decide_eq_false c4))])
set_option maxRecDepth 20000 in
theorem s_isFree {X : az_X} {w : az_W} {sz sl : Nat} {a : Nat} {S : az_S} {c : Int32}  : az_M X 67 [.ref a, .int c] (bw w a S) sz sl (some (.int (zb (frB S c))), (bw w a S), sz, sl) := by
  refine az_Mof hd67 ?_
  show az_Ev X 67 0 [.ref a, .int c] [] (bw w a S) sz sl _
  refine E_al0 k67_0 ?_
  refine E_cv0 k67_1 (Or.inl rfl) bw_0 cl64 rfl rfl s_oldGeneration ?_
  refine E_il1 k67_2 ?_
  refine E_cv1 k67_3 (Or.inl rfl) (bw_tA _) cl27 rfl rfl (s_pageWith (bw_tA _) (bw_tB _)) ?_
  refine E_bipush k67_4 ?_
  refine E_icne k67_5 (fun c5 => ?_) (fun d5 => ?_)
  · skip
    refine E_iconst k67_19 ?_
    exact E_zret k67_20 hd67 rfl (by first | exact Or.inl rfl | exact Or.inr rfl | exact zb01 _ | assumption) (by first | (rw [frB_1 (S := S) (c := c) c5]; rfl) | (rw [frB_2 (fun q => c10 ((nI_eq0 (hm_lt S c)).mpr q))]; rfl) | (rw [frB_3 (S := S) (c := c) c16]; rfl) | (rw [frB_t (S := S) (c := c) (Classical.not_not.mp d5) ((nI_eq0 (hm_lt S c)).mp (Classical.not_not.mp d10)) (Classical.not_not.mp d16)]; rfl))
  · skip
    refine E_al0 k67_6 ?_
    refine E_get k67_7 bw_0 rfl ?_
    refine E_il1 k67_8 ?_
    refine E_cv1 k67_9 (Or.inl rfl) bw_13 cl52 rfl rfl s_howManyWith ?_
    refine E_ifne k67_10 (fun c10 => ?_) (fun d10 => ?_)
    · skip
      refine E_iconst k67_19 ?_
      exact E_zret k67_20 hd67 rfl (by first | exact Or.inl rfl | exact Or.inr rfl | exact zb01 _ | assumption) (by first | (rw [frB_1 (S := S) (c := c) c5]; rfl) | (rw [frB_2 (fun q => c10 ((nI_eq0 (hm_lt S c)).mpr q))]; rfl) | (rw [frB_3 (S := S) (c := c) c16]; rfl) | (rw [frB_t (S := S) (c := c) (Classical.not_not.mp d5) ((nI_eq0 (hm_lt S c)).mp (Classical.not_not.mp d10)) (Classical.not_not.mp d16)]; rfl))
    · skip
      refine E_al0 k67_11 ?_
      refine E_get k67_12 bw_0 rfl ?_
      refine E_il1 k67_13 ?_
      refine E_cv1 k67_14 (Or.inl rfl) bw_11 cl91 rfl rfl (s_pageWrittenTo bw_11 bw_12) ?_
      refine E_bipush k67_15 ?_
      refine E_icne k67_16 (fun c16 => ?_) (fun d16 => ?_)
      · skip
        refine E_iconst k67_19 ?_
        exact E_zret k67_20 hd67 rfl (by first | exact Or.inl rfl | exact Or.inr rfl | exact zb01 _ | assumption) (by first | (rw [frB_1 (S := S) (c := c) c5]; rfl) | (rw [frB_2 (fun q => c10 ((nI_eq0 (hm_lt S c)).mpr q))]; rfl) | (rw [frB_3 (S := S) (c := c) c16]; rfl) | (rw [frB_t (S := S) (c := c) (Classical.not_not.mp d5) ((nI_eq0 (hm_lt S c)).mp (Classical.not_not.mp d10)) (Classical.not_not.mp d16)]; rfl))
      · skip
        refine E_iconst k67_17 ?_
        refine E_goto k67_18 ?_
        exact E_zret k67_20 hd67 rfl (by first | exact Or.inl rfl | exact Or.inr rfl | exact zb01 _ | assumption) (by first | (rw [frB_1 (S := S) (c := c) c5]; rfl) | (rw [frB_2 (fun q => c10 ((nI_eq0 (hm_lt S c)).mpr q))]; rfl) | (rw [frB_3 (S := S) (c := c) c16]; rfl) | (rw [frB_t (S := S) (c := c) (Classical.not_not.mp d5) ((nI_eq0 (hm_lt S c)).mp (Classical.not_not.mp d10)) (Classical.not_not.mp d16)]; rfl))
set_option maxRecDepth 20000 in
theorem s_freeCells {X : az_X} {w : az_W} {sz sl : Nat} {a : Nat} {S : az_S}  : az_M X 68 [.ref a] (bw w a S) sz sl (some (.int (nI (cnt (fun i => frB S (nI i)) 24))), (bw w a S), sz, sl) := by
  refine az_Mof hd68 ?_
  show az_Ev X 68 0 [.ref a, .null, .null] [] (bw w a S) sz sl _
  refine E_iconst k68_0 ?_
  refine E_is1 k68_1 rfl ?_
  refine E_iconst k68_2 ?_
  refine E_is2 k68_3 rfl ?_
  have loop4 : ∀ j : Nat, j ≤ 24 → az_Ev X 68 4 [.ref a, .int (nI (cnt (fun i => frB S (nI i)) j)), .int (nI j)] [] (bw w a S) sz sl (some (.int (nI (cnt (fun i => frB S (nI i)) 24))), (bw w a S), sz, sl) := by
    refine az_ind 24 _ (fun j hj4 ih4 => ?_)
    refine E_il2 k68_4 ?_
    refine E_bipush k68_5 ?_
    refine E_icge k68_6 (fun c6 => ?_) (fun d6 => ?_)
    · skip
      have he4 := lp_t hj4 (by decide) rfl c6
      subst he4
      refine E_il1 k68_14 ?_
      exact E_iret k68_15 hd68 rfl rfl
    · skip
      have hlt4 := lp_f (by omega) (by decide) rfl d6
      refine E_al0 k68_7 ?_
      refine E_il2 k68_8 ?_
      refine E_cv1 k68_9 (Or.inl rfl) bw_0 cl67 rfl rfl s_isFree ?_
      refine E_zeq k68_10 (fun c10 => ?_) (fun d10 => ?_)
      · skip
        refine E_inc2 k68_12 rfl ?_
        refine E_goto k68_13 ?_
        exact ev_cong (ih4 hlt4) (by first | (rw [cnt_t (by exact d10), nI_1, nI_1]; done) | (rw [cnt_f (by exact c10), nI_1]; done)) rfl rfl
      · skip
        refine E_inc1 k68_11 rfl ?_
        refine E_inc2 k68_12 rfl ?_
        refine E_goto k68_13 ?_
        exact ev_cong (ih4 hlt4) (by first | (rw [cnt_t (by exact d10), nI_1, nI_1]; done) | (rw [cnt_f (by exact c10), nI_1]; done)) rfl rfl
  exact ev_cong (loop4 0 (Nat.zero_le _)) rfl rfl rfl
set_option maxRecDepth 20000 in
theorem s_readersOnly {X : az_X} {w : az_W} {sz sl : Nat} {a : Nat} {S : az_S}  : az_M X 69 [.ref a] (bw w a S) sz sl (some (.int (nI (cnt (fun i => roB S (nI i)) 24))), (bw w a S), sz, sl) := by
  refine az_Mof hd69 ?_
  show az_Ev X 69 0 [.ref a, .null, .null] [] (bw w a S) sz sl _
  refine E_iconst k69_0 ?_
  refine E_is1 k69_1 rfl ?_
  refine E_iconst k69_2 ?_
  refine E_is2 k69_3 rfl ?_
  have loop4 : ∀ j : Nat, j ≤ 24 → az_Ev X 69 4 [.ref a, .int (nI (cnt (fun i => roB S (nI i)) j)), .int (nI j)] [] (bw w a S) sz sl (some (.int (nI (cnt (fun i => roB S (nI i)) 24))), (bw w a S), sz, sl) := by
    refine az_ind 24 _ (fun j hj4 ih4 => ?_)
    refine E_il2 k69_4 ?_
    refine E_bipush k69_5 ?_
    refine E_icge k69_6 (fun c6 => ?_) (fun d6 => ?_)
    · skip
      have he4 := lp_t hj4 (by decide) rfl c6
      subst he4
      refine E_il1 k69_27 ?_
      exact E_iret k69_28 hd69 rfl rfl
    · skip
      have hlt4 := lp_f (by omega) (by decide) rfl d6
      refine E_al0 k69_7 ?_
      refine E_get k69_8 bw_0 rfl ?_
      refine E_il2 k69_9 ?_
      refine E_cv1 k69_10 (Or.inl rfl) bw_13 cl52 rfl rfl s_howManyWith ?_
      refine E_ifle k69_11 (fun c11 => ?_) (fun d11 => ?_)
      · skip
        refine E_inc2 k69_25 rfl ?_
        refine E_goto k69_26 ?_
        exact ev_cong (ih4 hlt4) (by first | (rw [cnt_f (roB_1 ((nI_le0 (hm_lt S (nI j))).mp c11)), nI_1]; done) | (rw [cnt_f (roB_2 (S := S) (c := nI j) c17), nI_1]; done) | (rw [cnt_f (roB_3 (S := S) (c := nI j) c23), nI_1]; done) | (rw [cnt_t (roB_t (S := S) (c := nI j) (Classical.not_not.mp d17) (fun q => d11 ((nI_le0 (hm_lt S (nI j))).mpr q)) (Classical.not_not.mp d23)), nI_1, nI_1]; done)) rfl rfl
      · skip
        refine E_al0 k69_12 ?_
        refine E_cv0 k69_13 (Or.inl rfl) bw_0 cl64 rfl rfl s_oldGeneration ?_
        refine E_il2 k69_14 ?_
        refine E_cv1 k69_15 (Or.inl rfl) (bw_tA _) cl27 rfl rfl (s_pageWith (bw_tA _) (bw_tB _)) ?_
        refine E_bipush k69_16 ?_
        refine E_icne k69_17 (fun c17 => ?_) (fun d17 => ?_)
        · skip
          refine E_inc2 k69_25 rfl ?_
          refine E_goto k69_26 ?_
          exact ev_cong (ih4 hlt4) (by first | (rw [cnt_f (roB_1 ((nI_le0 (hm_lt S (nI j))).mp c11)), nI_1]; done) | (rw [cnt_f (roB_2 (S := S) (c := nI j) c17), nI_1]; done) | (rw [cnt_f (roB_3 (S := S) (c := nI j) c23), nI_1]; done) | (rw [cnt_t (roB_t (S := S) (c := nI j) (Classical.not_not.mp d17) (fun q => d11 ((nI_le0 (hm_lt S (nI j))).mpr q)) (Classical.not_not.mp d23)), nI_1, nI_1]; done)) rfl rfl
        · skip
          refine E_al0 k69_18 ?_
          refine E_get k69_19 bw_0 rfl ?_
          refine E_il2 k69_20 ?_
          refine E_cv1 k69_21 (Or.inl rfl) bw_11 cl91 rfl rfl (s_pageWrittenTo bw_11 bw_12) ?_
          refine E_bipush k69_22 ?_
          refine E_icne k69_23 (fun c23 => ?_) (fun d23 => ?_)
          · skip
            refine E_inc2 k69_25 rfl ?_
            refine E_goto k69_26 ?_
            exact ev_cong (ih4 hlt4) (by first | (rw [cnt_f (roB_1 ((nI_le0 (hm_lt S (nI j))).mp c11)), nI_1]; done) | (rw [cnt_f (roB_2 (S := S) (c := nI j) c17), nI_1]; done) | (rw [cnt_f (roB_3 (S := S) (c := nI j) c23), nI_1]; done) | (rw [cnt_t (roB_t (S := S) (c := nI j) (Classical.not_not.mp d17) (fun q => d11 ((nI_le0 (hm_lt S (nI j))).mpr q)) (Classical.not_not.mp d23)), nI_1, nI_1]; done)) rfl rfl
          · skip
            refine E_inc1 k69_24 rfl ?_
            refine E_inc2 k69_25 rfl ?_
            refine E_goto k69_26 ?_
            exact ev_cong (ih4 hlt4) (by first | (rw [cnt_f (roB_1 ((nI_le0 (hm_lt S (nI j))).mp c11)), nI_1]; done) | (rw [cnt_f (roB_2 (S := S) (c := nI j) c17), nI_1]; done) | (rw [cnt_f (roB_3 (S := S) (c := nI j) c23), nI_1]; done) | (rw [cnt_t (roB_t (S := S) (c := nI j) (Classical.not_not.mp d17) (fun q => d11 ((nI_le0 (hm_lt S (nI j))).mpr q)) (Classical.not_not.mp d23)), nI_1, nI_1]; done)) rfl rfl
  exact ev_cong (loop4 0 (Nat.zero_le _)) rfl rfl rfl
set_option maxRecDepth 20000 in
theorem s_cellToWrite {X : az_X} {w : az_W} {sz sl : Nat} {a : Nat} {S : az_S}  : az_M X 70 [.ref a] (bw w a S) sz sl (some (.int (cw S 24)), (bw w a S), sz, sl) := by
  refine az_Mof hd70 ?_
  show az_Ev X 70 0 [.ref a, .null, .null] [] (bw w a S) sz sl _
  refine E_bipush k70_0 ?_
  refine E_is1 k70_1 rfl ?_
  refine E_iconst k70_2 ?_
  refine E_is2 k70_3 rfl ?_
  have loop4 : ∀ j : Nat, j ≤ 24 → az_Ev X 70 4 [.ref a, .int (cw S j), .int (nI j)] [] (bw w a S) sz sl (some (.int (cw S 24)), (bw w a S), sz, sl) := by
    refine az_ind 24 _ (fun j hj4 ih4 => ?_)
    refine E_il2 k70_4 ?_
    refine E_bipush k70_5 ?_
    refine E_icge k70_6 (fun c6 => ?_) (fun d6 => ?_)
    · skip
      have he4 := lp_t hj4 (by decide) rfl c6
      subst he4
      refine E_il1 k70_27 ?_
      exact E_iret k70_28 hd70 rfl rfl
    · skip
      have hlt4 := lp_f (by omega) (by decide) rfl d6
      refine E_al0 k70_7 ?_
      refine E_il2 k70_8 ?_
      refine E_cv1 k70_9 (Or.inl rfl) bw_0 cl67 rfl rfl s_isFree ?_
      refine E_zeq k70_10 (fun c10 => ?_) (fun d10 => ?_)
      · skip
        refine E_inc2 k70_25 rfl ?_
        refine E_goto k70_26 ?_
        exact ev_cong (ih4 hlt4) (by first | (rw [nI_1, cw, if_neg (by rw [c10]; decide)]; done) | (rw [nI_1, cw, if_pos d10, if_pos c13]; done) | (rw [nI_1, cw, if_pos d10, if_neg d13, if_pos c22]; done) | (rw [nI_1, cw, if_pos d10, if_neg d13, if_neg d22]; done)) rfl rfl
      · skip
        refine E_il1 k70_11 ?_
        refine E_bipush k70_12 ?_
        refine E_iceq k70_13 (fun c13 => ?_) (fun d13 => ?_)
        · skip
          refine E_il2 k70_23 ?_
          refine E_is1 k70_24 rfl ?_
          refine E_inc2 k70_25 rfl ?_
          refine E_goto k70_26 ?_
          exact ev_cong (ih4 hlt4) (by first | (rw [nI_1, cw, if_neg (by rw [c10]; decide)]; done) | (rw [nI_1, cw, if_pos d10, if_pos c13]; done) | (rw [nI_1, cw, if_pos d10, if_neg d13, if_pos c22]; done) | (rw [nI_1, cw, if_pos d10, if_neg d13, if_neg d22]; done)) rfl rfl
        · skip
          refine E_al0 k70_14 ?_
          refine E_get k70_15 bw_0 rfl ?_
          refine E_il2 k70_16 ?_
          refine E_cv1 k70_17 (Or.inl rfl) bw_1 cl6 rfl rfl (s_wearOf bw_1 bw_4) ?_
          refine E_al0 k70_18 ?_
          refine E_get k70_19 bw_0 rfl ?_
          refine E_il1 k70_20 ?_
          refine E_cv1 k70_21 (Or.inl rfl) bw_1 cl6 rfl rfl (s_wearOf bw_1 bw_4) ?_
          refine E_icge k70_22 (fun c22 => ?_) (fun d22 => ?_)
          · skip
            refine E_inc2 k70_25 rfl ?_
            refine E_goto k70_26 ?_
            exact ev_cong (ih4 hlt4) (by first | (rw [nI_1, cw, if_neg (by rw [c10]; decide)]; done) | (rw [nI_1, cw, if_pos d10, if_pos c13]; done) | (rw [nI_1, cw, if_pos d10, if_neg d13, if_pos c22]; done) | (rw [nI_1, cw, if_pos d10, if_neg d13, if_neg d22]; done)) rfl rfl
          · skip
            refine E_il2 k70_23 ?_
            refine E_is1 k70_24 rfl ?_
            refine E_inc2 k70_25 rfl ?_
            refine E_goto k70_26 ?_
            exact ev_cong (ih4 hlt4) (by first | (rw [nI_1, cw, if_neg (by rw [c10]; decide)]; done) | (rw [nI_1, cw, if_pos d10, if_pos c13]; done) | (rw [nI_1, cw, if_pos d10, if_neg d13, if_pos c22]; done) | (rw [nI_1, cw, if_pos d10, if_neg d13, if_neg d22]; done)) rfl rfl
  exact ev_cong (loop4 0 (Nat.zero_le _)) rfl rfl rfl
set_option maxRecDepth 20000 in
theorem s_goesOn {X : az_X} {w : az_W} {sz sl : Nat} {a : Nat} {S : az_S} (hv : S 12 4 = 0 ∨ S 12 4 = 1) : az_M X 84 [.ref (a + 11)] (bw w a S) sz sl (some (.int (S 12 4)), (bw w a S), sz, sl) := by
  refine az_Mof hd84 ?_
  show az_Ev X 84 0 [.ref (a + 11)] [] (bw w a S) sz sl _
  refine E_al0 k84_0 ?_
  refine E_get k84_1 bw_11 rfl ?_
  exact E_zret k84_2 hd84 rfl (by first | exact Or.inl rfl | exact Or.inr rfl | exact zb01 _ | assumption) rfl
set_option maxRecDepth 20000 in
theorem s_stepsDone {X : az_X} {w : az_W} {sz sl : Nat} {a : Nat} {S : az_S}  : az_M X 85 [.ref (a + 11)] (bw w a S) sz sl (some (.int (S 12 5)), (bw w a S), sz, sl) := by
  refine az_Mof hd85 ?_
  show az_Ev X 85 0 [.ref (a + 11)] [] (bw w a S) sz sl _
  refine E_al0 k85_0 ?_
  refine E_get k85_1 bw_11 rfl ?_
  exact E_iret k85_2 hd85 rfl rfl
set_option maxRecDepth 20000 in
theorem s_stepsOwed {X : az_X} {w : az_W} {sz sl : Nat} {a : Nat} {S : az_S} (hv : S 12 4 = 0 ∨ S 12 4 = 1) : az_M X 71 [.ref a] (bw w a S) sz sl (some (.int (sO S)), (bw w a S), sz, sl) := by
  refine az_Mof hd71 ?_
  show az_Ev X 71 0 [.ref a] [] (bw w a S) sz sl _
  refine E_al0 k71_0 ?_
  refine E_get k71_1 bw_0 rfl ?_
  refine E_cv0 k71_2 (Or.inl rfl) bw_11 cl84 rfl rfl (s_goesOn hv) ?_
  refine E_ifeq k71_3 (fun c3 => ?_) (fun d3 => ?_)
  · skip
    refine E_iconst k71_14 ?_
    exact E_iret k71_15 hd71 rfl (by first | rw [sO, if_pos c3] | (rw [sO, if_neg d3]; rfl))
  · skip
    refine E_al0 k71_4 ?_
    refine E_get k71_5 bw_0 rfl ?_
    refine E_cv0 k71_6 (Or.inl rfl) bw_9 cl18 rfl rfl (s_contents bw_9 bw_10) ?_
    refine E_iconst k71_7 ?_
    refine E_iadd k71_8 ?_
    refine E_al0 k71_9 ?_
    refine E_get k71_10 bw_0 rfl ?_
    refine E_cv0 k71_11 (Or.inl rfl) bw_11 cl85 rfl rfl s_stepsDone ?_
    refine E_isub k71_12 ?_
    refine E_goto k71_13 ?_
    exact E_iret k71_15 hd71 rfl (by first | rw [sO, if_pos c3] | (rw [sO, if_neg d3]; rfl))
set_option maxRecDepth 20000 in
theorem s_cellsOwed {X : az_X} {w : az_W} {sz sl : Nat} {a : Nat} {S : az_S} (hv : S 12 4 = 0 ∨ S 12 4 = 1) : az_M X 72 [.ref a] (bw w a S) sz sl (some (.int (cOw S)), (bw w a S), sz, sl) := by
  refine az_Mof hd72 ?_
  show az_Ev X 72 0 [.ref a, .null] [] (bw w a S) sz sl _
  refine E_al0 k72_0 ?_
  refine E_cv0 k72_1 (Or.inl rfl) bw_0 cl71 rfl rfl (s_stepsOwed hv) ?_
  refine E_iconst k72_2 ?_
  refine E_isub k72_3 ?_
  refine E_is1 k72_4 rfl ?_
  refine E_il1 k72_5 ?_
  refine E_ifle k72_6 (fun c6 => ?_) (fun d6 => ?_)
  · skip
    refine E_iconst k72_9 ?_
    exact E_iret k72_10 hd72 rfl (by first | rw [cOw, if_pos c6] | rw [cOw, if_neg d6])
  · skip
    refine E_il1 k72_7 ?_
    refine E_goto k72_8 ?_
    exact E_iret k72_10 hd72 rfl (by first | rw [cOw, if_pos c6] | rw [cOw, if_neg d6])
set_option maxRecDepth 20000 in
theorem s_kindOwedAt {X : az_X} {w : az_W} {sz sl : Nat} {a : Nat} {S : az_S} {p : Int32} (hv : S 12 4 = 0 ∨ S 12 4 = 1) : az_M X 73 [.ref a, .int p] (bw w a S) sz sl (some (.int (kO S p)), (bw w a S), sz, sl) := by
  refine az_Mof hd73 ?_
  show az_Ev X 73 0 [.ref a, .int p] [] (bw w a S) sz sl _
  refine E_il1 k73_0 ?_
  refine E_al0 k73_1 ?_
  refine E_cv0 k73_2 (Or.inl rfl) bw_0 cl72 rfl rfl (s_cellsOwed hv) ?_
  refine E_icge k73_3 (fun c3 => ?_) (fun d3 => ?_)
  · skip
    refine E_il1 k73_6 ?_
    refine E_al0 k73_7 ?_
    refine E_cv0 k73_8 (Or.inl rfl) bw_0 cl71 rfl rfl (s_stepsOwed hv) ?_
    refine E_iconst k73_9 ?_
    refine E_isub k73_10 ?_
    refine E_icne k73_11 (fun c11 => ?_) (fun d11 => ?_)
    · skip
      refine E_iconst k73_14 ?_
      exact E_iret k73_15 hd73 rfl (by first | rw [kO, if_pos c3, if_pos c11] | rw [kO, if_pos c3, if_neg d11])
    · skip
      refine E_iconst k73_12 ?_
      refine E_goto k73_13 ?_
      exact E_iret k73_15 hd73 rfl (by first | rw [kO, if_pos c3, if_pos c11] | rw [kO, if_pos c3, if_neg d11])
  · skip
    refine E_iconst k73_4 ?_
    exact E_iret k73_5 hd73 rfl (by rw [kO, if_neg d3])
set_option maxRecDepth 20000 in
theorem s_pageOwedAt {X : az_X} {w : az_W} {sz sl : Nat} {a : Nat} {S : az_S} {p : Int32} (hv : S 12 4 = 0 ∨ S 12 4 = 1) : az_M X 74 [.ref a, .int p] (bw w a S) sz sl (some (.int (pO S p)), (bw w a S), sz, sl) := by
  refine az_Mof hd74 ?_
  show az_Ev X 74 0 [.ref a, .int p] [] (bw w a S) sz sl _
  refine E_al0 k74_0 ?_
  refine E_il1 k74_1 ?_
  refine E_cv1 k74_2 (Or.inl rfl) bw_0 cl73 rfl rfl (s_kindOwedAt hv) ?_
  refine E_ifeq k74_3 (fun c3 => ?_) (fun d3 => ?_)
  · skip
    refine E_al0 k74_6 ?_
    refine E_get k74_7 bw_0 rfl ?_
    refine E_al0 k74_8 ?_
    refine E_get k74_9 bw_0 rfl ?_
    refine E_cv0 k74_10 (Or.inl rfl) bw_11 cl85 rfl rfl s_stepsDone ?_
    refine E_il1 k74_11 ?_
    refine E_iadd k74_12 ?_
    refine E_cv1 k74_13 (Or.inl rfl) bw_9 cl19 rfl rfl (s_pageOfContent bw_9 bw_10) ?_
    exact E_iret k74_14 hd74 rfl (by (rw [pO, if_pos c3]; rfl))
  · skip
    refine E_bipush k74_4 ?_
    exact E_iret k74_5 hd74 rfl (by rw [pO, if_neg d3])
set_option maxRecDepth 20000 in
theorem s_canGoOn {X : az_X} {w : az_W} {sz sl : Nat} {a : Nat} {S : az_S} (hv : S 12 4 = 0 ∨ S 12 4 = 1) : az_M X 75 [.ref a] (bw w a S) sz sl (some (.int (zb (cgB S))), (bw w a S), sz, sl) := by
  refine az_Mof hd75 ?_
  show az_Ev X 75 0 [.ref a] [] (bw w a S) sz sl _
  refine E_al0 k75_0 ?_
  refine E_get k75_1 bw_0 rfl ?_
  refine E_cv0 k75_2 (Or.inl rfl) bw_11 cl84 rfl rfl (s_goesOn hv) ?_
  refine E_ifeq k75_3 (fun c3 => ?_) (fun d3 => ?_)
  · skip
    refine E_iconst k75_14 ?_
    exact E_zret k75_15 hd75 rfl (by first | exact Or.inl rfl | exact Or.inr rfl | exact zb01 _ | assumption) (by first | (rw [cgB_1 c3]; rfl) | (rw [cgB_2 d3 c7]; rfl) | (rw [cgB_3 (Classical.not_not.mp d7) c11]; rfl) | (rw [cgB_4 d3 d11]; rfl))
  · skip
    refine E_al0 k75_4 ?_
    refine E_iconst k75_5 ?_
    refine E_cv1 k75_6 (Or.inl rfl) bw_0 cl73 rfl rfl (s_kindOwedAt hv) ?_
    refine E_ifne k75_7 (fun c7 => ?_) (fun d7 => ?_)
    · skip
      refine E_iconst k75_12 ?_
      refine E_goto k75_13 ?_
      exact E_zret k75_15 hd75 rfl (by first | exact Or.inl rfl | exact Or.inr rfl | exact zb01 _ | assumption) (by first | (rw [cgB_1 c3]; rfl) | (rw [cgB_2 d3 c7]; rfl) | (rw [cgB_3 (Classical.not_not.mp d7) c11]; rfl) | (rw [cgB_4 d3 d11]; rfl))
    · skip
      refine E_al0 k75_8 ?_
      refine E_cv0 k75_9 (Or.inl rfl) bw_0 cl70 rfl rfl s_cellToWrite ?_
      refine E_bipush k75_10 ?_
      refine E_iceq k75_11 (fun c11 => ?_) (fun d11 => ?_)
      · skip
        refine E_iconst k75_14 ?_
        exact E_zret k75_15 hd75 rfl (by first | exact Or.inl rfl | exact Or.inr rfl | exact zb01 _ | assumption) (by first | (rw [cgB_1 c3]; rfl) | (rw [cgB_2 d3 c7]; rfl) | (rw [cgB_3 (Classical.not_not.mp d7) c11]; rfl) | (rw [cgB_4 d3 d11]; rfl))
      · skip
        refine E_iconst k75_12 ?_
        refine E_goto k75_13 ?_
        exact E_zret k75_15 hd75 rfl (by first | exact Or.inl rfl | exact Or.inr rfl | exact zb01 _ | assumption) (by first | (rw [cgB_1 c3]; rfl) | (rw [cgB_2 d3 c7]; rfl) | (rw [cgB_3 (Classical.not_not.mp d7) c11]; rfl) | (rw [cgB_4 d3 d11]; rfl))
