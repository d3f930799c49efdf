/-! methods' runs, laid by wip/whole/walk.py out of wip/whole/specs9.py -/
/-! the whole object, in its world -/
def recW (w : az_W) (o n : Nat) (N T : az_S) : az_W := va_up (bw w (51 + 24 * ((o + n) % 4)) (dCp N T)) 49 (.inr (3, [.ref 50, .int (nI (if n < 4 then o else (o + 1) % 4)), .int (nI (if n < 4 then n + 1 else n))]))
def OKS (S : az_S) : Prop := SV S ∧ (S 12 6 = 0 ∨ S 12 6 = 1)
def GW (w : az_W) (N P : az_S) (kp : Int32) (o n : Nat) (Hs : Nat → az_S) (ch pg tl : Nat → Int32) (m : Nat) (e : Int32) : Prop :=
  w 0 = .inr (8, [.ref 1, .ref 25, .ref 49, .ref 147, .int kp]) ∧ BK w 1 N ∧ BK w 25 P ∧ w 49 = .inr (3, [.ref 50, .int (nI o), .int (nI n)]) ∧ w 50 = .inl (4, 4, .inr (.inr (.inr (.inr (rwf 51))))) ∧ (∀ i, i < 4 → BK w (51 + 24 * i) (Hs i)) ∧
  (∀ k, k < 4 → w (147 + k) = tblk 147 ch pg tl (nI m) e k) ∧ o < 4 ∧ n ≤ 4 ∧ m ≤ 60 ∧ (kp = 0 ∨ kp = 1) ∧ OKS N ∧ OKS P ∧ ∀ i, i < 4 → OKS (Hs i)
theorem eqw {w : az_W} {a k : Nat} {S : az_S} {x : va_E} (h : bw w a S = w) (e : bw w a S k = x) : w k = x := by rw [h] at e; exact e
theorem rd_w {X : az_X} {M : Nat} {args : List Value} {w : az_W} {a sz sl : Nat} {S : az_S} {r : Option Value} (h : bw w a S = w) (s : az_M X M args (bw w a S) sz sl (r, bw w a S, sz, sl)) : az_M X M args w sz sl (r, w, sz, sl) := by rw [h] at s; exact s
theorem wr_w {X : az_X} {M : Nat} {args : List Value} {w : az_W} {a sz sl : Nat} {S T : az_S} {r : Option Value} (h : bw w a S = w) (s : az_M X M args (bw w a S) sz sl (r, bw w a T, sz, sl)) : az_M X M args w sz sl (r, bw w a T, sz, sl) := by rw [h] at s; exact s
section
variable {w : az_W} {N P : az_S} {kp : Int32} {o n : Nat} {Hs : Nat → az_S} {ch pg tl : Nat → Int32} {m : Nat} {e : Int32}
theorem gw_n (h : GW w N P kp o n Hs ch pg tl m e) : bw w 1 N = w := bw_in h.2.1
theorem gw_ok (h : GW w N P kp o n Hs ch pg tl m e) : OKS N := h.2.2.2.2.2.2.2.2.2.2.2.1
theorem gw_hi (h : GW w N P kp o n Hs ch pg tl m e) : w 49 = .inr (3, [.ref 50, .int (nI o), .int (nI n)]) := h.2.2.2.1
theorem gw_t (h : GW w N P kp o n Hs ch pg tl m e) : tw w 147 ch pg tl (nI m) e = w := tw_in h.2.2.2.2.2.2.1
theorem s_rec {X : az_X} {sz sl : Nat} (h : GW w N P kp o n Hs ch pg tl m e) : az_M X 33 [.ref 49, .ref 1] w sz sl (none, recW w o n N (Hs ((o + n) % 4)), sz, sl) :=
  s_record (gw_hi h) h.2.2.2.2.1 h.2.2.2.2.2.2.2.1 h.2.2.2.2.2.2.2.2.1 (h.2.2.2.2.2.1 _ (Nat.mod_lt _ (by decide))) h.2.1 (Or.inl (by decide)) (Or.inl (by decide)) (gw_ok h).1
theorem rec_out (h : GW w N P kp o n Hs ch pg tl m e) {T : az_S} {k : Nat} (hk : k < 49 ∨ 147 ≤ k) : recW w o n N T k = w k := by
  have hx : (o + n) % 4 < 4 := Nat.mod_lt _ (by decide)
  unfold recW
  have e1 : ∀ (v : az_W) (x : va_E), va_up v 49 x k = v k := fun v x => by
    have : k ≠ 49 := by omega
    simp [va_up, this]
  rw [e1, bw_out (by omega)]
theorem rec_main (h : GW w N P kp o n Hs ch pg tl m e) {T : az_S} : recW w o n N T 0 = .inr (8, [.ref 1, .ref 25, .ref 49, .ref 147, .int kp]) := (rec_out h (Or.inl (by decide))).trans h.1
theorem rec_now (h : GW w N P kp o n Hs ch pg tl m e) {T : az_S} : bw (recW w o n N T) 1 N = recW w o n N T := bw_in (fun k hk => (rec_out h (Or.inl (by omega))).trans (h.2.1 k hk))
theorem rec_text (h : GW w N P kp o n Hs ch pg tl m e) {T : az_S} : tw (recW w o n N T) 147 ch pg tl (nI m) e = recW w o n N T := tw_in (fun k hk => (rec_out h (Or.inr (by omega))).trans (h.2.2.2.2.2.2.1 k hk))
end
theorem eqt {w : az_W} {p k : Nat} {ch pg tl : Nat → Int32} {n e : Int32} {x : va_E} (h : tw w p ch pg tl n e = w) (q : tw w p ch pg tl n e k = x) : w k = x := by rw [h] at q; exact q
theorem rd_t {X : az_X} {M : Nat} {args : List Value} {w : az_W} {p sz sl : Nat} {ch pg tl : Nat → Int32} {n e : Int32} {r : Option Value} (h : tw w p ch pg tl n e = w) (s : az_M X M args (tw w p ch pg tl n e) sz sl (r, tw w p ch pg tl n e, sz, sl)) : az_M X M args w sz sl (r, w, sz, sl) := by rw [h] at s; exact s
theorem wr_t {X : az_X} {M : Nat} {args : List Value} {w v : az_W} {p sz sl : Nat} {ch pg tl : Nat → Int32} {n e : Int32} {r : Option Value} (h : tw w p ch pg tl n e = w) (s : az_M X M args (tw w p ch pg tl n e) sz sl (r, v, sz, sl)) : az_M X M args w sz sl (r, v, sz, sl) := by rw [h] at s; exact s
/-- what an act makes of the world: a record, and the state -/
def aw (w : az_W) (o n : Nat) (N : az_S) (Hs : Nat → az_S) (r : Option az_S) : az_W := match r with
  | none => w
  | some N' => bw (recW w o n N (Hs ((o + n) % 4))) 1 N'
def pT (S : az_S) : Nat := cnt (fun i => decide (¬ S 5 i = -1)) 8
def fTell (N : az_S) (p v : Int32) : Int32 × Option az_S := if ¬ N 12 4 = 0 then (-4, none) else if ix 8 (-1) (N 5) p = v then (-5, none) else (nI (pT (va_up N 5 (ixu 8 (N 5) p v))), some (va_up N 5 (ixu 8 (N 5) p v)))
def fWrite (N : az_S) (p c : Int32) : Int32 × Option az_S := if pgn 8 p = false then (-1, none) else if c < 0 then (-2, none) else if ¬ c ≤ 999 then (-2, none) else fTell N p c
def fDrop (N : az_S) (p : Int32) : Int32 × Option az_S := if pgn 8 p = false then (-1, none) else fTell N p (-5)
def fClear (N : az_S) : Int32 × Option az_S := if ¬ N 12 4 = 0 then (-4, none) else if pT N = 0 then (-5, none) else (nI (pT N), some (dDesk N))
def fBegin (N : az_S) : Int32 × Option az_S := if ¬ N 12 4 = 0 then (-4, none) else if pT N = 0 then (-5, none) else (sO (sN N 4 1), some (sN N 4 1))
def fStep (N : az_S) : Int32 × Option az_S := if N 12 4 = 0 then (-5, none) else if cgB N = false then (-3, none) else (sO (dGo N), some (dGo N))
def fGive (N : az_S) : Int32 × Option az_S := if N 12 4 = 0 then (-5, none) else (N 12 5, some (dEnd N))
def gN (S : az_S) : Int32 := tN S (S 12 6)
def fCrash (N : az_S) (b : Bool) : Int32 × Option az_S := let T := dLose (if b = true then dTear N else N); (gN T, some T)
def fOpen (N : az_S) : Int32 × Option az_S := if fi (fun i => decide (N 7 i = 0)) 4 = -5 then (-3, none) else (fi (fun i => decide (N 7 i = 0)) 4, some (dAdm N (fi (fun i => decide (N 7 i = 0)) 4).toNatClampNeg))
def fClose (N : az_S) (r : Int32) : Int32 × Option az_S := if hsB N r = false then (-1, none) else (nI (cnt (fun i => decide (¬ va_up N 7 (upd (N 7) r.toNatClampNeg 0) 7 i = 0)) 4), some (va_up N 7 (upd (N 7) r.toNatClampNeg 0)))
def fRest (N P : az_S) (kp : Int32) : Int32 × Option az_S := if kp = 0 then (-5, none) else (gN (dCp P N), some (dCp P N))
theorem pT_lt (S : az_S) : pT S < 2 ^ 31 := Nat.lt_of_le_of_lt (cnt_le _ 8) (by decide)
def fRead (N : az_S) (p : Int32) : Int32 := if pgn 8 p = false then -1 else cbo N p
def fReadD (N : az_S) (p : Int32) : Int32 := if pgn 8 p = false then -1 else cbd N p
def fReadB (N : az_S) (r p : Int32) : Int32 := if hsB N r = false then -1 else if pgn 8 p = false then -1 else ix 24 (-5) (N 0) (if hsB N r = true then ix 8 (-5) (N (8 + r.toNatClampNeg)) p else -5)
def fReader (N : az_S) (r : Int32) : Int32 := if hsB N r = false then -1 else (if hsB N r = true then N 12 (9 + 2 * r.toNatClampNeg) else -5)
def fOwed (N : az_S) (p q : Int32) : Int32 := if p < 0 then -2 else if q < 0 then -2 else if ¬ q ≤ 1 then -2 else if ¬ p < sO N then -5 else if ¬ q = 0 then pO N p else kO N p

set_option maxRecDepth 20000 in
theorem m_read {X : az_X} {w : az_W} {sz sl : Nat} {N P : az_S} {kp : Int32} {o n : Nat} {Hs : Nat → az_S} {ch pg tl : Nat → Int32} {m : Nat} {e : Int32} {p : Int32} (hg : GW w N P kp o n Hs ch pg tl m e) : az_M X 111 [.ref 0, .int p] w sz sl (some (.int (fRead N p)), w, sz, sl) := by
  refine az_Mof hd111 ?_
  show az_Ev X 111 0 [.ref 0, .int p] [] w sz sl _
  refine E_il1 k111_0 ?_
  refine E_cs1 k111_1 (Or.inl rfl) rfl rfl (s_isPage) ?_
  refine E_zne k111_2 (fun c2 => ?_) (fun d2 => ?_)
  · skip
    refine E_al0 k111_5 ?_
    refine E_get k111_6 hg.1 rfl ?_
    refine E_il1 k111_7 ?_
    refine E_cv1 k111_8 (Or.inl rfl) (eqw (gw_n hg) bw_0) cl65 rfl rfl (rd_w (gw_n hg) s_contentByOld) ?_
    exact E_iret k111_9 hd111 rfl (by rw [fRead, if_neg (by rw [c2]; decide)])
  · skip
    refine E_iconst k111_3 ?_
    exact E_iret k111_4 hd111 rfl (by rw [fRead, if_pos d2])
set_option maxRecDepth 20000 in
theorem m_readDesk {X : az_X} {w : az_W} {sz sl : Nat} {N P : az_S} {kp : Int32} {o n : Nat} {Hs : Nat → az_S} {ch pg tl : Nat → Int32} {m : Nat} {e : Int32} {p : Int32} (hg : GW w N P kp o n Hs ch pg tl m e) : az_M X 112 [.ref 0, .int p] w sz sl (some (.int (fReadD N p)), w, sz, sl) := by
  refine az_Mof hd112 ?_
  show az_Ev X 112 0 [.ref 0, .int p] [] w sz sl _
  refine E_il1 k112_0 ?_
  refine E_cs1 k112_1 (Or.inl rfl) rfl rfl (s_isPage) ?_
  refine E_zne k112_2 (fun c2 => ?_) (fun d2 => ?_)
  · skip
    refine E_al0 k112_5 ?_
    refine E_get k112_6 hg.1 rfl ?_
    refine E_il1 k112_7 ?_
    refine E_cv1 k112_8 (Or.inl rfl) (eqw (gw_n hg) bw_0) cl66 rfl rfl (rd_w (gw_n hg) s_contentByDesk) ?_
    exact E_iret k112_9 hd112 rfl (by rw [fReadD, if_neg (by rw [c2]; decide)])
  · skip
    refine E_iconst k112_3 ?_
    exact E_iret k112_4 hd112 rfl (by rw [fReadD, if_pos d2])
set_option maxRecDepth 20000 in
theorem m_readBy {X : az_X} {w : az_W} {sz sl : Nat} {N P : az_S} {kp : Int32} {o n : Nat} {Hs : Nat → az_S} {ch pg tl : Nat → Int32} {m : Nat} {e : Int32} {r p : Int32} (hg : GW w N P kp o n Hs ch pg tl m e) : az_M X 113 [.ref 0, .int r, .int p] w sz sl (some (.int (fReadB N r p)), w, sz, sl) := by
  refine az_Mof hd113 ?_
  show az_Ev X 113 0 [.ref 0, .int r, .int p] [] w sz sl _
  refine E_al0 k113_0 ?_
  refine E_get k113_1 hg.1 rfl ?_
  refine E_get k113_2 (eqw (gw_n hg) bw_0) rfl ?_
  refine E_il1 k113_3 ?_
  refine E_cv1 k113_4 (Or.inl rfl) (eqw (gw_n hg) bw_13) cl49 rfl rfl (rd_w (gw_n hg) s_has) ?_
  refine E_zeq k113_5 (fun c5 => ?_) (fun d5 => ?_)
  · skip
    refine E_iconst k113_9 ?_
    exact E_iret k113_10 hd113 rfl (by first | (rw [fReadB, if_pos c5]; done) | (rw [fReadB, if_neg (by rw [d5]; decide), if_pos d8]; done))
  · skip
    refine E_il2 k113_6 ?_
    refine E_cs1 k113_7 (Or.inl rfl) rfl rfl (s_isPage) ?_
    refine E_zne k113_8 (fun c8 => ?_) (fun d8 => ?_)
    · skip
      refine E_al0 k113_11 ?_
      refine E_get k113_12 hg.1 rfl ?_
      refine E_get k113_13 (eqw (gw_n hg) bw_0) rfl ?_
      refine E_al0 k113_14 ?_
      refine E_get k113_15 hg.1 rfl ?_
      refine E_get k113_16 (eqw (gw_n hg) bw_0) rfl ?_
      refine E_il1 k113_17 ?_
      refine E_il2 k113_18 ?_
      refine E_cv2 k113_19 (Or.inl rfl) (eqw (gw_n hg) bw_13) cl57 rfl rfl (rd_w (gw_n hg) s_rCellOf) ?_
      refine E_cv1 k113_20 (Or.inl rfl) (eqw (gw_n hg) bw_1) cl4 rfl rfl (rd_w (gw_n hg) (s_contentOf bw_1 bw_2)) ?_
      exact E_iret k113_21 hd113 rfl (by rw [fReadB, if_neg (by rw [d5]; decide), if_neg (by rw [c8]; decide)])
    · skip
      refine E_iconst k113_9 ?_
      exact E_iret k113_10 hd113 rfl (by first | (rw [fReadB, if_pos c5]; done) | (rw [fReadB, if_neg (by rw [d5]; decide), if_pos d8]; done))
set_option maxRecDepth 20000 in
theorem m_reader {X : az_X} {w : az_W} {sz sl : Nat} {N P : az_S} {kp : Int32} {o n : Nat} {Hs : Nat → az_S} {ch pg tl : Nat → Int32} {m : Nat} {e : Int32} {r : Int32} (hg : GW w N P kp o n Hs ch pg tl m e) : az_M X 117 [.ref 0, .int r] w sz sl (some (.int (fReader N r)), w, sz, sl) := by
  refine az_Mof hd117 ?_
  show az_Ev X 117 0 [.ref 0, .int r] [] w sz sl _
  refine E_al0 k117_0 ?_
  refine E_get k117_1 hg.1 rfl ?_
  refine E_get k117_2 (eqw (gw_n hg) bw_0) rfl ?_
  refine E_il1 k117_3 ?_
  refine E_cv1 k117_4 (Or.inl rfl) (eqw (gw_n hg) bw_13) cl49 rfl rfl (rd_w (gw_n hg) s_has) ?_
  refine E_zne k117_5 (fun c5 => ?_) (fun d5 => ?_)
  · skip
    refine E_al0 k117_8 ?_
    refine E_get k117_9 hg.1 rfl ?_
    refine E_get k117_10 (eqw (gw_n hg) bw_0) rfl ?_
    refine E_il1 k117_11 ?_
    refine E_cv1 k117_12 (Or.inl rfl) (eqw (gw_n hg) bw_13) cl56 rfl rfl (rd_w (gw_n hg) s_numberOf) ?_
    exact E_iret k117_13 hd117 rfl (by rw [fReader, if_neg (by rw [c5]; decide)])
  · skip
    refine E_iconst k117_6 ?_
    exact E_iret k117_7 hd117 rfl (by rw [fReader, if_pos d5])
set_option maxRecDepth 20000 in
theorem m_owed {X : az_X} {w : az_W} {sz sl : Nat} {N P : az_S} {kp : Int32} {o n : Nat} {Hs : Nat → az_S} {ch pg tl : Nat → Int32} {m : Nat} {e : Int32} {p q : Int32} (hg : GW w N P kp o n Hs ch pg tl m e) : az_M X 116 [.ref 0, .int p, .int q] w sz sl (some (.int (fOwed N p q)), w, sz, sl) := by
  refine az_Mof hd116 ?_
  show az_Ev X 116 0 [.ref 0, .int p, .int q] [] w sz sl _
  refine E_il1 k116_0 ?_
  refine E_iflt k116_1 (fun c1 => ?_) (fun d1 => ?_)
  · skip
    refine E_bipush k116_7 ?_
    exact E_iret k116_8 hd116 rfl (by first | (rw [fOwed, if_pos c1]; done) | (rw [fOwed, if_neg d1, if_pos c3]; done) | (rw [fOwed, if_neg d1, if_neg d3, if_pos d6]; done))
  · skip
    refine E_il2 k116_2 ?_
    refine E_iflt k116_3 (fun c3 => ?_) (fun d3 => ?_)
    · skip
      refine E_bipush k116_7 ?_
      exact E_iret k116_8 hd116 rfl (by first | (rw [fOwed, if_pos c1]; done) | (rw [fOwed, if_neg d1, if_pos c3]; done) | (rw [fOwed, if_neg d1, if_neg d3, if_pos d6]; done))
    · skip
      refine E_il2 k116_4 ?_
      refine E_iconst k116_5 ?_
      refine E_icle k116_6 (fun c6 => ?_) (fun d6 => ?_)
      · skip
        refine E_il1 k116_9 ?_
        refine E_al0 k116_10 ?_
        refine E_get k116_11 hg.1 rfl ?_
        refine E_cv0 k116_12 (Or.inl rfl) (eqw (gw_n hg) bw_0) cl71 rfl rfl (rd_w (gw_n hg) (s_stepsOwed (gw_ok hg).1.2.2.2.1)) ?_
        refine E_iclt k116_13 (fun c13 => ?_) (fun d13 => ?_)
        · skip
          refine E_il2 k116_16 ?_
          refine E_ifne k116_17 (fun c17 => ?_) (fun d17 => ?_)
          · skip
            refine E_al0 k116_23 ?_
            refine E_get k116_24 hg.1 rfl ?_
            refine E_il1 k116_25 ?_
            refine E_cv1 k116_26 (Or.inl rfl) (eqw (gw_n hg) bw_0) cl74 rfl rfl (rd_w (gw_n hg) (s_pageOwedAt (gw_ok hg).1.2.2.2.1)) ?_
            exact E_iret k116_27 hd116 rfl (by first | (rw [fOwed, if_neg d1, if_neg d3, if_neg (fun z => z c6), if_neg (fun z => z c13), if_pos c17]; done) | (rw [fOwed, if_neg d1, if_neg d3, if_neg (fun z => z c6), if_neg (fun z => z c13), if_neg d17]; done))
          · skip
            refine E_al0 k116_18 ?_
            refine E_get k116_19 hg.1 rfl ?_
            refine E_il1 k116_20 ?_
            refine E_cv1 k116_21 (Or.inl rfl) (eqw (gw_n hg) bw_0) cl73 rfl rfl (rd_w (gw_n hg) (s_kindOwedAt (gw_ok hg).1.2.2.2.1)) ?_
            refine E_goto k116_22 ?_
            exact E_iret k116_27 hd116 rfl (by first | (rw [fOwed, if_neg d1, if_neg d3, if_neg (fun z => z c6), if_neg (fun z => z c13), if_pos c17]; done) | (rw [fOwed, if_neg d1, if_neg d3, if_neg (fun z => z c6), if_neg (fun z => z c13), if_neg d17]; done))
        · skip
          refine E_bipush k116_14 ?_
          exact E_iret k116_15 hd116 rfl (by rw [fOwed, if_neg d1, if_neg d3, if_neg (fun z => z c6), if_pos d13])
      · skip
        refine E_bipush k116_7 ?_
        exact E_iret k116_8 hd116 rfl (by first | (rw [fOwed, if_pos c1]; done) | (rw [fOwed, if_neg d1, if_pos c3]; done) | (rw [fOwed, if_neg d1, if_neg d3, if_pos d6]; done))
