/-! methods' runs, laid by wip/whole/walk.py out of wip/whole/specs17.py -/
/-! the reference's acts: its cells as one picture -/
def mb (T : az_S) : Nat → va_E
  | 0 => .inr (9, [.ref 152, .ref 153, .int (T 5 0), .ref 154, .int (T 5 1), .ref 155, .int (T 5 2), .int (T 5 3), .ref 156, .int (T 5 4)])
  | 1 => .inl (0, 153, .inl (T 0))
  | 2 => .inl (0, 612, .inl (T 1))
  | 3 => .inl (0, 153, .inl (T 2))
  | 4 => .inl (1, 60, .inl (T 3))
  | _ => .inl (0, 42, .inl (T 4))
def mw (w : az_W) (T : az_S) : az_W := bk w 151 6 (mb T)
theorem mw_0 {w : az_W} {T : az_S} : mw w T 151 = .inr (9, [.ref 152, .ref 153, .int (T 5 0), .ref 154, .int (T 5 1), .ref 155, .int (T 5 2), .int (T 5 3), .ref 156, .int (T 5 4)]) := bk_at 0 (by decide)
theorem mw_1 {w : az_W} {T : az_S} : mw w T 152 = .inl (0, 153, .inl (T 0)) := bk_at 1 (by decide)
theorem mw_2 {w : az_W} {T : az_S} : mw w T 153 = .inl (0, 612, .inl (T 1)) := bk_at 2 (by decide)
theorem mw_3 {w : az_W} {T : az_S} : mw w T 154 = .inl (0, 153, .inl (T 2)) := bk_at 3 (by decide)
theorem mw_4 {w : az_W} {T : az_S} : mw w T 155 = .inl (1, 60, .inl (T 3)) := bk_at 4 (by decide)
theorem mw_5 {w : az_W} {T : az_S} : mw w T 156 = .inl (0, 42, .inl (T 4)) := bk_at 5 (by decide)
theorem mu_k {w : az_W} {T T' : az_S} {c : Nat} {e : va_E} (hc : c < 6) (he : mb T' c = e) (ho : ∀ j, j < 6 → j ≠ c → mb T' j = mb T j) : va_up (mw w T) (151 + c) e = mw w T' := by
  refine (bk_ext (fun k hk => ?_) (fun i hi => ?_)).symm
  · rw [up_x (by omega)]
    exact bk_out hk
  · by_cases q : i = c
    · subst q
      rw [up_eq, he]
    · rw [up_x (by omega), ho i hi q]
      exact bk_at i hi
theorem mu_1 {w : az_W} {T : az_S} {g : Nat → Int32} : va_up (mw w T) 152 (.inl (0, 153, .inl g)) = mw w (va_up T 0 g) := mu_k (c := 1) (by decide) rfl (fun j hj hn => by
  have q : j = 0 ∨ j = 2 ∨ j = 3 ∨ j = 4 ∨ j = 5 := by omega
  rcases q with q | q | q | q | q <;> subst q <;> rfl)
theorem sU_s {T : az_S} {c : Nat} : va_up T c (T c) = T := by
  funext k
  by_cases h : k = c
  · subst h; simp [va_up]
  · simp [va_up, h]
theorem sU_sU {T : az_S} {c : Nat} {g g2 : Nat → Int32} : va_up (va_up T c g) c g2 = va_up T c g2 := by
  funext k
  by_cases h : k = c
  · subst h; simp [va_up]
  · simp [va_up, h]
def fll (f : Nat → Int32) (s : Nat) (v : Int32) (j : Nat) : Nat → Int32 := fun k => if s ≤ k ∧ k < s + j then v else f k
theorem fll_0 {f : Nat → Int32} {s : Nat} {v : Int32} : fll f s v 0 = f := by
  funext k
  unfold fll
  rw [if_neg (by omega)]
theorem fll_s {f : Nat → Int32} {s j : Nat} {v : Int32} : upd (fll f s v j) (s + j) v = fll f s v (j + 1) := by
  funext k
  unfold upd fll
  by_cases h : k = s + j
  · rw [if_pos h, if_pos (by omega)]
  · by_cases h2 : s ≤ k ∧ k < s + j
    · rw [if_neg h, if_pos h2, if_pos (by omega)]
    · rw [if_neg h, if_neg h2, if_neg (by omega)]
theorem mf_0 {w : az_W} {T : az_S} {s : Nat} {v : Int32} : mw w T = mw w (va_up T 0 (fll (T 0) s v 0)) := by rw [fll_0, sU_s]
theorem mf_s {w : az_W} {T : az_S} {s j : Nat} {v : Int32} {f : Nat → Int32} : mw w (va_up (va_up T 0 (fll f s v j)) 0 (upd (va_up T 0 (fll f s v j) 0) (s + j) v)) = mw w (va_up T 0 (fll f s v (j + 1))) := by rw [sU_sU, sU_eq, fll_s]
def tDesk (T : az_S) : az_S := va_up T 0 (fll (T 0) 93 (-5) 8)
def tEnd (T : az_S) : az_S := va_up T 0 (fll (upd (upd (T 0) 101 0) 102 0) 103 (-5) 8)
def wrR (f : Nat → Int32) (c : Nat) (v s : Int32) : Nat → Int32 := let g := upd (upd f (0 + c) v) (24 + c) ((sealOf v + s) - (sealOf v + s) / 101 * 101); upd g (48 + c) (g (48 + c) + 1)
theorem mu_2 {w : az_W} {T : az_S} {g : Nat → Int32} : va_up (mw w T) 153 (.inl (0, 612, .inl g)) = mw w (va_up T 1 g) := mu_k (c := 2) (by decide) rfl (fun j hj hn => by
  have q : j = 0 ∨ j = 1 ∨ j = 3 ∨ j = 4 ∨ j = 5 := by omega
  rcases q with q | q | q | q | q <;> subst q <;> rfl)
theorem mu_3 {w : az_W} {T : az_S} {g : Nat → Int32} : va_up (mw w T) 154 (.inl (0, 153, .inl g)) = mw w (va_up T 2 g) := mu_k (c := 3) (by decide) rfl (fun j hj hn => by
  have q : j = 0 ∨ j = 1 ∨ j = 2 ∨ j = 4 ∨ j = 5 := by omega
  rcases q with q | q | q | q | q <;> subst q <;> rfl)
theorem mu_p {w : az_W} {T : az_S} {i : Nat} {x : Int32} {l : List Value} (hl : l = (match i with | 0 => [.ref 152, .ref 153, .int x, .ref 154, .int (T 5 1), .ref 155, .int (T 5 2), .int (T 5 3), .ref 156, .int (T 5 4)] | 1 => [.ref 152, .ref 153, .int (T 5 0), .ref 154, .int x, .ref 155, .int (T 5 2), .int (T 5 3), .ref 156, .int (T 5 4)] | 2 => [.ref 152, .ref 153, .int (T 5 0), .ref 154, .int (T 5 1), .ref 155, .int x, .int (T 5 3), .ref 156, .int (T 5 4)] | 3 => [.ref 152, .ref 153, .int (T 5 0), .ref 154, .int (T 5 1), .ref 155, .int (T 5 2), .int x, .ref 156, .int (T 5 4)] | _ => [.ref 152, .ref 153, .int (T 5 0), .ref 154, .int (T 5 1), .ref 155, .int (T 5 2), .int (T 5 3), .ref 156, .int x])) (hi : i < 5) : va_up (mw w T) 151 (.inr (9, l)) = mw w (va_up T 5 (upd (T 5) i x)) := mu_k (c := 0) (by decide) (by
  subst hl
  have q : i = 0 ∨ i = 1 ∨ i = 2 ∨ i = 3 ∨ i = 4 := by omega
  rcases q with q | q | q | q | q <;> subst q <;> rfl) (fun j hj hn => by
  have q : j = 1 ∨ j = 2 ∨ j = 3 ∨ j = 4 ∨ j = 5 := by omega
  rcases q with q | q | q | q | q <;> subst q <;> rfl)
theorem mu_p0 {w : az_W} {T : az_S} {x : Int32} : va_up (mw w T) 151 (.inr (9, List.set [.ref 152, .ref 153, .int (T 5 0), .ref 154, .int (T 5 1), .ref 155, .int (T 5 2), .int (T 5 3), .ref 156, .int (T 5 4)] 2 (.int x))) = mw w (va_up T 5 (upd (T 5) 0 x)) := mu_p (i := 0) rfl (by decide)
theorem mu_p1 {w : az_W} {T : az_S} {x : Int32} : va_up (mw w T) 151 (.inr (9, List.set [.ref 152, .ref 153, .int (T 5 0), .ref 154, .int (T 5 1), .ref 155, .int (T 5 2), .int (T 5 3), .ref 156, .int (T 5 4)] 4 (.int x))) = mw w (va_up T 5 (upd (T 5) 1 x)) := mu_p (i := 1) rfl (by decide)
theorem mu_p2 {w : az_W} {T : az_S} {x : Int32} : va_up (mw w T) 151 (.inr (9, List.set [.ref 152, .ref 153, .int (T 5 0), .ref 154, .int (T 5 1), .ref 155, .int (T 5 2), .int (T 5 3), .ref 156, .int (T 5 4)] 6 (.int x))) = mw w (va_up T 5 (upd (T 5) 2 x)) := mu_p (i := 2) rfl (by decide)
theorem mu_p3 {w : az_W} {T : az_S} {x : Int32} : va_up (mw w T) 151 (.inr (9, List.set [.ref 152, .ref 153, .int (T 5 0), .ref 154, .int (T 5 1), .ref 155, .int (T 5 2), .int (T 5 3), .ref 156, .int (T 5 4)] 7 (.int x))) = mw w (va_up T 5 (upd (T 5) 3 x)) := mu_p (i := 3) rfl (by decide)
theorem mu_p4 {w : az_W} {T : az_S} {x : Int32} : va_up (mw w T) 151 (.inr (9, List.set [.ref 152, .ref 153, .int (T 5 0), .ref 154, .int (T 5 1), .ref 155, .int (T 5 2), .int (T 5 3), .ref 156, .int (T 5 4)] 9 (.int x))) = mw w (va_up T 5 (upd (T 5) 4 x)) := mu_p (i := 4) rfl (by decide)
def lyf (f : Nat → Int32) (o1 : Nat) (g : Nat → Int32) (o2 j : Nat) : Nat → Int32 := fun k => if o2 ≤ k ∧ k < o2 + j then f (o1 + (k - o2)) else g k
theorem lyf_0 {f g : Nat → Int32} {o1 o2 : Nat} : lyf f o1 g o2 0 = g := by
  funext k
  unfold lyf
  rw [if_neg (by omega)]
theorem lyf_s {f g : Nat → Int32} {o1 o2 j : Nat} : upd (lyf f o1 g o2 j) (o2 + j) (f (o1 + j)) = lyf f o1 g o2 (j + 1) := by
  funext k
  unfold upd lyf
  by_cases h : k = o2 + j
  · subst h
    rw [if_pos rfl, if_pos (by omega), show o2 + j - o2 = j by omega]
  · by_cases h2 : o2 ≤ k ∧ k < o2 + j
    · rw [if_neg h, if_pos h2, if_pos (by omega)]
    · rw [if_neg h, if_neg h2, if_neg (by omega)]
def shf (P : Nat → Int32) (j : Nat) : Nat → Int32 := fun k => if k < j then P (k + 153) else P k
theorem shf_0 {P : Nat → Int32} : shf P 0 = P := by
  funext k
  unfold shf
  rw [if_neg (by omega)]
theorem shf_s {P : Nat → Int32} {j : Nat} : upd (shf P j) j (shf P j (j + 153)) = shf P (j + 1) := by
  funext k
  unfold upd shf
  rw [if_neg (show ¬ j + 153 < j by omega)]
  by_cases h : k = j
  · subst h
    rw [if_pos rfl, if_pos (by omega)]
  · by_cases h2 : k < j
    · rw [if_neg h, if_pos h2, if_pos (by omega)]
    · rw [if_neg h, if_neg h2, if_neg (by omega)]
def tR27 (T : az_S) (k : Nat) : az_S := va_up (va_up T 1 (lyf (T 0) 0 (T 1) (153 * k) 153)) 5 (upd (T 5) 0 (nI (k + 1)))
def tSh (T : az_S) : az_S := va_up (va_up T 1 (shf (T 1) 459)) 5 (upd (T 5) 0 3)
def tRec (T : az_S) (k : Nat) : az_S := if k = 4 then tR27 (tSh T) 3 else tR27 T k
theorem tRec_0 {T : az_S} {k : Nat} : tRec T k 0 = T 0 := by
  unfold tRec
  split <;> rfl
theorem nI_eqI {a b : Nat} (ha : a < 2 ^ 31) (hb : b < 2 ^ 31) : nI a = nI b ↔ a = b := by
  constructor
  · intro h
    have := congrArg Int32.toNatClampNeg h
    rwa [nI_clamp ha, nI_clamp hb] at this
  · intro h
    rw [h]

set_option maxRecDepth 20000 in
theorem rf_clearsDesk {X : az_X} {w : az_W} {sz sl : Nat} {T : az_S}   : az_M X 144 [.ref 151] (mw w T) sz sl (none, mw w (tDesk T), sz, sl) := by
  refine az_Mof hd144 ?_
  show az_Ev X 144 0 [.ref 151, .null] [] (mw w T) sz sl _
  refine E_iconst k144_0 ?_
  refine E_is1 k144_1 rfl ?_
  have loop2 : ∀ j : Nat, j ≤ 8 → az_Ev X 144 2 [.ref 151, .int (nI j)] [] (mw w (va_up T 0 (fll (T 0) 93 (-5) j))) sz sl (none, mw w (tDesk T), sz, sl) := by
    refine az_ind 8 _ (fun j hj2 ih2 => ?_)
    refine E_il1 k144_2 ?_
    refine E_bipush k144_3 ?_
    refine E_icge k144_4 (fun c4 => ?_) (fun d4 => ?_)
    · skip
      have he2 := lp_t hj2 (by decide) rfl c4
      subst he2
      exact E_vret k144_14 hd144 rfl rfl
    · skip
      have hlt2 : j < 8 := lp_f (by omega) (by decide) rfl d4
      refine E_al0 k144_5 ?_
      refine E_get k144_6 mw_0 rfl ?_
      refine E_bipush k144_7 ?_
      refine E_il1 k144_8 ?_
      refine E_iadd k144_9 ?_
      refine E_bipush k144_10 ?_
      refine E_asx k144_11 (ixa (show (93 : Int32) = nI 93 from rfl) rfl) mw_1 (by omega) (by decide) ?_
      rw [mu_1]
      refine E_inc1 k144_12 rfl ?_
      refine E_goto k144_13 ?_
      exact ev_cong (ih2 hlt2) (by rw [nI_1]) rfl mf_s
  exact ev_cong (loop2 0 (Nat.zero_le _)) rfl rfl mf_0
set_option maxRecDepth 20000 in
theorem rf_endsSwap {X : az_X} {w : az_W} {sz sl : Nat} {T : az_S}   : az_M X 153 [.ref 151] (mw w T) sz sl (none, mw w (tEnd T), sz, sl) := by
  refine az_Mof hd153 ?_
  show az_Ev X 153 0 [.ref 151, .null] [] (mw w T) sz sl _
  refine E_al0 k153_0 ?_
  refine E_get k153_1 mw_0 rfl ?_
  refine E_bipush k153_2 ?_
  refine E_iconst k153_3 ?_
  refine E_asx k153_4 (show (101 : Int32) = nI 101 from rfl) mw_1 (by omega) (by decide) ?_
  rw [mu_1]
  refine E_al0 k153_5 ?_
  refine E_get k153_6 mw_0 rfl ?_
  refine E_bipush k153_7 ?_
  refine E_iconst k153_8 ?_
  refine E_asx k153_9 (show (102 : Int32) = nI 102 from rfl) mw_1 (by omega) (by decide) ?_
  rw [mu_1]
  refine E_iconst k153_10 ?_
  refine E_is1 k153_11 rfl ?_
  have loop12 : ∀ j : Nat, j ≤ 8 → az_Ev X 153 12 [.ref 151, .int (nI j)] [] (mw w (va_up T 0 (fll (upd (upd (T 0) 101 0) 102 0) 103 (-5) j))) sz sl (none, mw w (tEnd T), sz, sl) := by
    refine az_ind 8 _ (fun j hj12 ih12 => ?_)
    refine E_il1 k153_12 ?_
    refine E_bipush k153_13 ?_
    refine E_icge k153_14 (fun c14 => ?_) (fun d14 => ?_)
    · skip
      have he12 := lp_t hj12 (by decide) rfl c14
      subst he12
      exact E_vret k153_24 hd153 rfl rfl
    · skip
      have hlt12 : j < 8 := lp_f (by omega) (by decide) rfl d14
      refine E_al0 k153_15 ?_
      refine E_get k153_16 mw_0 rfl ?_
      refine E_bipush k153_17 ?_
      refine E_il1 k153_18 ?_
      refine E_iadd k153_19 ?_
      refine E_bipush k153_20 ?_
      refine E_asx k153_21 (ixa (show (103 : Int32) = nI 103 from rfl) rfl) mw_1 (by omega) (by decide) ?_
      rw [mu_1]
      refine E_inc1 k153_22 rfl ?_
      refine E_goto k153_23 ?_
      exact ev_cong (ih12 hlt12) (by rw [nI_1]) rfl mf_s
  exact ev_cong (loop12 0 (Nat.zero_le _)) rfl rfl (by rw [fll_0, sU_sU, sU_eq])
set_option maxRecDepth 20000 in
theorem rf_writes {X : az_X} {w : az_W} {sz sl : Nat} {T : az_S} {x v s : Int32} {c : Nat} (hx : x = nI c) (hc : c < 24) : az_M X 142 [.ref 151, .int x, .int v, .int s] (mw w T) sz sl (none, mw w (va_up T 0 (wrR (T 0) c v s)), sz, sl) := by
  refine az_Mof hd142 ?_
  show az_Ev X 142 0 [.ref 151, .int x, .int v, .int s] [] (mw w T) sz sl _
  refine E_al0 k142_0 ?_
  refine E_get k142_1 mw_0 rfl ?_
  refine E_iconst k142_2 ?_
  refine E_il1 k142_3 ?_
  refine E_iadd k142_4 ?_
  refine E_il2 k142_5 ?_
  refine E_asx k142_6 (ixa (show (0 : Int32) = nI 0 from rfl) hx) mw_1 (by omega) (by decide) ?_
  rw [mu_1]
  refine E_al0 k142_7 ?_
  refine E_get k142_8 mw_0 rfl ?_
  refine E_bipush k142_9 ?_
  refine E_il1 k142_10 ?_
  refine E_iadd k142_11 ?_
  refine E_il2 k142_12 ?_
  refine E_cs1 k142_13 (Or.inl rfl) rfl rfl r_sealOf ?_
  refine E_il3 k142_14 ?_
  refine E_iadd k142_15 ?_
  refine E_bipush k142_16 ?_
  refine E_irem k142_17 (by decide) ?_
  refine E_asx k142_18 (ixa (show (24 : Int32) = nI 24 from rfl) hx) mw_1 (by omega) (by decide) ?_
  rw [mu_1]
  refine E_al0 k142_19 ?_
  refine E_get k142_20 mw_0 rfl ?_
  refine E_bipush k142_21 ?_
  refine E_il1 k142_22 ?_
  refine E_iadd k142_23 ?_
  refine E_dup2 k142_24 ?_
  refine E_alx k142_25 (ixa (show (48 : Int32) = nI 48 from rfl) hx) rfl mw_1 (by omega) (by decide) ?_
  refine E_iconst k142_26 ?_
  refine E_iadd k142_27 ?_
  refine E_asx k142_28 (ixa (show (48 : Int32) = nI 48 from rfl) hx) mw_1 (by omega) (by decide) ?_
  rw [mu_1]
  exact E_vret k142_29 hd142 rfl (by simp only [sU_sU, sU_eq]; rfl)
set_option maxRecDepth 20000 in
theorem rf_lays {X : az_X} {w : az_W} {sz sl : Nat} {r q n m o1 o2 : Nat} {x y : Int32} {f g : Nat → Int32} (h0 : w r = .inl (0, n, .inl f)) (h1 : w q = .inl (0, m, .inl g)) (hne : r ≠ q) (hn : o1 + 153 ≤ n) (hm : o2 + 153 ≤ m) (hn2 : n < 2 ^ 31) (hm2 : m < 2 ^ 31) (hx : x = nI o1) (hy : y = nI o2) : az_M X 130 [.ref r, .int x, .ref q, .int y] w sz sl (none, va_up w q (.inl (0, m, .inl (lyf f o1 g o2 153))), sz, sl) := by
  refine az_Mof hd130 ?_
  show az_Ev X 130 0 [.ref r, .int x, .ref q, .int y, .null] [] w sz sl _
  refine E_iconst k130_0 ?_
  refine E_is4 k130_1 rfl ?_
  have loop2 : ∀ j : Nat, j ≤ 153 → az_Ev X 130 2 [.ref r, .int x, .ref q, .int y, .int (nI j)] [] (va_up w q (.inl (0, m, .inl (lyf f o1 g o2 j)))) sz sl (none, va_up w q (.inl (0, m, .inl (lyf f o1 g o2 153))), sz, sl) := by
    refine az_ind 153 _ (fun j hj2 ih2 => ?_)
    refine E_il4 k130_2 ?_
    refine E_sipush k130_3 ?_
    refine E_icge k130_4 (fun c4 => ?_) (fun d4 => ?_)
    · skip
      have he2 := lp_t hj2 (by decide) rfl c4
      subst he2
      exact E_vret k130_17 hd130 rfl rfl
    · skip
      have hlt2 : j < 153 := lp_f (by omega) (by decide) rfl d4
      refine E_al2 k130_5 ?_
      refine E_il3 k130_6 ?_
      refine E_il4 k130_7 ?_
      refine E_iadd k130_8 ?_
      refine E_al0 k130_9 ?_
      refine E_il1 k130_10 ?_
      refine E_il4 k130_11 ?_
      refine E_iadd k130_12 ?_
      refine E_alx k130_13 (ixa hx rfl) rfl (up_ne h0 hne) (by omega) (by omega) ?_
      refine E_asx k130_14 (ixa hy rfl) up_eq (by omega) (by omega) ?_
      refine E_inc4 k130_15 rfl ?_
      refine E_goto k130_16 ?_
      exact ev_cong (ih2 hlt2) (by rw [nI_1]) rfl (by rw [up_up, lyf_s])
  exact ev_cong (loop2 0 (Nat.zero_le _)) rfl rfl (by rw [lyf_0, up_self h1])
set_option maxRecDepth 20000 in
theorem rf_rec27 {X : az_X} {w : az_W} {sz sl : Nat} {T : az_S} {k : Nat} {v1 : Value} (hp : T 5 0 = nI k) (hk : k < 4) : az_Ev X 131 27 [.ref 151, v1] [] (mw w T) sz sl (none, mw w (tR27 T k), sz, sl) := by
  refine E_al0 k131_27 ?_
  refine E_get k131_28 mw_0 rfl ?_
  refine E_iconst k131_29 ?_
  refine E_al0 k131_30 ?_
  refine E_get k131_31 mw_0 rfl ?_
  refine E_sipush k131_32 ?_
  refine E_al0 k131_33 ?_
  refine E_get k131_34 mw_0 rfl ?_
  refine E_imul k131_35 ?_
  refine E_cs4 k131_36 (Or.inl rfl) rfl rfl (rf_lays mw_1 mw_2 (by decide) (by omega) (by omega) (by decide) (by decide) (show (0 : Int32) = nI 0 from rfl) (ixm (show (153 : Int32) = nI 153 from rfl) hp)) ?_
  rw [mu_2]
  refine E_al0 k131_37 ?_
  refine E_dupR k131_38 ?_
  refine E_get k131_39 mw_0 rfl ?_
  refine E_iconst k131_40 ?_
  refine E_iadd k131_41 ?_
  refine E_put k131_42 mw_0 (Nat.le_of_ble_eq_true rfl) (az_fiti rfl) ?_
  rw [mu_p0]
  exact E_vret k131_43 hd131 rfl (by rw [sU_ne (show (5 : Nat) ≠ 1 by decide), hp, nI_1]; rfl)
set_option maxRecDepth 20000 in
theorem rf_records {X : az_X} {w : az_W} {sz sl : Nat} {T : az_S} {k : Nat} (hp : T 5 0 = nI k) (hk : k ≤ 4) : az_M X 131 [.ref 151] (mw w T) sz sl (none, mw w (tRec T k), sz, sl) := by
  refine az_Mof hd131 ?_
  show az_Ev X 131 0 [.ref 151, .null] [] (mw w T) sz sl _
  refine E_al0 k131_0 ?_
  refine E_get k131_1 mw_0 rfl ?_
  refine E_iconst k131_2 ?_
  refine E_icne k131_3 (fun c3 => ?_) (fun d3 => ?_)
  · skip
    have h4 : k < 4 := by
      rcases Nat.lt_or_ge k 4 with z | z
      · exact z
      · exact absurd (by rw [hp, show k = 4 by omega]; rfl) c3
    have h5 : tRec T k = tR27 T k := by rw [tRec, if_neg (by omega)]
    rw [h5]
    exact rf_rec27 hp h4
  · skip
    refine E_iconst k131_4 ?_
    refine E_is1 k131_5 rfl ?_
    have loop6 : ∀ j : Nat, j ≤ 459 → az_Ev X 131 6 [.ref 151, .int (nI j)] [] (mw w (va_up T 1 (shf (T 1) j))) sz sl (none, mw w (tRec T k), sz, sl) := by
      refine az_ind 459 _ (fun j hj6 ih6 => ?_)
      refine E_il1 k131_6 ?_
      refine E_sipush k131_7 ?_
      refine E_icge k131_8 (fun c8 => ?_) (fun d8 => ?_)
      · skip
        have he6 := lp_t hj6 (by decide) rfl c8
        subst he6
        have h4 : k = 4 := by
          have := Classical.not_not.mp d3
          rw [hp] at this
          rcases Nat.lt_or_ge k 4 with z | z
          · exact absurd ((nI_eqI (by omega) (by decide)).mp (this.trans (show (4 : Int32) = nI 4 from rfl))) (by omega)
          · omega
        refine E_al0 k131_21 ?_
        refine E_dupR k131_22 ?_
        refine E_get k131_23 mw_0 rfl ?_
        refine E_iconst k131_24 ?_
        refine E_isub k131_25 ?_
        refine E_put k131_26 mw_0 (Nat.le_of_ble_eq_true rfl) (az_fiti rfl) ?_
        rw [mu_p0]
        have h5 : tRec T k = tR27 (tSh T) 3 := by rw [tRec, if_pos h4]
        rw [h5]
        refine ev_cong (rf_rec27 (T := tSh T) (k := 3) rfl (by decide)) rfl rfl ?_
        rw [sU_ne (show (5 : Nat) ≠ 1 by decide), hp, h4]
        rfl
      · skip
        have hlt6 : j < 459 := lp_f (by omega) (by decide) rfl d8
        refine E_al0 k131_9 ?_
        refine E_get k131_10 mw_0 rfl ?_
        refine E_il1 k131_11 ?_
        refine E_al0 k131_12 ?_
        refine E_get k131_13 mw_0 rfl ?_
        refine E_il1 k131_14 ?_
        refine E_sipush k131_15 ?_
        refine E_iadd k131_16 ?_
        refine E_alx k131_17 (ixa rfl (show (153 : Int32) = nI 153 from rfl)) rfl mw_2 (by omega) (by decide) ?_
        refine E_asx k131_18 rfl mw_2 (by omega) (by decide) ?_
        rw [mu_2]
        refine E_inc1 k131_19 rfl ?_
        refine E_goto k131_20 ?_
        exact ev_cong (ih6 hlt6) (by rw [nI_1]) rfl (by rw [sU_sU, sU_eq, shf_s])
    exact ev_cong (loop6 0 (Nat.zero_le _)) rfl rfl (by rw [shf_0, sU_s])
