/-! THE SOUNDNESS OF THE ABSTRACT MACHINE -/
def az_End (p : Program) (l : Launch) (e : Env) (R : Room) (s : State) (m : MethodId) (args : Array Value) (below : List Frame) (meth : Method) (c : Code) (D : va_G) (cy : Nat → ClassId) (b0 base : Nat) (Q : State → Prop) (h : az_H) (res : az_R) (H : Heap) (C S : Nat) : Prop :=
  ∀ (H' : Heap) (locs' : List Loc) (ls' : Array Slot) (st' : List Value) (pc' : Nat) (ins' : Instr), az_Rw D cy b0 base res.2.1 res.2.2.1 H' → (∀ q : Nat, q < base → H'[q]? = H[q]?) → (∀ q ∈ locs', base ≤ q.base) → az_rt h.2.2.2.2.1 ins' st' = some res.1 → decode h.2.2.1 pc' = .ok (ins', 1) →
      W p l e R s m args below meth c H' locs' C S Q (F0 m pc' ls' (st'.map (az_tv b0 base)))
def az_OK : Prop := ∀ (M : Nat) (h : az_H) (lc : List az_E), az_hs[M]? = some h → az_cs[M]? = some lc → az_ckM h lc = true ∧ (M ≠ 0 → h.1 = h.2.1.cls) ∧ ∃ e, lc[0]? = some e ∧ e.1 = 0
theorem az_cd_spec {M i : Nat} {e : az_E} (h : az_cd M i = some e) : ∃ lc, az_cs[M]? = some lc ∧ lc[i]? = some e := by
  unfold az_cd at h
  split at h
  · next lc hlc => exact ⟨lc, hlc, h⟩
  · cases h
theorem az_cd_of {M i : Nat} {e : az_E} {lc : List az_E} (h : az_cs[M]? = some lc) (he : lc[i]? = some e) : az_cd M i = some e := by
  unfold az_cd
  rw [h]
  exact he
theorem az_X_kept {b0 b L : Nat} {xs : Nat → Int32} {s : State} {H H1 : Heap} (h : va_X b L xs s H) (hq : H1[b]? = H[b]?) : va_X b L xs s H1 := by
  obtain ⟨scr, h1, h2⟩ := h
  exact ⟨scr, hq.trans h1, h2⟩
section AZ4
variable {p : Program} {l : Launch} {e : Env} {R : Room} {s : State} {m : MethodId} {args : Array Value} {below : List Frame} {meth : Method} {c : Code} {H H1 : Heap} {locs1 : List Loc} {cells slots : Nat} {Q : State → Prop}
variable {D : va_G} {cy : Nat → ClassId} {b0 base C S : Nat} {ls : Array Slot} {h : az_H} {X : az_X} {M k : Nat} {L st : List Value} {w : az_W} {sz sl : Nat} {res : az_R} {q : az_E}
theorem az_go (hP : az_Sim l X M k L st w sz sl res) (hh : az_hs[M]? = some h) (hq : az_cd M k = some q) (hC : az_C p s m args meth c h) (hK : va_K D vwCl (az_tys cy) s) (hfr : h.2.2.2.2.2.1 ≤ R.frames) (hlo : h.2.2.2.2.2.2 ≤ R.locals)
    (hR : az_Rw D cy b0 base w sz H1) (hLR : az_LR b0 base ls h.2.2.2.1 L) (hloc : ∀ q ∈ locs1, base ≤ q.base) (hb : ∀ q : Nat, q < base → H1[q]? = H[q]?) (hscr : M = 0 → va_X b0 X.1 X.2 s H ∧ b0 < base)
    (hc : cells + (res.2.2.1 - sz) = C) (hs : slots + (res.2.2.2 - sl) = S) (hce : C ≤ R.cells) (hsl : S ≤ R.slots) (hend : az_End p l e R s m args below meth c D cy b0 base Q h res H C S) :
    W p l e R s m args below meth c H1 locs1 cells slots Q (F0 m q.1 ls (st.map (az_tv b0 base))) := by
  subst hc
  subst hs
  exact hP.2.2 h q hh hq p e R s m args below meth c D cy b0 base Q hC hK hfr hlo H1 locs1 cells slots ls hR hLR hloc (fun h0 => ⟨az_X_kept (b0 := b0) (hscr h0).1 (hb _ (hscr h0).2), (hscr h0).2⟩) hce hsl
    (fun H' locs' ls' st' pc' ins' h1 h2 h3 h4 h5 => hend H' locs' ls' st' pc' ins' h1 (fun q hq => (h2 q hq).trans (hb q hq)) h3 h4 h5)
end AZ4
set_option maxHeartbeats 4000000 in
theorem az_sound (hok : az_OK) (l : Launch) (X : az_X) : ∀ M i L st w sz sl res, az_st X (az_Sim l X) M i L st w sz sl res → az_Sim l X M i L st w sz sl res := by
  intro M i L st w sz sl res hst
  obtain ⟨pc, ins, ln, t, u, v, ts, js, hcd, hst⟩ := hst
  obtain ⟨lc, hlc, hent⟩ := az_cd_spec hcd
  have chk : ∀ h : az_H, az_hs[M]? = some h → decode h.2.2.1 pc = .ok (ins, ln) ∧ az_k2 h lc i pc ins ln t u v ts js = true := by
    intro h hh
    have h1 := az_cki_at (hok M h lc hh hlc).1 hent
    rw [Nat.zero_add] at h1
    simp only [az_ck, Bool.and_eq_true, decide_eq_true_eq] at h1
    exact h1
  have nxt : ∀ {h : az_H}, az_nx lc i pc ln = true → ∃ q : az_E, az_cd M (i + 1) = some q ∧ q.1 = pc + ln := by
    intro h hn
    obtain ⟨q, h1, h2⟩ := az_nx_spec hn
    exact ⟨q, az_cd_of hlc h1, h2⟩
  rcases hst with ⟨L', st', hpu, hP⟩ | ⟨q, r, hbr, hPt, hPf⟩ | ⟨k, r, hsw, hP⟩ | ⟨idx, a, r, fs, x, rfl, rfl, hw, hu, hP⟩ | ⟨idx, a, r, fs, x, rfl, rfl, hw, hu, hf, hP⟩ | ⟨j, q, r, rfl, rfl, hM, hj, hP⟩ | ⟨q, r, rfl, rfl, hM, hP⟩ | ⟨j, a, r, k, n, f, hal, rfl, hw, hj, hP⟩ | ⟨x, j, a, r, k, n, f, has, rfl, hw, hj, hP⟩ | ⟨j, a, r, k, n, f, y, rfl, rfl, hw, hk, hj, hy, hP⟩ | ⟨y, j, a, r, k, n, f, ci, fs, rfl, rfl, hw, hwy, hk, hj, hP⟩ | ⟨a, r, k, n, A, rfl, rfl, hw, hk, hP⟩ | ⟨idx, rfl, hP⟩ | ⟨ty, n, r, rfl, rfl, hn, hP⟩ | ⟨idx, n, r, rfl, rfl, hn, hP⟩ | ⟨h', As, rest, r, w1, sz1, sl1, hh', hv, hca, ha1, hc8, hPc, hP⟩ | ⟨idx, a, rest, rfl, rfl, rfl, hc8, hP⟩ | ⟨idx, b, rest, rfl, rfl, rfl, hc8, hP⟩ | ⟨h', rv, hh', hrt, rfl⟩
  · refine ⟨hP.1, hP.2.1, fun h e0 hh he0 p e R s m args below meth c D cy b0 base Q hC hK hfr hlo H locs cells slots ls hR hLR hloc hscr hce hsl hend => ?_⟩
    cases hcd.symm.trans he0
    obtain ⟨hd, hk2⟩ := chk h hh
    obtain ⟨hln, hnx, him⟩ := az_k2_pu hpu hk2
    obtain ⟨q, hq, hqpc⟩ := nxt (h := h) hnx
    refine az_pu_ok hC.1 hC.2.1 hC.2.2.2.2.1 hC.2.2.2.2.2.1 hpu hd hln him hLR (fun ls' hLR' => ?_)
    have h9 := az_go (H := H) (H1 := H) (ls := ls') (cells := cells) (slots := slots) hP hh hq hC hK hfr hlo hR hLR' hloc (fun _ _ => rfl) hscr rfl rfl hce hsl hend
    rw [hqpc] at h9
    exact h9
  · have hm : sz ≤ res.2.2.1 ∧ sl ≤ res.2.2.2 := by
      cases q with
      | true => exact ⟨(hPt rfl).1, (hPt rfl).2.1⟩
      | false => exact ⟨(hPf rfl).1, (hPf rfl).2.1⟩
    refine ⟨hm.1, hm.2, fun h e0 hh he0 p e R s m args below meth c D cy b0 base Q hC hK hfr hlo H locs cells slots ls hR hLR hloc hscr hce hsl hend => ?_⟩
    cases hcd.symm.trans he0
    obtain ⟨hd, hk2⟩ := chk h hh
    obtain ⟨hln, htg, hnx⟩ := az_k2_br hbr hk2
    obtain ⟨q1, hq1, hq2⟩ := az_tg_spec htg
    refine az_br_ok (tgt := q1.1) hC.1 hC.2.1 hbr hd hln hq2 (fun hqt => ?_) (fun hqf => ?_)
    · exact az_go (H := H) (hPt hqt) hh (az_cd_of hlc hq1) hC hK hfr hlo hR hLR hloc (fun _ _ => rfl) hscr rfl rfl hce hsl hend
    · obtain ⟨q, hq, hqpc⟩ := nxt (h := h) (hnx hqf)
      have h9 := az_go (H := H) (H1 := H) (ls := ls) (cells := cells) (slots := slots) (hPf hqf) hh hq hC hK hfr hlo hR hLR hloc (fun _ _ => rfl) hscr rfl rfl hce hsl hend
      rw [hqpc] at h9
      exact h9
  · refine ⟨hP.1, hP.2.1, fun h e0 hh he0 p e R s m args below meth c D cy b0 base Q hC hK hfr hlo H locs cells slots ls hR hLR hloc hscr hce hsl hend => ?_⟩
    cases hcd.symm.trans he0
    obtain ⟨hd, hk2⟩ := chk h hh
    exact az_sw_ok hC.1 hC.2.1 hsw hd (az_k2_sw hsw hk2) (fun q1 hq1 => az_go (H := H) hP hh (az_cd_of hlc hq1) hC hK hfr hlo hR hLR hloc (fun _ _ => rfl) hscr rfl rfl hce hsl hend)
  · refine ⟨hP.1, hP.2.1, fun h e0 hh he0 p e R s m args below meth c D cy b0 base Q hC hK hfr hlo H locs cells slots ls hR hLR hloc hscr hce hsl hend => ?_⟩
    cases hcd.symm.trans he0
    obtain ⟨hd, hk2⟩ := chk h hh
    simp only [az_k2, Bool.and_eq_true, decide_eq_true_eq] at hk2
    obtain ⟨⟨hln, hnx⟩, him⟩ := hk2
    obtain ⟨q, hq, hqpc⟩ := nxt (h := h) hnx
    refine az_get_ok hC.1 hC.2.1 hC.2.2.2.2.1 hC.2.2.2.2.2.1 hK hR hw hu hd hln him ?_
    have h9 := az_go (H := H) (H1 := H) (ls := ls) (cells := cells) (slots := slots) hP hh hq hC hK hfr hlo hR hLR hloc (fun _ _ => rfl) hscr rfl rfl hce hsl hend
    rw [hqpc] at h9
    exact h9
  · refine ⟨hP.1, hP.2.1, fun h e0 hh he0 p e R s m args below meth c D cy b0 base Q hC hK hfr hlo H locs cells slots ls hR hLR hloc hscr hce hsl hend => ?_⟩
    cases hcd.symm.trans he0
    obtain ⟨hd, hk2⟩ := chk h hh
    simp only [az_k2, Bool.and_eq_true, decide_eq_true_eq] at hk2
    obtain ⟨⟨hln, hnx⟩, him⟩ := hk2
    obtain ⟨q, hq, hqpc⟩ := nxt (h := h) hnx
    refine az_put_ok hC.1 hC.2.1 hC.2.2.2.2.1 hC.2.2.2.2.2.2.2 hC.2.2.2.2.2.1 hK hR hw hu hf hd hln him (fun H1 z hR1 o1 => ?_)
    have h9 := az_go (H := H) (H1 := H1) (locs1 := locs ++ [⟨base + a, z⟩]) (ls := ls) (cells := cells) (slots := slots) hP hh hq hC hK hfr hlo hR1 hLR (fun q hq => by
        rcases List.mem_append.mp hq with h1 | h1
        · exact hloc q h1
        · cases List.mem_singleton.mp h1
          exact (Nat.le_add_right base a : base ≤ base + a)) (fun q hq => o1 q (by omega)) hscr rfl rfl hce hsl hend
    rw [hqpc] at h9
    exact h9
  · refine ⟨hP.1, hP.2.1, fun h e0 hh he0 p e R s m args below meth c D cy b0 base Q hC hK hfr hlo H locs cells slots ls hR hLR hloc hscr hce hsl hend => ?_⟩
    cases hcd.symm.trans he0
    obtain ⟨hd, hk2⟩ := chk h hh
    simp only [az_k2, Bool.and_eq_true, decide_eq_true_eq] at hk2
    obtain ⟨⟨hln, hnx⟩, him⟩ := hk2
    obtain ⟨q, hq, hqpc⟩ := nxt (h := h) hnx
    obtain ⟨hX, hbb⟩ := hscr hM
    have hln1 : ln = 1 := hln
    subst hln1
    refine va_sld (H0 := H) (A := fun q => base ≤ q) hC.1 hC.2.1 hX (by obtain ⟨scr, h1, -⟩ := hX; exact (Array.getElem?_eq_some_iff.mp h1).1) (Nat.not_le.mpr hbb) ⟨Nat.le_refl _, fun _ _ _ => rfl, hloc⟩ hj hd ?_
    have h9 := az_go (H := H) (H1 := H) (ls := ls) (cells := cells) (slots := slots) hP hh hq hC hK hfr hlo hR hLR hloc (fun _ _ => rfl) hscr rfl rfl hce hsl hend
    rw [hqpc] at h9
    exact h9
  · refine ⟨hP.1, hP.2.1, fun h e0 hh he0 p e R s m args below meth c D cy b0 base Q hC hK hfr hlo H locs cells slots ls hR hLR hloc hscr hce hsl hend => ?_⟩
    cases hcd.symm.trans he0
    obtain ⟨hd, hk2⟩ := chk h hh
    simp only [az_k2, Bool.and_eq_true, decide_eq_true_eq] at hk2
    obtain ⟨⟨hln, hnx⟩, him⟩ := hk2
    obtain ⟨q, hq, hqpc⟩ := nxt (h := h) hnx
    obtain ⟨hX, hbb⟩ := hscr hM
    have hln1 : ln = 1 := hln
    subst hln1
    refine va_slen (H0 := H) (A := fun q => base ≤ q) hC.1 hC.2.1 hX (by obtain ⟨scr, h1, -⟩ := hX; exact (Array.getElem?_eq_some_iff.mp h1).1) (Nat.not_le.mpr hbb) ⟨Nat.le_refl _, fun _ _ _ => rfl, hloc⟩ hd ?_
    have h9 := az_go (H := H) (H1 := H) (ls := ls) (cells := cells) (slots := slots) hP hh hq hC hK hfr hlo hR hLR hloc (fun _ _ => rfl) hscr rfl rfl hce hsl hend
    rw [hqpc] at h9
    exact h9
  · refine ⟨hP.1, hP.2.1, fun h e0 hh he0 p e R s m args below meth c D cy b0 base Q hC hK hfr hlo H locs cells slots ls hR hLR hloc hscr hce hsl hend => ?_⟩
    cases hcd.symm.trans he0
    obtain ⟨hd, hk2⟩ := chk h hh
    obtain ⟨hln, hnx⟩ := az_k2_al hal hk2
    obtain ⟨q, hq, hqpc⟩ := nxt (h := h) hnx
    refine az_ald_ok hC.1 hC.2.1 hK hR hal hw hj hd hln ?_
    have h9 := az_go (H := H) (H1 := H) (ls := ls) (cells := cells) (slots := slots) hP hh hq hC hK hfr hlo hR hLR hloc (fun _ _ => rfl) hscr rfl rfl hce hsl hend
    rw [hqpc] at h9
    exact h9
  · refine ⟨hP.1, hP.2.1, fun h e0 hh he0 p e R s m args below meth c D cy b0 base Q hC hK hfr hlo H locs cells slots ls hR hLR hloc hscr hce hsl hend => ?_⟩
    cases hcd.symm.trans he0
    obtain ⟨hd, hk2⟩ := chk h hh
    obtain ⟨hln, hnx⟩ := az_k2_as has hk2
    obtain ⟨q, hq, hqpc⟩ := nxt (h := h) hnx
    refine az_ast_ok hC.1 hC.2.1 hK hR has hw hj hd hln (fun H1 z hR1 o1 => ?_)
    have h9 := az_go (H := H) (H1 := H1) (locs1 := locs ++ [⟨base + a, z⟩]) (ls := ls) (cells := cells) (slots := slots) hP hh hq hC hK hfr hlo hR1 hLR (fun q hq => by
        rcases List.mem_append.mp hq with h1 | h1
        · exact hloc q h1
        · cases List.mem_singleton.mp h1
          exact (Nat.le_add_right base a : base ≤ base + a)) (fun q hq => o1 q (by omega)) hscr rfl rfl hce hsl hend
    rw [hqpc] at h9
    exact h9
  · refine ⟨hP.1, hP.2.1, fun h e0 hh he0 p e R s m args below meth c D cy b0 base Q hC hK hfr hlo H locs cells slots ls hR hLR hloc hscr hce hsl hend => ?_⟩
    cases hcd.symm.trans he0
    obtain ⟨hd, hk2⟩ := chk h hh
    simp only [az_k2, Bool.and_eq_true, decide_eq_true_eq] at hk2
    obtain ⟨⟨hln, hnx⟩, him⟩ := hk2
    obtain ⟨q, hq, hqpc⟩ := nxt (h := h) hnx
    refine az_aald_ok hC.1 hC.2.1 hK hR hw hk hj hy hd hln ?_
    have h9 := az_go (H := H) (H1 := H) (ls := ls) (cells := cells) (slots := slots) hP hh hq hC hK hfr hlo hR hLR hloc (fun _ _ => rfl) hscr rfl rfl hce hsl hend
    rw [hqpc] at h9
    exact h9
  · refine ⟨hP.1, hP.2.1, fun h e0 hh he0 p e R s m args below meth c D cy b0 base Q hC hK hfr hlo H locs cells slots ls hR hLR hloc hscr hce hsl hend => ?_⟩
    cases hcd.symm.trans he0
    obtain ⟨hd, hk2⟩ := chk h hh
    simp only [az_k2, Bool.and_eq_true, decide_eq_true_eq] at hk2
    obtain ⟨⟨hln, hnx⟩, him⟩ := hk2
    obtain ⟨q, hq, hqpc⟩ := nxt (h := h) hnx
    refine az_aast_ok hC.1 hC.2.1 hK hR hw hwy hk hj hd hln (fun H1 z hR1 o1 => ?_)
    have h9 := az_go (H := H) (H1 := H1) (locs1 := locs ++ [⟨base + a, z⟩]) (ls := ls) (cells := cells) (slots := slots) hP hh hq hC hK hfr hlo hR1 hLR (fun q hq => by
        rcases List.mem_append.mp hq with h1 | h1
        · exact hloc q h1
        · cases List.mem_singleton.mp h1
          exact (Nat.le_add_right base a : base ≤ base + a)) (fun q hq => o1 q (by omega)) hscr rfl rfl hce hsl hend
    rw [hqpc] at h9
    exact h9
  · refine ⟨hP.1, hP.2.1, fun h e0 hh he0 p e R s m args below meth c D cy b0 base Q hC hK hfr hlo H locs cells slots ls hR hLR hloc hscr hce hsl hend => ?_⟩
    cases hcd.symm.trans he0
    obtain ⟨hd, hk2⟩ := chk h hh
    simp only [az_k2, Bool.and_eq_true, decide_eq_true_eq] at hk2
    obtain ⟨⟨hln, hnx⟩, him⟩ := hk2
    obtain ⟨q, hq, hqpc⟩ := nxt (h := h) hnx
    refine az_alen_ok hC.1 hC.2.1 hK hR hw hk hd hln ?_
    have h9 := az_go (H := H) (H1 := H) (ls := ls) (cells := cells) (slots := slots) hP hh hq hC hK hfr hlo hR hLR hloc (fun _ _ => rfl) hscr rfl rfl hce hsl hend
    rw [hqpc] at h9
    exact h9
  · refine ⟨Nat.le_trans (Nat.le_succ _) hP.1, Nat.le_trans (Nat.le_add_right _ _) hP.2.1, fun h e0 hh he0 p e R s m args below meth c D cy b0 base Q hC hK hfr hlo H locs cells slots ls hR hLR hloc hscr hce hsl hend => ?_⟩
    cases hcd.symm.trans he0
    obtain ⟨hd, hk2⟩ := chk h hh
    simp only [az_k2, Bool.and_eq_true, decide_eq_true_eq] at hk2
    obtain ⟨⟨hln, hnx⟩, him⟩ := hk2
    obtain ⟨q, hq, hqpc⟩ := nxt (h := h) hnx
    refine az_new_ok hC.1 hC.2.1 hC.2.2.2.2.1 hC.2.2.2.2.2.1 hK hR hd hln him (by have := hP.1; omega) (by have := hP.2.1; omega) (fun H1 hR1 o1 => ?_)
    have h9 := az_go (H := H) (H1 := H1) (ls := ls) (cells := cells + 1) (slots := slots + u) (C := cells + (res.2.2.1 - sz)) (S := slots + (res.2.2.2 - sl)) hP hh hq hC hK hfr hlo hR1 hLR hloc (fun q hq => o1 q (by rw [hR.1]; omega)) hscr (by have := hP.1; omega) (by have := hP.2.1; omega) hce hsl hend
    rw [hqpc] at h9
    exact h9
  · refine ⟨Nat.le_trans (Nat.le_succ _) hP.1, Nat.le_trans (Nat.le_add_right _ _) hP.2.1, fun h e0 hh he0 p e R s m args below meth c D cy b0 base Q hC hK hfr hlo H locs cells slots ls hR hLR hloc hscr hce hsl hend => ?_⟩
    cases hcd.symm.trans he0
    obtain ⟨hd, hk2⟩ := chk h hh
    simp only [az_k2, Bool.and_eq_true, decide_eq_true_eq] at hk2
    obtain ⟨⟨hln, hnx⟩, him⟩ := hk2
    obtain ⟨q, hq, hqpc⟩ := nxt (h := h) hnx
    refine az_newa_ok hC.1 hC.2.1 hC.2.2.2.2.2.1 hK hR hn hd hln him (by have := hP.1; omega) (by have := hP.2.1; omega) (fun H1 hR1 o1 => ?_)
    have h9 := az_go (H := H) (H1 := H1) (ls := ls) (cells := cells + 1) (slots := slots + n.toNatClampNeg) (C := cells + (res.2.2.1 - sz)) (S := slots + (res.2.2.2 - sl)) hP hh hq hC hK hfr hlo hR1 hLR hloc (fun q hq => o1 q (by rw [hR.1]; omega)) hscr (by have := hP.1; omega) (by have := hP.2.1; omega) hce hsl hend
    rw [hqpc] at h9
    exact h9
  · refine ⟨Nat.le_trans (Nat.le_succ _) hP.1, Nat.le_trans (Nat.le_add_right _ _) hP.2.1, fun h e0 hh he0 p e R s m args below meth c D cy b0 base Q hC hK hfr hlo H locs cells slots ls hR hLR hloc hscr hce hsl hend => ?_⟩
    cases hcd.symm.trans he0
    obtain ⟨hd, hk2⟩ := chk h hh
    simp only [az_k2, Bool.and_eq_true, decide_eq_true_eq] at hk2
    obtain ⟨⟨hln, hnx⟩, him⟩ := hk2
    obtain ⟨q, hq, hqpc⟩ := nxt (h := h) hnx
    refine az_anew_ok hC.1 hC.2.1 hC.2.2.2.2.1 hC.2.2.2.2.2.1 hK hR hn hd hln him (by have := hP.1; omega) (by have := hP.2.1; omega) (fun H1 hR1 o1 => ?_)
    have h9 := az_go (H := H) (H1 := H1) (ls := ls) (cells := cells + 1) (slots := slots + n.toNatClampNeg) (C := cells + (res.2.2.1 - sz)) (S := slots + (res.2.2.2 - sl)) hP hh hq hC hK hfr hlo hR1 hLR hloc (fun q hq => o1 q (by rw [hR.1]; omega)) hscr (by have := hP.1; omega) (by have := hP.2.1; omega) hce hsl hend
    rw [hqpc] at h9
    exact h9
  · refine ⟨Nat.le_trans hPc.1 hP.1, Nat.le_trans hPc.2.1 hP.2.1, fun h e0 hh he0 p e R s m args below meth c D cy b0 base Q hC hK hfr hlo H locs cells slots ls hR hLR hloc hscr hce hsl hend => ?_⟩
    cases hcd.symm.trans he0
    obtain ⟨hd, hk2⟩ := chk h hh
    have hz1 : sz ≤ sz1 := hPc.1
    have hz2 : sl ≤ sl1 := hPc.2.1
    have hcwl : ln = 3 ∧ az_nx lc i pc ln = true ∧ az_cw h ins t u v js = true := by
      rcases hca with ⟨idx, A0, b, ci, fs, rfl, -⟩ | ⟨idx, A0, b, rfl, -⟩ | ⟨idx, rfl, -⟩
      · simp only [az_k2, Bool.and_eq_true, decide_eq_true_eq] at hk2
        exact ⟨hk2.1.1, hk2.1.2, hk2.2⟩
      · have hv2 : ¬ v = 2 := by rcases hv with rfl | rfl <;> decide
        simp only [az_k2, Bool.and_eq_true, decide_eq_true_eq, if_neg hv2] at hk2
        exact ⟨hk2.1.1, hk2.1.2, hk2.2⟩
      · have hv2 : ¬ v = 3 := by rcases hv with rfl | rfl <;> decide
        simp only [az_k2, Bool.and_eq_true, decide_eq_true_eq, if_neg hv2] at hk2
        exact ⟨hk2.1.1, hk2.1.2, hk2.2⟩
    obtain ⟨hln, hnx, hcw⟩ := hcwl
    subst hln
    obtain ⟨q, hq, hqpc⟩ := nxt (h := h) hnx
    have hfacts : t ≠ 0 ∧ plainFor h'.2.1 = true ∧ As.length ≤ h'.2.2.2.1 := by
      have hcw2 := hcw
      unfold az_cw at hcw2
      rw [hh'] at hcw2
      simp only [Bool.and_eq_true, decide_eq_true_eq] at hcw2
      obtain ⟨⟨⟨⟨⟨⟨⟨ht0, -⟩, -⟩, -⟩, -⟩, -⟩, hpl⟩, hcw2⟩ := hcw2
      refine ⟨ht0, hpl, ?_⟩
      rcases hca with ⟨idx, A0, b, ci, fs, rfl, hA, -, -, -, rfl⟩ | ⟨idx, A0, b, rfl, hA, -, rfl⟩ | ⟨idx, rfl, hA, -⟩
      · split at hcw2
        · simp only [Bool.and_eq_true, decide_eq_true_eq] at hcw2
          rw [List.length_cons, hA]
          exact hcw2.1.1.1.1.1
        · next hi => cases hi
        · next hi => cases hi
        · cases hcw2
      · split at hcw2
        · next hi => cases hi
        · simp only [Bool.and_eq_true, decide_eq_true_eq] at hcw2
          rw [List.length_cons, hA]
          exact hcw2.1.1.1.1.1.1.1
        · next hi => cases hi
        · cases hcw2
      · split at hcw2
        · next hi => cases hi
        · next hi => cases hi
        · simp only [Bool.and_eq_true, decide_eq_true_eq] at hcw2
          rw [hA]
          exact hcw2.1.1.1.1
        · cases hcw2
    obtain ⟨ht0, hpl, hAn⟩ := hfacts
    obtain ⟨lt, hlt⟩ : ∃ lt, az_cs[t]? = some lt := by
      have hlen : az_cs.length = az_hs.length := rfl
      have h1 := (List.getElem?_eq_some_iff.mp hh').1
      exact ⟨_, List.getElem?_eq_getElem (by rw [hlen]; exact h1)⟩
    obtain ⟨-, hcls, e1, he1, hpc1⟩ := hok t h' lt hh' hlt
    have hMet := az_met hPc ht0 hh' e1 (az_cd_of hlt he1) hpc1 hpl (hcls ht0) ha1 hAn D cy b0 base
    have hrun := az_call_ok (e := e) (R := R) (below := below) (meth := meth) (c := c) (H := H) (locs := locs) (cells := cells) (slots := slots) hC hK hR hcw hh' hMet az_blind (fun U hU hW => ⟨rfl, by rw [hU]; exact hR, va_K.moved hW.alike hK, fun w hw hb => az_bad_warm hb hW (az_bad_of hb (hC.2.2.2.2.2.1 w hw (by simp only [az_us, Bool.or_eq_true]; exact Or.inr hb)))⟩) hca hc8 hfr hlo (by have := hP.1; omega) (by have := hP.2.1; omega) (show ls.size = h.2.2.2.1 from hLR.2.1) hd
    refine az_cont hrun hloc (fun H1 locs1 hR1 hb1 hl1 => ?_)
    have h9 := az_go (H := H) (H1 := H1) (locs1 := locs1) (ls := ls) (cells := cells + (sz1 - sz)) (slots := slots + (sl1 - sl)) (C := cells + (res.2.2.1 - sz)) (S := slots + (res.2.2.2 - sl)) hP hh hq hC hK hfr hlo hR1 hLR hl1 hb1 hscr (by have := hP.1; omega) (by have := hP.2.1; omega) hce hsl hend
    rw [hqpc, List.map_append] at h9
    have e9 : (r.map (az_tv b0 base)).toList = r.toList.map (az_tv b0 base) := by cases r <;> rfl
    rw [e9]
    exact h9
  · refine ⟨hP.1, hP.2.1, fun h e0 hh he0 p e R s m args below meth c D cy b0 base Q hC hK hfr hlo H locs cells slots ls hR hLR hloc hscr hce hsl hend => ?_⟩
    cases hcd.symm.trans he0
    obtain ⟨hd, hk2⟩ := chk h hh
    simp only [az_k2, Bool.and_eq_true, decide_eq_true_eq, if_pos] at hk2
    obtain ⟨⟨hln, hnx⟩, how⟩ := hk2
    subst hln
    obtain ⟨q, hq, hqpc⟩ := nxt (h := h) hnx
    unfold az_ow at how
    split at how
    · next idx' j0 j1 j2 hi =>
      cases hi
      simp only [Bool.and_eq_true, decide_eq_true_eq] at how
      obtain ⟨⟨⟨⟨h1, h2⟩, h3⟩, h4⟩, h5⟩ := how
      have hc9 := az_c8_map (b0 := b0) (base := base) hc8
      refine W.objInit hC.1 hC.2.1 hC.2.2.2.2.1 (hC.2.2.2.2.2.1 _ (List.mem_of_getElem? h3) rfl) (hC.2.2.2.2.2.1 _ (List.mem_of_getElem? h4) rfl) (hC.2.2.2.2.2.1 _ (List.mem_of_getElem? h5) rfl) rfl (by rw [hC.2.2.1]; exact hLR.2.1) rfl hd (Nat.le_trans h1 hfr) (by show 2 * 0 + _ + 12 ≤ R.locals; omega) ?_
      have h9 := az_go (H := H) (H1 := H) (ls := ls) (cells := cells) (slots := slots) hP hh hq hC hK hfr hlo hR hLR hloc (fun _ _ => rfl) hscr rfl rfl hce hsl hend
      rw [hqpc] at h9
      exact h9
    · cases how
  · refine ⟨hP.1, hP.2.1, fun h e0 hh he0 p e R s m args below meth c D cy b0 base Q hC hK hfr hlo H locs cells slots ls hR hLR hloc hscr hce hsl hend => ?_⟩
    cases hcd.symm.trans he0
    obtain ⟨hd, hk2⟩ := chk h hh
    simp only [az_k2, Bool.and_eq_true, decide_eq_true_eq, if_pos] at hk2
    obtain ⟨⟨hln, hnx⟩, how⟩ := hk2
    subst hln
    obtain ⟨q, hq, hqpc⟩ := nxt (h := h) hnx
    unfold az_vw at how
    split at how
    · next idx' j0 j1 j2 j3 hi =>
      cases hi
      simp only [Bool.and_eq_true, decide_eq_true_eq] at how
      obtain ⟨⟨⟨⟨⟨h1, h2⟩, h3⟩, h4⟩, h5⟩, h6⟩ := how
      have hc9 := az_c8_map (b0 := b0) (base := base) hc8
      refine vn_f2i hC.1 hC.2.1 (by rw [hC.2.2.1]; exact hLR.2.1.symm) hC.2.2.2.2.1 (hC.2.2.2.2.2.1 _ (List.mem_of_getElem? h3) rfl) (hC.2.2.2.2.2.1 _ (List.mem_of_getElem? h4) rfl) (hC.2.2.2.2.2.1 _ (List.mem_of_getElem? h5) rfl) (hC.2.2.2.2.2.1 _ (List.mem_of_getElem? h6) rfl) (Nat.le_trans h1 hfr) (by omega) hd ?_
      have h9 := az_go (H := H) (H1 := H) (ls := ls) (cells := cells) (slots := slots) hP hh hq hC hK hfr hlo hR hLR hloc (fun _ _ => rfl) hscr rfl rfl hce hsl hend
      rw [hqpc] at h9
      exact h9
    · cases how
  · refine ⟨Nat.le_refl _, Nat.le_refl _, fun h e0 hh he0 p e R s m args below meth c D cy b0 base Q hC hK hfr hlo H locs cells slots ls hR hLR hloc hscr hce hsl hend => ?_⟩
    cases hcd.symm.trans he0
    obtain ⟨hd, hk2⟩ := chk h hh
    cases hh.symm.trans hh'
    have hln := az_k2_rt hrt hk2
    subst hln
    have h9 := hend H locs ls st pc ins hR (fun _ _ => rfl) hloc hrt hd
    refine W.cs (by show cells = cells + (sz - sz); omega) (by show slots = slots + (sl - sl); omega) h9
