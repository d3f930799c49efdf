/-! calls; the static look at every instruction; the soundness of the abstract machine -/
def az_gw : List Jvm.Cond := lw_tbl.filter goodWord
theorem az_goodIn {y : MethodName} {b : ByteArray} {n : Nat} {r : Option FieldType} : GoodIn (.code y b n r :: az_gw) (.code y b n r :: az_gw) := by
  intro w hw
  rcases List.mem_cons.mp hw with rfl | hw
  · exact ⟨List.mem_cons_self, good_of_word rfl⟩
  · exact ⟨List.mem_cons_of_mem _ hw, good_of_word (List.mem_filter.mp hw).2⟩
theorem az_bad_use {w : Jvm.Cond} (hb : az_bad w = true) {A : Array Value} {U : State} (h : w.before #[] U = true) : w.before A U = true := by
  unfold az_bad at hb
  split at hb
  · exact va_Nw.use rfl h
  · exact va_Nw.use rfl h
  · exact va_AO.use h
  · cases hb
theorem az_bad_of {w : Jvm.Cond} (hb : az_bad w = true) {A : Array Value} {U : State} (h : w.before A U = true) : w.before #[] U = true := by
  unfold az_bad at hb
  split at hb
  · exact va_Nw.of rfl h
  · exact va_Nw.of rfl h
  · exact va_AO.of h
  · cases hb
theorem az_bad_warm {w : Jvm.Cond} (hb : az_bad w = true) {s U : State} (hW : s.WarmedH U.vm) (h : w.before #[] s = true) : w.before #[] U = true := by
  unfold az_bad at hb
  split at hb
  · exact va_Nw.warmF hW h
  · exact va_Nw.warmM hW h
  · exact va_AO.moved hW.alike h
  · cases hb
theorem az_bad_same {w : Jvm.Cond} (hb : az_bad w = true) {s U : State} (hv : s.vm = U.vm) (h : w.before #[] s = true) : w.before #[] U = true := by
  unfold az_bad at hb
  split at hb
  · exact va_Nw.same rfl hv h
  · exact va_Nw.same rfl hv h
  · exact va_AO.moved (by rw [hv]; exact Vm.Alike.refl _) h
  · cases hb
def az_N (U : State) : Prop := ∀ w ∈ lw_tbl, az_bad w = true → w.before #[] U = true
def az_nx (l : List az_E) (i pc ln : Nat) : Bool := match l[i + 1]? with
  | some q => decide (q.1 = pc + ln)
  | none => false
/-- the words of a call -/
def az_lw (own : String) (idx : Nat) (y : MethodName) (v : Int32) (j : Nat) : Bool := match lw_tbl[j]? with
  | some (.methodLink o i y') => decide (v = 0 ∧ o = own ∧ i = idx ∧ y' = y)
  | some (.methodLinkNest o i y' _) => decide (v = 1 ∧ o = own ∧ i = idx ∧ y' = y)
  | _ => false
def az_cw (h : az_H) (ins : Instr) (t u : Nat) (v : Int32) (js : List Nat) : Bool := match az_hs[t]? with
  | some h' => decide (t ≠ 0) && decide (h'.2.2.2.2.2.1 + 1 ≤ h.2.2.2.2.2.1) && decide (8 + (h'.2.2.2.1 + 11) + h'.2.2.2.2.2.2 ≤ h.2.2.2.2.2.2) && decide (h'.2.1.cls ≠ "java/lang/invoke/MethodHandle") && decide (h'.2.1.cls ≠ "java/lang/invoke/VarHandle") && decide ((parseMethodDescriptor h'.2.1.desc).map (fun d => d.parameters.length) = some u) && plainFor h'.2.1 &&
    (match ins, js with
    | .invokevirtual idx, [j0, j1, j2, j3, j4] => decide (u + 1 ≤ h'.2.2.2.1) && az_lw h.1 idx h'.2.1 v j0 && decide (lw_tbl[j1]? = some (.instanceMethod h'.2.1)) && decide (lw_tbl[j2]? = some (.initialized h'.2.1.cls)) && decide (lw_tbl[j3]? = some (.code h'.2.1 h'.2.2.1 h'.2.2.2.1 h'.2.2.2.2.1)) && decide (lw_tbl[j4]? = some (.selects h'.2.1.cls h'.2.1 h'.2.1))
    | .invokespecial idx, [j0, j1, j2, j3] => decide (u + 1 ≤ h'.2.2.2.1) && az_lw h.1 idx h'.2.1 v j0 && decide (lw_tbl[j1]? = some (.instanceMethod h'.2.1)) && decide (lw_tbl[j2]? = some (.initialized h'.2.1.cls)) && decide (lw_tbl[j3]? = some (.code h'.2.1 h'.2.2.1 h'.2.2.2.1 h'.2.2.2.2.1)) && decide (v = 0) && decide (h'.2.1.name = "<init>") && decide (h'.2.2.2.2.1 = none)
    | .invokestatic idx, [j0, j1, j2, j3] => decide (u ≤ h'.2.2.2.1) && az_lw h.1 idx h'.2.1 v j0 && decide (lw_tbl[j1]? = some (.static h'.2.1)) && decide (lw_tbl[j2]? = some (.initialized h'.2.1.cls)) && decide (lw_tbl[j3]? = some (.code h'.2.1 h'.2.2.1 h'.2.2.2.1 h'.2.2.2.2.1))
    | _, _ => false)
  | none => false
/-- the words of Object's constructor -/
def az_ow (h : az_H) (ins : Instr) (js : List Nat) : Bool := match ins, js with
  | .invokespecial idx, [j0, j1, j2] => decide (1 ≤ h.2.2.2.2.2.1) && decide (20 ≤ h.2.2.2.2.2.2) && decide (lw_tbl[j0]? = some (.methodLink h.1 idx Lib.objectInit)) && decide (lw_tbl[j1]? = some (.instanceMethod Lib.objectInit)) && decide (lw_tbl[j2]? = some (.code Lib.objectInit ⟨#[0xb1]⟩ 1 none))
  | _, _ => false
/-- the words of the one native method -/
def az_vw (h : az_H) (ins : Instr) (js : List Nat) : Bool := match ins, js with
  | .invokestatic idx, [j0, j1, j2, j3] => decide (1 ≤ h.2.2.2.2.2.1) && decide (23 ≤ h.2.2.2.2.2.2) && decide (lw_tbl[j0]? = some (.methodLink h.1 idx ⟨"java/lang/Float", "floatToRawIntBits", "(F)I"⟩)) && decide (lw_tbl[j1]? = some (.native ⟨"java/lang/Float", "floatToRawIntBits", "(F)I"⟩)) && decide (lw_tbl[j2]? = some (.static ⟨"java/lang/Float", "floatToRawIntBits", "(F)I"⟩)) && decide (lw_tbl[j3]? = some (.initialized "java/lang/Float"))
  | _, _ => false
def az_k2 (h : az_H) (l : List az_E) (i pc : Nat) (ins : Instr) (ln t u : Nat) (v : Int32) (ts js : List Nat) : Bool := match ins with
  | .goto _ => decide (ln = 3) && az_tg l pc (az_of ins) t
  | .ifCond _ _ => decide (ln = 3) && az_tg l pc (az_of ins) t && az_nx l i pc ln
  | .if_icmp _ _ => decide (ln = 3) && az_tg l pc (az_of ins) t && az_nx l i pc ln
  | .tableswitch _ _ _ _ => az_swc l pc ins t ts
  | .lookupswitch _ _ => az_swc l pc ins t ts
  | .ireturn => decide (ln = 1)
  | .areturn => decide (ln = 1)
  | .dreturn => decide (ln = 1)
  | .return_ => decide (ln = 1)
  | .getfield idx => decide (ln = 3) && az_nx l i pc ln && az_fw false h.1 h.2.1.name idx t u v js
  | .putfield idx => decide (ln = 3) && az_nx l i pc ln && az_fw true h.1 h.2.1.name idx t u v js
  | .new _ => decide (ln = 3) && az_nx l i pc ln && az_nw h.1 ins t u js
  | .newarray _ => decide (ln = 2) && az_nx l i pc ln && az_nw h.1 ins t u js
  | .anewarray _ => decide (ln = 3) && az_nx l i pc ln && az_nw h.1 ins t u js
  | .invokevirtual _ => decide (ln = 3) && az_nx l i pc ln && az_cw h ins t u v js
  | .invokespecial _ => decide (ln = 3) && az_nx l i pc ln && (if v = 2 then az_ow h ins js else az_cw h ins t u v js)
  | .invokestatic _ => decide (ln = 3) && az_nx l i pc ln && (if v = 3 then az_vw h ins js else az_cw h ins t u v js)
  | _ => decide (ln = az_len ins) && az_nx l i pc ln && az_im h.1 ins t u v js
def az_ck (h : az_H) (l : List az_E) (i : Nat) (e : az_E) : Bool := match e with
  | (pc, ins, ln, t, u, v, ts, js) => decide (decode h.2.2.1 pc = .ok (ins, ln)) && az_k2 h l i pc ins ln t u v ts js
def az_cki (h : az_H) (l : List az_E) : Nat → List az_E → Bool
  | _, [] => true
  | i, e :: es => az_ck h l i e && az_cki h l (i + 1) es
def az_ckM (h : az_H) (l : List az_E) : Bool := az_cki h l 0 l
theorem az_cki_at {h : az_H} {l : List az_E} : ∀ {es : List az_E} {i j : Nat} {e : az_E}, az_cki h l i es = true → es[j]? = some e → az_ck h l (i + j) e = true
  | [], _, _, _, _, h => by simp at h
  | e0 :: es, i, 0, e, h, hj => by
    simp only [az_cki, Bool.and_eq_true] at h
    simp only [List.getElem?_cons_zero, Option.some.injEq] at hj
    subst hj
    exact h.1
  | e0 :: es, i, j + 1, e, h, hj => by
    simp only [az_cki, Bool.and_eq_true] at h
    simp only [List.getElem?_cons_succ] at hj
    have := az_cki_at h.2 hj
    rw [show i + (j + 1) = i + 1 + j by omega]
    exact this
theorem az_k2_pu {h : az_H} {l : List az_E} {i pc : Nat} {ins : Instr} {ln t u : Nat} {v : Int32} {ts js : List Nat} {L st L' st' : List Value} (hpu : az_pu ins t u v L st = some (L', st')) (hk : az_k2 h l i pc ins ln t u v ts js = true) : ln = az_len ins ∧ az_nx l i pc ln = true ∧ az_im h.1 ins t u v js = true := by
  cases ins <;> first
    | exact nomatch (show (none : Option (List Value × List Value)) = some (L', st') from hpu)
    | (simp only [az_k2, Bool.and_eq_true, decide_eq_true_eq] at hk; exact ⟨hk.1.1, hk.1.2, hk.2⟩)
theorem az_k2_br {h : az_H} {l : List az_E} {i pc : Nat} {ins : Instr} {ln t u : Nat} {v : Int32} {ts js : List Nat} {st r : List Value} {q : Bool} (hbr : az_br ins st = some (q, r)) (hk : az_k2 h l i pc ins ln t u v ts js = true) : ln = 3 ∧ az_tg l pc (az_of ins) t = true ∧ (q = false → az_nx l i pc ln = true) := by
  cases ins <;> try exact nomatch (show (none : Option (Bool × List Value)) = some (q, r) from hbr)
  case goto z =>
    have hbr : some (true, st) = some (q, r) := hbr
    cases hbr
    simp only [az_k2, Bool.and_eq_true, decide_eq_true_eq] at hk
    exact ⟨hk.1, hk.2, fun h => by cases h⟩
  case ifCond cd z =>
    simp only [az_k2, Bool.and_eq_true, decide_eq_true_eq] at hk
    exact ⟨hk.1.1, hk.1.2, fun _ => hk.2⟩
  case if_icmp cd z =>
    simp only [az_k2, Bool.and_eq_true, decide_eq_true_eq] at hk
    exact ⟨hk.1.1, hk.1.2, fun _ => hk.2⟩
theorem az_k2_sw {h : az_H} {l : List az_E} {i pc : Nat} {ins : Instr} {ln t u : Nat} {v : Int32} {ts js : List Nat} {st r : List Value} {k : Nat} (hsw : az_sw ins t ts st = some (k, r)) (hk : az_k2 h l i pc ins ln t u v ts js = true) : az_swc l pc ins t ts = true := by
  unfold az_sw at hsw
  split at hsw
  · exact hk
  · exact hk
  · cases hsw
theorem az_k2_al {h : az_H} {l : List az_E} {i pc : Nat} {ins : Instr} {ln t u : Nat} {v : Int32} {ts js : List Nat} {k : Nat} (hal : az_al ins = some k) (hk : az_k2 h l i pc ins ln t u v ts js = true) : ln = 1 ∧ az_nx l i pc ln = true := by
  unfold az_al at hal
  split at hal <;> first | (simp only [az_k2, Bool.and_eq_true, decide_eq_true_eq] at hk; exact ⟨hk.1.1, hk.1.2⟩) | cases hal
theorem az_k2_as {h : az_H} {l : List az_E} {i pc : Nat} {ins : Instr} {ln t u : Nat} {v : Int32} {ts js : List Nat} {k : Nat} (hal : az_as ins = some k) (hk : az_k2 h l i pc ins ln t u v ts js = true) : ln = 1 ∧ az_nx l i pc ln = true := by
  unfold az_as at hal
  split at hal <;> first | (simp only [az_k2, Bool.and_eq_true, decide_eq_true_eq] at hk; exact ⟨hk.1.1, hk.1.2⟩) | cases hal
theorem az_k2_rt {h : az_H} {l : List az_E} {i pc : Nat} {ins : Instr} {ln t u : Nat} {v : Int32} {ts js : List Nat} {ret : Option FieldType} {st : List Value} {rv : Option Value} (hrt : az_rt ret ins st = some rv) (hk : az_k2 h l i pc ins ln t u v ts js = true) : ln = 1 := by
  unfold az_rt at hrt
  split at hrt <;> first | exact of_decide_eq_true hk | cases hrt
theorem az_nx_spec {l : List az_E} {i pc ln : Nat} (h : az_nx l i pc ln = true) : ∃ q : az_E, l[i + 1]? = some q ∧ q.1 = pc + ln := by
  unfold az_nx at h
  split at h
  · next q hq => exact ⟨q, hq, of_decide_eq_true h⟩
  · cases h
theorem az_lw_spec {own : String} {idx : Nat} {y : MethodName} {v : Int32} {j : Nat} (h : az_lw own idx y v j = true) : (v = 0 ∧ .methodLink own idx y ∈ lw_tbl) ∨ (v = 1 ∧ ∃ host, .methodLinkNest own idx y host ∈ lw_tbl) := by
  unfold az_lw at h
  split at h
  · next o i y' hj =>
    obtain ⟨h0, rfl, rfl, rfl⟩ := of_decide_eq_true h
    exact Or.inl ⟨h0, List.mem_of_getElem? hj⟩
  · next o i y' host hj =>
    obtain ⟨h0, rfl, rfl, rfl⟩ := of_decide_eq_true h
    exact Or.inr ⟨h0, host, List.mem_of_getElem? hj⟩
  · cases h
theorem az_tv_cat2 {b0 base : Nat} (x : Value) : (az_tv b0 base x).category = x.category := by
  cases x <;> rfl
theorem az_c8_map {b0 base : Nat} {rest : List Value} (h : az_c8 rest = true) : ((rest.map (az_tv b0 base)).map fun v => v.category).sum ≤ 8 := by
  have h1 := of_decide_eq_true h
  rw [List.map_map]
  have : (Value.category ∘ az_tv b0 base) = Value.category := funext (fun x => az_tv_cat2 x)
  show (List.map (Value.category ∘ az_tv b0 base) rest).sum ≤ 8
  rw [this]
  exact h1
/-- what is known of a frame's surroundings -/
def az_C (p : Program) (s : State) (m : MethodId) (args : Array Value) (meth : Method) (c : Code) (h : az_H) : Prop :=
  p.tables.exec = Jvm.exec ∧ c.code = h.2.2.1 ∧ c.maxLocals = h.2.2.2.1 ∧ meth.sig.returnType = h.2.2.2.2.1 ∧ s.vm.findClass h.1 = some m.cls ∧ az_T args s ∧ meth.locks = false ∧ (h.2.1.name = "<init>" → meth.name = "<init>")
/-- a method's contract, out of a run of the abstract machine -/
def az_Pc (D : va_G) (cy : Nat → ClassId) (b0 base : Nat) (As : List Value) (w : az_W) (sz : Nat) : Array Value → State → Prop := fun a U => a = (As.map (az_tv b0 base)).toArray ∧ az_Rw D cy b0 base w sz U.heap ∧ va_K D vwCl (az_tys cy) U ∧ az_N U
def az_Qc (D : va_G) (cy : Nat → ClassId) (b0 base : Nat) (r : Option Value) (w : az_W) (sz : Nat) : Array Value → State → Outcome → State → Prop := fun _ st o t => o = .returned (r.map (az_tv b0 base)) ∧ az_Rw D cy b0 base w sz t.heap ∧ ∀ q : Nat, q < base → t.heap[q]? = st.heap[q]?
def az_rm (h : az_H) (k n : Nat) : Room := { frames := h.2.2.2.2.2.1, cells := k, slots := n, locals := h.2.2.2.2.2.2 }
theorem az_blind {D : va_G} {cy : Nat → ClassId} {b0 base : Nat} {As : List Value} {w : az_W} {sz : Nat} : FrameBlind (az_Pc D cy b0 base As w sz) := by
  intro a U g mk q
  obtain ⟨q0, q1, qK, qN⟩ := q
  exact ⟨q0, q1, va_K.moved (u := U) (U := U.calling g mk a) (Vm.Alike.refl U.vm) qK, fun w hw hb => az_bad_same (s := U) (U := U.calling g mk a) hb rfl (qN w hw hb)⟩
def az_Sim (l : Launch) (X : az_X) : az_Q := fun M i L st w sz sl res =>
  sz ≤ res.2.2.1 ∧ sl ≤ res.2.2.2 ∧
  ∀ (h : az_H) (e0 : az_E), az_hs[M]? = some h → az_cd M i = some e0 →
  ∀ (p : Program) (e : Env) (R : Room) (s : State) (m : MethodId) (args : Array Value) (below : List Frame) (meth : Method) (c : Code) (D : va_G) (cy : Nat → ClassId) (b0 base : Nat) (Q : State → Prop),
    az_C p s m args meth c h → va_K D vwCl (az_tys cy) s → h.2.2.2.2.2.1 ≤ R.frames → h.2.2.2.2.2.2 ≤ R.locals →
  ∀ (H : Heap) (locs : List Loc) (cells slots : Nat) (ls : Array Slot),
    az_Rw D cy b0 base w sz H → az_LR b0 base ls h.2.2.2.1 L → (∀ q ∈ locs, base ≤ q.base) → (M = 0 → va_X b0 X.1 X.2 s H ∧ b0 < base) → cells + (res.2.2.1 - sz) ≤ R.cells → slots + (res.2.2.2 - sl) ≤ R.slots →
    (∀ (H' : Heap) (locs' : List Loc) (ls' : Array Slot) (st' : List Value) (pc' : Nat) (ins' : Instr), az_Rw D cy b0 base res.2.1 res.2.2.1 H' → (∀ q : Nat, q < base → H'[q]? = H[q]?) → (∀ q ∈ locs', base ≤ q.base) → az_rt h.2.2.2.2.1 ins' st' = some res.1 → decode h.2.2.1 pc' = .ok (ins', 1) →
      W p l e R s m args below meth c H' locs' (cells + (res.2.2.1 - sz)) (slots + (res.2.2.2 - sl)) Q (F0 m pc' ls' (st'.map (az_tv b0 base)))) →
    W p l e R s m args below meth c H locs cells slots Q (F0 m e0.1 ls (st.map (az_tv b0 base)))
theorem az_a1_sl {b0 base : Nat} : ∀ {As : List Value}, As.all az_a1 = true → lg_sl (As.map (az_tv b0 base)) = As.map (fun x => Slot.val (az_tv b0 base x))
  | [], _ => rfl
  | x :: As, h => by
    simp only [List.all_cons, Bool.and_eq_true] at h
    have ih := az_a1_sl (b0 := b0) (base := base) h.2
    have hx : ¬ (az_tv b0 base x).category = 2 := by
      rw [az_tv_cat2]
      have := h.1
      cases x <;> first | (intro q; cases q; done) | exact absurd this (by simp [az_a1])
    unfold lg_sl at ih ⊢
    simp only [List.map_cons, List.flatMap_cons, if_neg hx, ih]
    rfl
theorem az_a1_args {b0 base : Nat} : ∀ {As : List Value} {k j : Nat} {x : Value}, As.all az_a1 = true → As[j]? = some x → (k + j, az_tv b0 base x) ∈ lv_args k (As.map (az_tv b0 base))
  | [], _, _, _, _, h => by simp at h
  | y :: As, k, 0, x, h, hj => by
    simp only [List.getElem?_cons_zero, Option.some.injEq] at hj
    subst hj
    exact List.mem_cons_self
  | y :: As, k, j + 1, x, h, hj => by
    simp only [List.all_cons, Bool.and_eq_true] at h
    simp only [List.getElem?_cons_succ] at hj
    have hx : ¬ (az_tv b0 base y).category = 2 := by
      rw [az_tv_cat2]
      have := h.1
      cases y <;> first | (intro q; cases q; done) | exact absurd this (by simp [az_a1])
    have ih := az_a1_args (b0 := b0) (base := base) (k := k + 1) h.2 hj
    refine List.mem_cons.mpr (Or.inr ?_)
    rw [if_neg hx, show k + (j + 1) = k + 1 + j by omega]
    exact ih
theorem az_LR_entry {b0 base n : Nat} {As : List Value} (ha : As.all az_a1 = true) (hn : As.length ≤ n) : az_LR b0 base ((lg_sl (As.map (az_tv b0 base)) ++ List.replicate (n - (lg_sl (As.map (az_tv b0 base))).length) Slot.unset).toArray) n (az_L0 As n) := by
  have hlen : (lg_sl (As.map (az_tv b0 base))).length = As.length := by rw [az_a1_sl ha, List.length_map]
  have h1 := lv_entry (As.map (az_tv b0 base)) (n := n) (by rw [hlen]; exact hn)
  refine ⟨by simp [az_L0]; omega, h1.1, h1.2.1, fun q hq => h1.2.2 q ?_⟩
  obtain ⟨x, hx, hnn, he⟩ := az_en_inv hq
  unfold az_L0 at hx
  by_cases hl : q.1 < As.length
  · rw [List.getElem?_append_left hl] at hx
    have := az_a1_args (b0 := b0) (base := base) (k := 0) ha hx
    rw [Nat.zero_add, ← he] at this
    exact this
  · rw [List.getElem?_append_right (by omega), List.getElem?_replicate] at hx
    split at hx
    · cases hx
      exact absurd rfl hnn
    · cases hx
/-- a contract out of a walk, for any method that no native row stands for -/
theorem az_ofW {l : Launch} {y : MethodName} {ws ws' : List Jvm.Cond} {rm : Room} {Pc : Array Value → State → Prop} {Qc : Array Value → State → Outcome → State → Prop} {mc ms : Nat} {free : Addr → Prop} {cc : ByteArray} {maxL : Nat} {ret : Option FieldType}
    (hy : plainFor y = true) (hw : ws = Jvm.Cond.code y cc maxL ret :: ws')
    (body : ∀ p e s m args below meth c s₁, BodyLoose p l y (headSpec ws rm) cc maxL ret e s m args below meth c s₁ → c.maxLocals = maxL → Pc args s →
      W p l e (headSpec ws rm).room s m args below meth c s.heap [] 0 0 (MQ below Qc args s mc ms free) (entryFrame m args maxL)) : Met l y ws rm Pc Qc mc ms free := by
  refine MetFree.of_bodySF (code := cc) (maxLocals := maxL) (ret := ret) hy (fun args s m h hn => ?_) (fun p e s m args below meth c s₁ B hml hP _ => ?_)
  · obtain ⟨meth, c, h1, h2, h3, h4, h5, h6, -, -⟩ := Jvm.Cond.code_spec hn (atoms_spec (ws := ws) h _ (by rw [hw]; exact List.mem_cons_self))
    exact ⟨meth, c, h1, h2, h3, h4, h5, h6⟩
  · have hh0 : s₁.heap = s.heap := by rw [B.state]; rfl
    obtain ⟨t, a1, o, b1, b2, b3⟩ := body p e s m args below meth c s₁ B hml hP s₁ hh0 (Stand.of_body B)
    exact ⟨t, o, a1, b1, b2, ⟨b3.1, b3.2⟩⟩
set_option maxHeartbeats 2000000 in
theorem az_met {l : Launch} {X : az_X} {t : Nat} {h : az_H} {As : List Value} {w w1 : az_W} {sz sl sz1 sl1 : Nat} {r : Option Value} (hS : az_Sim l X t 0 (az_L0 As h.2.2.2.1) [] w sz sl (r, w1, sz1, sl1)) (ht : t ≠ 0) (hh : az_hs[t]? = some h) (e0 : az_E) (he0 : az_cd t 0 = some e0) (hpc : e0.1 = 0) (hpl : plainFor h.2.1 = true) (hcls : h.1 = h.2.1.cls) (ha : As.all az_a1 = true) (hn : As.length ≤ h.2.2.2.1) (D : va_G) (cy : Nat → ClassId) (b0 base : Nat) :
    Met l h.2.1 (.code h.2.1 h.2.2.1 h.2.2.2.1 h.2.2.2.2.1 :: az_gw) (az_rm h (sz1 - sz) (sl1 - sl)) (az_Pc D cy b0 base As w sz) (az_Qc D cy b0 base r w1 sz1) (sz1 - sz) (sl1 - sl) (fun q => base ≤ q) := by
  refine az_ofW (cc := h.2.2.1) (maxL := h.2.2.2.1) (ret := h.2.2.2.2.1) hpl rfl ?_
  intro p e s m args below meth c s₁ B hml hv
  obtain ⟨rfl, hR, hK, hN⟩ := hv
  have hts0 := atoms_spec (ws := .code h.2.1 h.2.2.1 h.2.2.2.1 h.2.2.2.2.1 :: az_gw) B.pre
  have hts1 : az_T (As.map (az_tv b0 base)).toArray s := by
    intro w hw h1
    simp only [az_us, Bool.or_eq_true] at h1
    rcases h1 with h1 | h1
    · exact hts0 w (List.mem_cons_of_mem _ (List.mem_filter.mpr ⟨hw, h1⟩))
    · exact az_bad_use h1 (hN w hw h1)
  have hC : az_C p s m (As.map (az_tv b0 base)).toArray meth c h := ⟨B.exec, B.bytes, hml, B.returns, by rw [hcls]; exact findClass_of_methodNamed B.named, hts1, B.notSynchronized, fun hi => by rw [(name_of_methodNamed B.named B.method).1]; exact hi⟩
  rw [lg_entry_eq]
  have hsim := hS.2.2 h e0 hh he0 p e (az_rm h (sz1 - sz) (sl1 - sl)) s m _ below meth c D cy b0 base (MQ below (az_Qc D cy b0 base r w1 sz1) (As.map (az_tv b0 base)).toArray s (sz1 - sz) (sl1 - sl) (fun q => base ≤ q)) hC hK (Nat.le_refl _) (Nat.le_refl _) s.heap [] 0 0 _ hR (az_LR_entry ha hn) (fun q hq => by cases hq) (fun h0 => absurd h0 ht) (by show 0 + (sz1 - sz) ≤ sz1 - sz; omega) (by show 0 + (sl1 - sl) ≤ sl1 - sl; omega) ?_
  · rw [hpc] at hsim
    exact hsim
  · intro H' locs' ls' st' pc' ins' hR' hfr hlo hrt hd
    refine W.cs (Nat.zero_add _) (Nat.zero_add _) ?_
    have hq : ∀ t : State, t.heap = H' → s.WarmedH t.vm → az_Qc D cy b0 base r w1 sz1 (As.map (az_tv b0 base)).toArray s (.returned (r.map (az_tv b0 base))) t := fun t ht _ => ⟨rfl, by rw [ht]; exact hR', by rw [ht]; exact hfr⟩
    have hret := hC.2.2.2.1
    unfold az_rt at hrt
    split at hrt
    · next v hre =>
      cases hrt
      rw [hre] at hret
      exact W.iret hC.1 hC.2.1 hret hq hlo hd hC.2.2.2.2.2.2.1
    · next v hre =>
      rw [hre] at hret
      split at hrt
      · next hv =>
        cases hrt
        exact W.zret (v := v) hC.1 hC.2.1 hret (by rcases hv with rfl | rfl <;> rfl) hq hlo hd hC.2.2.2.2.2.2.1
      · cases hrt
    · next nm a hre =>
      cases hrt
      rw [hre] at hret
      exact W.aret hC.1 hC.2.1 hret (Or.inl ⟨_, rfl⟩) (Or.inr ⟨_, rfl⟩) hq hlo hd hC.2.2.2.2.2.2.1
    · next x hre =>
      cases hrt
      rw [hre] at hret
      exact W.dret hC.1 hC.2.1 hret hq hlo hd hC.2.2.2.2.2.2.1
    · next hre =>
      cases hrt
      rw [hre] at hret
      exact W.vret hC.1 hC.2.1 hret hq hlo hd hC.2.2.2.2.2.2.1
    · cases hrt
