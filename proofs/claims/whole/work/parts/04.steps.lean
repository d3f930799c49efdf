/-! from the abstract machine to the machine: locals, and the steps that touch locals and stack alone -/
/-- the words that a callee's frame doesn't take over by itself: they ride in the contract -/
def az_bad (w : Jvm.Cond) : Bool := match w with
  | .fieldLinkNest _ _ _ _ _ _ => true
  | .methodLinkNest _ _ _ _ => true
  | .arrayOver (.object _) => true
  | _ => false
def az_us (w : Jvm.Cond) : Bool := goodWord w || az_bad w
def az_T (args : Array Value) (s : State) : Prop := ∀ w ∈ lw_tbl, az_us w = true → w.before args s = true
def az_tv (b0 base : Nat) : Value → Value
  | .ref k => .ref (base + k)
  | .retAddr _ => .ref b0
  | v => v
def az_pk (b0 base : Nat) (L : List Value) (j : Nat) : Option (Nat × Value) := match L[j]? with
  | some x => if x = .null then none else some (j, az_tv b0 base x)
  | none => none
def az_en (b0 base : Nat) (L : List Value) : List (Nat × Value) := (List.range L.length).filterMap (az_pk b0 base L)
theorem az_en_mem {b0 base : Nat} {L : List Value} {j : Nat} {x : Value} (h : L[j]? = some x) (hn : ¬ x = .null) : (j, az_tv b0 base x) ∈ az_en b0 base L := by
  have hl : j < L.length := (List.getElem?_eq_some_iff.mp h).1
  refine List.mem_filterMap.mpr ⟨j, List.mem_range.mpr hl, ?_⟩
  simp only [az_pk, h, if_neg hn]
theorem az_en_inv {b0 base : Nat} {L : List Value} {q : Nat × Value} (h : q ∈ az_en b0 base L) : ∃ x, L[q.1]? = some x ∧ ¬ x = .null ∧ q.2 = az_tv b0 base x := by
  obtain ⟨j, hj, he⟩ := List.mem_filterMap.mp h
  unfold az_pk at he
  split at he
  · next x hx =>
    by_cases hn : x = .null
    · rw [if_pos hn] at he
      exact absurd he (by simp)
    · rw [if_neg hn] at he
      cases he
      exact ⟨x, hx, hn, rfl⟩
  · exact absurd he (by simp)
def az_LR (b0 base : Nat) (ls : Array Slot) (nL : Nat) (L : List Value) : Prop := L.length = nL ∧ lv_has ls nL (az_en b0 base L)
theorem az_LR.get {b0 base : Nat} {ls : Array Slot} {nL : Nat} {L : List Value} (h : az_LR b0 base ls nL L) {i : Nat} {x : Value} (hx : L[i]? = some x) (hn : ¬ x = .null) : ls[i]? = some (.val (az_tv b0 base x)) := h.2.2.2 _ (az_en_mem hx hn)
theorem az_tv_cat {b0 base : Nat} {x : Value} (h : x.category = 1) : (az_tv b0 base x).category = 1 := by
  cases x <;> first | exact h | rfl
theorem az_nd_cat {L : List Value} {j : Nat} {x : Value} (h : az_nd (j + 1) L = true) (hx : L[j]? = some x) : x.category = 1 := by
  simp only [az_nd, hx] at h
  cases x <;> first | rfl | exact absurd h (by simp)
theorem az_LR.set1 {b0 base : Nat} {ls ls' : Array Slot} {nL i : Nat} {L : List Value} {x : Value} (h : az_LR b0 base ls nL L) (h' : lv_has ls' nL ((i, az_tv b0 base x) :: (az_en b0 base L).filter (fun q => !(q.1 == i) && !(q.1 + 1 == i && q.2.category == 2)))) (hnd : az_nd i L = true) : az_LR b0 base ls' nL (L.set i x) := by
  refine ⟨by rw [List.length_set]; exact h.1, h'.1, h'.2.1, fun q hq => ?_⟩
  obtain ⟨z, hz, hn, he⟩ := az_en_inv hq
  refine h'.2.2 q ?_
  by_cases hj : q.1 = i
  · rw [hj] at hz
    have hl : i < (L.set i x).length := (List.getElem?_eq_some_iff.mp hz).1
    rw [List.length_set] at hl
    rw [List.getElem?_set_self hl] at hz
    cases hz
    refine List.mem_cons.mpr (Or.inl ?_)
    rw [← hj, ← he]
  · rw [List.getElem?_set_ne (Ne.symm hj)] at hz
    refine List.mem_cons.mpr (Or.inr (List.mem_filter.mpr ⟨?_, ?_⟩))
    · have := az_en_mem (b0 := b0) (base := base) hz hn
      rw [← he] at this
      exact this
    · have h1 : (q.1 == i) = false := by simp [hj]
      by_cases h2 : q.1 + 1 = i
      · subst h2
        have h3 := az_tv_cat (b0 := b0) (base := base) (az_nd_cat hnd hz)
        rw [← he] at h3
        simp [h3]
      · simp [hj, h2]
theorem az_LR.set2 {b0 base : Nat} {ls ls' : Array Slot} {nL i : Nat} {L : List Value} {x : UInt64} (h : az_LR b0 base ls nL L) (h' : lv_has ls' nL ((i, .double x) :: (az_en b0 base L).filter (fun q => !(q.1 == i) && (!(q.1 == i + 1) && !(q.1 + 1 == i && q.2.category == 2))))) (hnd : az_nd i L = true) : az_LR b0 base ls' nL ((L.set i (.double x)).set (i + 1) .null) := by
  refine ⟨by rw [List.length_set, List.length_set]; exact h.1, h'.1, h'.2.1, fun q hq => ?_⟩
  obtain ⟨z, hz, hn, he⟩ := az_en_inv hq
  refine h'.2.2 q ?_
  have hl : q.1 < ((L.set i (.double x)).set (i + 1) .null).length := (List.getElem?_eq_some_iff.mp hz).1
  rw [List.length_set, List.length_set] at hl
  by_cases hj1 : q.1 = i + 1
  · rw [hj1] at hz hl
    rw [List.getElem?_set_self (by rw [List.length_set]; exact hl)] at hz
    cases hz
    exact absurd rfl hn
  rw [List.getElem?_set_ne (Ne.symm hj1)] at hz
  by_cases hj : q.1 = i
  · rw [hj] at hz hl
    rw [List.getElem?_set_self hl] at hz
    cases hz
    refine List.mem_cons.mpr (Or.inl ?_)
    rw [← hj]
    have : q.2 = .double x := he
    rw [← this]
  · rw [List.getElem?_set_ne (Ne.symm hj)] at hz
    refine List.mem_cons.mpr (Or.inr (List.mem_filter.mpr ⟨?_, ?_⟩))
    · have := az_en_mem (b0 := b0) (base := base) hz hn
      rw [← he] at this
      exact this
    · by_cases h2 : q.1 + 1 = i
      · subst h2
        have h3 := az_tv_cat (b0 := b0) (base := base) (az_nd_cat hnd hz)
        rw [← he] at h3
        simp [h3]
        omega
      · simp [hj, h2, hj1]
/-- how long an instruction is -/
def az_len (ins : Instr) : Nat := match ins with
  | .bipush _ => 2
  | .sipush _ => 3
  | .ldc _ => 2
  | .ldc_w _ => 3
  | .ldc2_w _ => 3
  | .iload _ => 2
  | .aload _ => 2
  | .fload _ => 2
  | .dload _ => 2
  | .istore _ => 2
  | .astore _ => 2
  | .fstore _ => 2
  | .dstore _ => 2
  | .iinc _ _ => 3
  | .getfield _ => 3
  | .putfield _ => 3
  | .new _ => 3
  | .newarray _ => 2
  | .anewarray _ => 3
  | .invokevirtual _ => 3
  | .invokespecial _ => 3
  | .invokestatic _ => 3
  | .ifCond _ _ => 3
  | .if_icmp _ _ => 3
  | .goto _ => 3
  | _ => 1
/-- what an instruction's own numbers must be -/
def az_im (own : String) (ins : Instr) (t u : Nat) (v : Int32) (js : List Nat) : Bool := match ins with
  | .iconst z => decide (Int32.ofInt z = v)
  | .bipush z => decide ((Int8.ofInt z).toInt32 = v)
  | .sipush z => decide ((Int16.ofInt z).toInt32 = v)
  | .iinc _ z => decide (Int32.ofInt z = v)
  | .ldc idx => match js with
    | [j] => if u = 0 then decide (lw_tbl[j]? = some (.constant own idx v)) else decide (lw_tbl[j]? = some (.constantFloat own idx (UInt32.ofNat t)))
    | _ => false
  | .ldc_w idx => match js with
    | [j] => if u = 0 then decide (lw_tbl[j]? = some (.constant own idx v)) else decide (lw_tbl[j]? = some (.constantFloat own idx (UInt32.ofNat t)))
    | _ => false
  | .ldc2_w idx => match js with
    | [j] => decide (lw_tbl[j]? = some (.constantDouble own idx (UInt64.ofNat t)))
    | _ => false
  | _ => true
theorem az_ld_spec {ok : Value → Bool} {i : Nat} {L st L' st' : List Value} (h : az_ld ok i L st = some (L', st')) : ∃ v, L[i]? = some v ∧ ok v = true ∧ L' = L ∧ st' = v :: st := by
  unfold az_ld at h
  split at h
  · next v hv =>
    by_cases ho : ok v = true
    · rw [if_pos ho] at h
      cases h
      exact ⟨v, hv, ho, rfl, rfl⟩
    · rw [if_neg ho] at h
      cases h
  · cases h
theorem az_ldD_spec {i : Nat} {L st L' st' : List Value} (h : az_ldD i L st = some (L', st')) : ∃ x, L[i]? = some (.double x) ∧ L' = L ∧ st' = .double x :: st := by
  unfold az_ldD at h
  split at h
  · next x hv =>
    cases h
    exact ⟨x, hv, rfl, rfl⟩
  · cases h
theorem az_s1_spec {ok : Value → Bool} {i : Nat} {L st L' st' : List Value} (h : az_s1 ok i L st = some (L', st')) : ∃ v r, st = v :: r ∧ ok v = true ∧ az_nd i L = true ∧ i < L.length ∧ L' = L.set i v ∧ st' = r := by
  unfold az_s1 at h
  split at h
  · next v r =>
    split at h
    · next ho =>
      cases h
      exact ⟨v, _, rfl, ho.1, ho.2.1, ho.2.2, rfl, rfl⟩
    · cases h
  · cases h
theorem az_s2_spec {i : Nat} {L st L' st' : List Value} (h : az_s2 i L st = some (L', st')) : ∃ x r, st = .double x :: r ∧ az_nd i L = true ∧ i + 1 < L.length ∧ L' = (L.set i (.double x)).set (i + 1) .null ∧ st' = r := by
  unfold az_s2 at h
  split at h
  · next x r =>
    split at h
    · next ho =>
      cases h
      exact ⟨x, _, rfl, ho.1, ho.2, rfl, rfl⟩
    · cases h
  · cases h
theorem az_inc_spec {i : Nat} {v : Int32} {L st L' st' : List Value} (h : az_inc i v L st = some (L', st')) : ∃ x, L[i]? = some (.int x) ∧ az_nd i L = true ∧ i < L.length ∧ L' = L.set i (.int (x + v)) ∧ st' = st := by
  unfold az_inc at h
  split at h
  · next x hx =>
    split at h
    · next ho =>
      cases h
      exact ⟨x, hx, ho.1, ho.2, rfl, rfl⟩
    · cases h
  · cases h
theorem az_i2_spec {f : Int32 → Int32 → Int32} {L st L' st' : List Value} (h : az_i2 f L st = some (L', st')) : ∃ x y r, st = .int y :: .int x :: r ∧ L' = L ∧ st' = .int (f x y) :: r := by
  unfold az_i2 at h
  split at h
  · cases h
    exact ⟨_, _, _, rfl, rfl, rfl⟩
  · cases h
theorem az_rem_spec {L st L' st' : List Value} (h : az_rem L st = some (L', st')) : ∃ x y r, st = .int y :: .int x :: r ∧ ¬ y = 0 ∧ L' = L ∧ st' = .int (x - x / y * y) :: r := by
  unfold az_rem at h
  split at h
  · split at h
    · cases h
    · next h0 =>
      cases h
      exact ⟨_, _, _, rfl, h0, rfl, rfl⟩
  · cases h
theorem az_i1_spec {f : Int32 → Value} {L st L' st' : List Value} (h : az_i1 f L st = some (L', st')) : ∃ x r, st = .int x :: r ∧ L' = L ∧ st' = f x :: r := by
  unfold az_i1 at h
  split at h
  · cases h
    exact ⟨_, _, rfl, rfl, rfl⟩
  · cases h
theorem az_f1_spec {f : UInt32 → Value} {L st L' st' : List Value} (h : az_f1 f L st = some (L', st')) : ∃ x r, st = .float x :: r ∧ L' = L ∧ st' = f x :: r := by
  unfold az_f1 at h
  split at h
  · cases h
    exact ⟨_, _, rfl, rfl, rfl⟩
  · cases h
theorem az_f2_spec {f : UInt32 → UInt32 → UInt32} {L st L' st' : List Value} (h : az_f2 f L st = some (L', st')) : ∃ x y r, st = .float y :: .float x :: r ∧ vf_n32 (f x y) ∧ L' = L ∧ st' = .float (f x y) :: r := by
  unfold az_f2 at h
  split at h
  · split at h
    · next h0 =>
      cases h
      exact ⟨_, _, _, rfl, h0, rfl, rfl⟩
    · cases h
  · cases h
theorem az_fc_spec {f : UInt32 → UInt32 → Int32} {L st L' st' : List Value} (h : az_fc f L st = some (L', st')) : ∃ x y r, st = .float y :: .float x :: r ∧ L' = L ∧ st' = .int (f x y) :: r := by
  unfold az_fc at h
  split at h
  · cases h
    exact ⟨_, _, _, rfl, rfl, rfl⟩
  · cases h
theorem az_d2_spec {f : UInt64 → UInt64 → UInt64} {L st L' st' : List Value} (h : az_d2 f L st = some (L', st')) : ∃ x y r, st = .double y :: .double x :: r ∧ vf_n64 (f x y) ∧ L' = L ∧ st' = .double (f x y) :: r := by
  unfold az_d2 at h
  split at h
  · split at h
    · next h0 =>
      cases h
      exact ⟨_, _, _, rfl, h0, rfl, rfl⟩
    · cases h
  · cases h
theorem az_dc_spec {f : UInt64 → UInt64 → Int32} {L st L' st' : List Value} (h : az_dc f L st = some (L', st')) : ∃ x y r, st = .double y :: .double x :: r ∧ L' = L ∧ st' = .int (f x y) :: r := by
  unfold az_dc at h
  split at h
  · cases h
    exact ⟨_, _, _, rfl, rfl, rfl⟩
  · cases h
theorem az_df_spec {L st L' st' : List Value} (h : az_df L st = some (L', st')) : ∃ x r, st = .double x :: r ∧ vf_n32 (FP.d2f x) ∧ L' = L ∧ st' = .float (FP.d2f x) :: r := by
  unfold az_df at h
  split at h
  · split at h
    · next h0 =>
      cases h
      exact ⟨_, _, rfl, h0, rfl, rfl⟩
    · cases h
  · cases h
theorem az_dup_spec {L st L' st' : List Value} (h : az_dup L st = some (L', st')) : ∃ x r, st = x :: r ∧ az_is1 x = true ∧ L' = L ∧ st' = x :: x :: r := by
  unfold az_dup at h
  split at h
  · split at h
    · next h0 =>
      cases h
      exact ⟨_, _, rfl, h0, rfl, rfl⟩
    · cases h
  · cases h
theorem az_dup2_spec {L st L' st' : List Value} (h : az_dup2 L st = some (L', st')) : ∃ a b r, st = a :: b :: r ∧ az_is1 a = true ∧ az_is1 b = true ∧ L' = L ∧ st' = a :: b :: a :: b :: r := by
  unfold az_dup2 at h
  split at h
  · split at h
    · next h0 =>
      cases h
      exact ⟨_, _, _, rfl, h0.1, h0.2, rfl, rfl⟩
    · cases h
  · cases h
theorem az_is1_cat {b0 base : Nat} {x : Value} (h : az_is1 x = true) : (az_tv b0 base x).category = 1 := by
  cases x <;> first | rfl | exact absurd h (by simp [az_is1])
theorem az_isI_of {x : Value} (h : az_isI x = true) : ∃ y, x = .int y := by
  cases x <;> first | exact ⟨_, rfl⟩ | exact absurd h (by simp [az_isI])
theorem az_isF_of {x : Value} (h : az_isF x = true) : ∃ y, x = .float y := by
  cases x <;> first | exact ⟨_, rfl⟩ | exact absurd h (by simp [az_isF])
theorem az_isA_of {b0 base : Nat} {x : Value} (h : az_isA x = true) : ∃ y, az_tv b0 base x = .ref y ∧ ¬ x = .null := by
  cases x <;> first | exact ⟨_, rfl, fun h => by cases h⟩ | exact absurd h (by simp [az_isA])
theorem az_wd {j : Nat} {w : Jvm.Cond} {args : Array Value} {s : State} (hts : az_T args s) (hu : az_us w = true) (h : decide (lw_tbl[j]? = some w) = true) : w.before args s = true := hts w (List.mem_of_getElem? (of_decide_eq_true h)) hu
section AZ1
variable {p : Program} {l : Launch} {e : Env} {R : Room} {s : State} {m : MethodId} {args : Array Value} {below : List Frame} {meth : Method} {c : Code} {H : Heap} {locs : List Loc} {cells slots : Nat} {Q : State → Prop}

theorem az_ldcwF {T : State} (X : Stand p l e R s m args below meth c T locs cells slots) (hexec : p.tables.exec = Jvm.exec) {own : String} {index : Nat} {v : UInt32} (hown : s.vm.findClass own = some m.cls) (hconst : (Jvm.Cond.constantFloat own index v).before args s = true) {g : JFrame} (hg : g.method = m) (hdg : decode c.code g.pc = .ok (.ldc_w index, 3)) :
    ∀ target, Steps p.tables e below (T.setTop { g with pc := g.pc + 3, stack := .float v :: g.stack }) target → Steps p.tables e below (T.setTop g) target := by
  obtain ⟨k, cf, hk, hcf, hcp⟩ := Jvm.Cond.constantFloat_spec hown hconst
  obtain ⟨k', hk', he⟩ := X.warmed.alike.2.2 _ _ hk
  intro target hrest
  subst hg
  jvm_step X.here [hexec, hdg, ldc_w.wp_float (s := T) (f := g) X.here.top hk' (by rw [he]; exact hcf) hcp]
  exact hrest
theorem az_ldcwf {cc : ByteArray} {pc : Nat} {ls : Array Slot} {rest : List Value} (hexec : p.tables.exec = Jvm.exec) (hb : c.code = cc) {own : String} {index : Nat} {v : UInt32} (hown : s.vm.findClass own = some m.cls) (hconst : (Jvm.Cond.constantFloat own index v).before args s = true) (hdg : decode cc pc = .ok (.ldc_w index, 3)) (k : W p l e R s m args below meth c H locs cells slots Q (F0 m (pc + 3) ls (.float v :: rest))) : W p l e R s m args below meth c H locs cells slots Q (F0 m pc ls rest) := by
  intro T hT X
  obtain ⟨t, a, b⟩ := k T hT X
  exact ⟨t, az_ldcwF X hexec hown hconst (g := F0 m pc ls rest) rfl (by rw [hb]; exact hdg) t a, b⟩
set_option maxHeartbeats 4000000 in
theorem az_pu_ok {cc : ByteArray} {own : String} {b0 base nL pc ln t u : Nat} {v : Int32} {js : List Nat} {ins : Instr} {ls : Array Slot} {L st L' st' : List Value} (hx : p.tables.exec = Jvm.exec) (hb : c.code = cc) (hown : s.vm.findClass own = some m.cls) (hts : az_T args s) (hpu : az_pu ins t u v L st = some (L', st')) (hd : decode cc pc = .ok (ins, ln)) (hln : ln = az_len ins) (him : az_im own ins t u v js = true) (hLR : az_LR b0 base ls nL L)
    (kk : ∀ ls' : Array Slot, az_LR b0 base ls' nL L' → W p l e R s m args below meth c H locs cells slots Q (F0 m (pc + ln) ls' (st'.map (az_tv b0 base)))) : W p l e R s m args below meth c H locs cells slots Q (F0 m pc ls (st.map (az_tv b0 base))) := by
  subst hln
  cases ins <;> try exact nomatch (show (none : Option (List Value × List Value)) = some (L', st') from hpu)
  case iconst z =>
    have hpu : some (L, Value.int v :: st) = some (L', st') := hpu
    cases hpu
    exact lv_iconst hx hb hd (of_decide_eq_true him) (kk ls hLR)
  case bipush z =>
    have hpu : some (L, Value.int v :: st) = some (L', st') := hpu
    cases hpu
    exact lv_bipush hx hb hd (of_decide_eq_true him) (kk ls hLR)
  case sipush z =>
    have hpu : some (L, Value.int v :: st) = some (L', st') := hpu
    cases hpu
    exact lv_sipush hx hb hd (of_decide_eq_true him) (kk ls hLR)
  case ldc idx =>
    simp only [az_pu] at hpu
    simp only [az_im] at him
    split at him
    · split at hpu
      · next h0 =>
        rw [if_pos h0] at him
        cases hpu
        exact lv_ldc hx hb hown (az_wd hts rfl him) hd (kk ls hLR)
      · next h0 =>
        rw [if_neg h0] at him
        split at hpu
        · cases hpu
          exact lv_ldcf hx hb hown (az_wd hts rfl him) hd (kk ls hLR)
        · cases hpu
    · cases him
  case ldc_w idx =>
    simp only [az_pu] at hpu
    simp only [az_im] at him
    split at him
    · split at hpu
      · next h0 =>
        rw [if_pos h0] at him
        cases hpu
        exact lv_ldcw hx hb hown (az_wd hts rfl him) hd (kk ls hLR)
      · next h0 =>
        rw [if_neg h0] at him
        split at hpu
        · cases hpu
          exact az_ldcwf hx hb hown (az_wd hts rfl him) hd (kk ls hLR)
        · cases hpu
    · cases him
  case ldc2_w idx =>
    simp only [az_pu] at hpu
    simp only [az_im] at him
    split at him
    · split at hpu
      · cases hpu
        exact lv_ldc2d hx hb hown (az_wd hts rfl him) hd (kk ls hLR)
      · cases hpu
    · cases him
  case fconst k =>
    have hpu : some (L, Value.float (if k = 0 then 0 else if k = 1 then 0x3f800000 else 0x40000000) :: st) = some (L', st') := hpu
    cases hpu
    match k, hd, kk with
    | 0, hd, kk => exact lv_fconst0 hx hb hd (kk ls hLR)
    | 1, hd, kk => exact lv_fconst1 hx hb hd (kk ls hLR)
    | 2, hd, kk => exact lv_fconst2 hx hb hd (kk ls hLR)
  case iload k =>
    obtain ⟨x, hx1, hk, rfl, rfl⟩ := az_ld_spec hpu
    obtain ⟨y, rfl⟩ := az_isI_of hk
    exact lv_iload hx hb hd (hLR.get hx1 (fun h => by cases h)) (kk ls hLR)
  case iload_n k =>
    obtain ⟨x, hx1, hk, rfl, rfl⟩ := az_ld_spec hpu
    obtain ⟨y, rfl⟩ := az_isI_of hk
    exact lv_iload_n hx hb hd rfl (hLR.get hx1 (fun h => by cases h)) (kk ls hLR)
  case fload k =>
    obtain ⟨x, hx1, hk, rfl, rfl⟩ := az_ld_spec hpu
    obtain ⟨y, rfl⟩ := az_isF_of hk
    exact lv_fload hx hb hd (hLR.get hx1 (fun h => by cases h)) (kk ls hLR)
  case fload_n k =>
    obtain ⟨x, hx1, hk, rfl, rfl⟩ := az_ld_spec hpu
    obtain ⟨y, rfl⟩ := az_isF_of hk
    exact lv_fload_n hx hb hd rfl (hLR.get hx1 (fun h => by cases h)) (kk ls hLR)
  case aload k =>
    obtain ⟨x, hx1, hk, rfl, rfl⟩ := az_ld_spec hpu
    obtain ⟨y, hy, hn⟩ := az_isA_of (b0 := b0) (base := base) hk
    have hg := hLR.get hx1 hn
    rw [hy] at hg
    have h2 := kk ls hLR
    rw [List.map_cons, hy] at h2
    exact lv_aload hx hb hd hg h2
  case aload_n k =>
    obtain ⟨x, hx1, hk, rfl, rfl⟩ := az_ld_spec hpu
    obtain ⟨y, hy, hn⟩ := az_isA_of (b0 := b0) (base := base) hk
    have hg := hLR.get hx1 hn
    rw [hy] at hg
    have h2 := kk ls hLR
    rw [List.map_cons, hy] at h2
    exact lv_aload_n hx hb hd rfl hg h2
  case dload k =>
    obtain ⟨y, hx1, rfl, rfl⟩ := az_ldD_spec hpu
    exact lv_dload hx hb hd (hLR.get hx1 (fun h => by cases h)) (kk ls hLR)
  case dload_n k =>
    obtain ⟨y, hx1, rfl, rfl⟩ := az_ldD_spec hpu
    exact lv_dload_n hx hb hd rfl (hLR.get hx1 (fun h => by cases h)) (kk ls hLR)
  case istore k =>
    obtain ⟨x, r, rfl, hk, hnd, hl, rfl, rfl⟩ := az_s1_spec hpu
    obtain ⟨y, rfl⟩ := az_isI_of hk
    exact lv_istore hx hb hd hLR.2 (by rw [← hLR.1]; exact hl) rfl (fun ls' h' => kk ls' (hLR.set1 h' hnd))
  case istore_n k =>
    obtain ⟨x, r, rfl, hk, hnd, hl, rfl, rfl⟩ := az_s1_spec hpu
    obtain ⟨y, rfl⟩ := az_isI_of hk
    exact lv_istore_n hx hb hd rfl hLR.2 (by rw [← hLR.1]; exact hl) rfl (fun ls' h' => kk ls' (hLR.set1 h' hnd))
  case fstore k =>
    obtain ⟨x, r, rfl, hk, hnd, hl, rfl, rfl⟩ := az_s1_spec hpu
    obtain ⟨y, rfl⟩ := az_isF_of hk
    exact lv_fstore hx hb hd hLR.2 (by rw [← hLR.1]; exact hl) rfl (fun ls' h' => kk ls' (hLR.set1 h' hnd))
  case fstore_n k =>
    obtain ⟨x, r, rfl, hk, hnd, hl, rfl, rfl⟩ := az_s1_spec hpu
    obtain ⟨y, rfl⟩ := az_isF_of hk
    exact lv_fstore_n hx hb hd rfl hLR.2 (by rw [← hLR.1]; exact hl) rfl (fun ls' h' => kk ls' (hLR.set1 h' hnd))
  case astore k =>
    obtain ⟨x, r, rfl, hk, hnd, hl, rfl, rfl⟩ := az_s1_spec hpu
    obtain ⟨y, hy, hn⟩ := az_isA_of (b0 := b0) (base := base) hk
    rw [List.map_cons, hy]
    exact lv_astore hx hb hd hLR.2 (by rw [← hLR.1]; exact hl) rfl (fun ls' h' => kk ls' (hLR.set1 (by rw [hy]; exact h') hnd))
  case astore_n k =>
    obtain ⟨x, r, rfl, hk, hnd, hl, rfl, rfl⟩ := az_s1_spec hpu
    obtain ⟨y, hy, hn⟩ := az_isA_of (b0 := b0) (base := base) hk
    rw [List.map_cons, hy]
    exact lv_astore_n hx hb hd rfl hLR.2 (by rw [← hLR.1]; exact hl) rfl (fun ls' h' => kk ls' (hLR.set1 (by rw [hy]; exact h') hnd))
  case dstore k =>
    obtain ⟨x, r, rfl, hnd, hl, rfl, rfl⟩ := az_s2_spec hpu
    exact lv_dstore hx hb hd hLR.2 (by rw [← hLR.1]; exact hl) rfl (fun ls' h' => kk ls' (hLR.set2 h' hnd))
  case dstore_n k =>
    obtain ⟨x, r, rfl, hnd, hl, rfl, rfl⟩ := az_s2_spec hpu
    exact lv_dstore_n hx hb hd rfl hLR.2 (by rw [← hLR.1]; exact hl) rfl (fun ls' h' => kk ls' (hLR.set2 h' hnd))
  case iinc k z =>
    obtain ⟨x, hx1, hnd, hl, rfl, rfl⟩ := az_inc_spec hpu
    have hz : Int32.ofInt z = v := of_decide_eq_true him
    obtain ⟨q, hq⟩ := List.getElem?_of_mem (az_en_mem (b0 := b0) (base := base) hx1 (fun h => by cases h))
    exact lv_iinc hx hb hd hLR.2 hq (by rw [hz]) (by rw [← hLR.1]; exact hl) rfl (fun ls' h' => kk ls' (hLR.set1 h' hnd))
  case iadd =>
    obtain ⟨x, y, r, rfl, rfl, rfl⟩ := az_i2_spec hpu
    exact lv_iadd hx hb hd (kk ls hLR)
  case isub =>
    obtain ⟨x, y, r, rfl, rfl, rfl⟩ := az_i2_spec hpu
    exact lv_isub hx hb hd (kk ls hLR)
  case imul =>
    obtain ⟨x, y, r, rfl, rfl, rfl⟩ := az_i2_spec hpu
    exact lv_imul hx hb hd (kk ls hLR)
  case iand =>
    obtain ⟨x, y, r, rfl, rfl, rfl⟩ := az_i2_spec hpu
    exact lv_iand hx hb hd (kk ls hLR)
  case ior =>
    obtain ⟨x, y, r, rfl, rfl, rfl⟩ := az_i2_spec hpu
    exact lv_ior hx hb hd (kk ls hLR)
  case ixor =>
    obtain ⟨x, y, r, rfl, rfl, rfl⟩ := az_i2_spec hpu
    exact lv_ixor hx hb hd (kk ls hLR)
  case ishl =>
    obtain ⟨x, y, r, rfl, rfl, rfl⟩ := az_i2_spec hpu
    exact lv_ishl hx hb hd (kk ls hLR)
  case ishr =>
    obtain ⟨x, y, r, rfl, rfl, rfl⟩ := az_i2_spec hpu
    exact lv_ishr hx hb hd (kk ls hLR)
  case iushr =>
    obtain ⟨x, y, r, rfl, rfl, rfl⟩ := az_i2_spec hpu
    exact lv_iushr hx hb hd rfl (kk ls hLR)
  case irem =>
    obtain ⟨x, y, r, rfl, h0, rfl, rfl⟩ := az_rem_spec hpu
    exact lv_irem hx hb hd h0 (kk ls hLR)
  case i2c =>
    obtain ⟨x, r, rfl, rfl, rfl⟩ := az_i1_spec hpu
    exact lv_i2c hx hb hd rfl (kk ls hLR)
  case i2d =>
    obtain ⟨x, r, rfl, rfl, rfl⟩ := az_i1_spec hpu
    exact lv_i2d hx hb hd (kk ls hLR)
  case f2i =>
    obtain ⟨x, r, rfl, rfl, rfl⟩ := az_f1_spec hpu
    exact lv_f2i hx hb hd (kk ls hLR)
  case d2f =>
    obtain ⟨x, r, rfl, h0, rfl, rfl⟩ := az_df_spec hpu
    exact lv_d2f hx hb hd h0 (kk ls hLR)
  case fsub =>
    obtain ⟨x, y, r, rfl, h0, rfl, rfl⟩ := az_f2_spec hpu
    exact lv_fsub hx hb hd h0 (kk ls hLR)
  case fmul =>
    obtain ⟨x, y, r, rfl, h0, rfl, rfl⟩ := az_f2_spec hpu
    exact lv_fmul hx hb hd h0 (kk ls hLR)
  case fdiv =>
    obtain ⟨x, y, r, rfl, h0, rfl, rfl⟩ := az_f2_spec hpu
    exact lv_fdiv hx hb hd h0 (kk ls hLR)
  case dsub =>
    obtain ⟨x, y, r, rfl, h0, rfl, rfl⟩ := az_d2_spec hpu
    exact lv_dsub hx hb hd h0 (kk ls hLR)
  case ddiv =>
    obtain ⟨x, y, r, rfl, h0, rfl, rfl⟩ := az_d2_spec hpu
    exact lv_ddiv hx hb hd h0 (kk ls hLR)
  case fcmp op =>
    obtain ⟨x, y, r, rfl, rfl, rfl⟩ := az_fc_spec hpu
    exact lv_fcmp hx hb hd (kk ls hLR)
  case dcmp op =>
    obtain ⟨x, y, r, rfl, rfl, rfl⟩ := az_dc_spec hpu
    exact lv_dcmp hx hb hd (kk ls hLR)
  case dup =>
    obtain ⟨x, r, rfl, h0, rfl, rfl⟩ := az_dup_spec hpu
    exact lv_dup hx hb hd (az_is1_cat h0) (kk ls hLR)
  case dup2 =>
    obtain ⟨x, y, r, rfl, h0, h1, rfl, rfl⟩ := az_dup2_spec hpu
    exact lv_dup2_11 hx hb hd (az_is1_cat h0) (az_is1_cat h1) (kk ls hLR)
theorem az_b1_spec {f : Int32 → Bool} {st r : List Value} {q : Bool} (h : az_b1 f st = some (q, r)) : ∃ x, st = .int x :: r ∧ q = f x := by
  unfold az_b1 at h
  split at h
  · cases h
    exact ⟨_, rfl, rfl⟩
  · cases h
theorem az_b2_spec {f : Int32 → Int32 → Bool} {st r : List Value} {q : Bool} (h : az_b2 f st = some (q, r)) : ∃ x y, st = .int y :: .int x :: r ∧ q = f x y := by
  unfold az_b2 at h
  split at h
  · cases h
    exact ⟨_, _, rfl, rfl⟩
  · cases h
/-- where a branch goes -/
def az_of (ins : Instr) : Int := match ins with
  | .goto z => z
  | .ifCond _ z => z
  | .if_icmp _ z => z
  | _ => 0
set_option maxHeartbeats 4000000 in
theorem az_br_ok {cc : ByteArray} {b0 base pc ln tgt : Nat} {ins : Instr} {ls : Array Slot} {st r : List Value} {q : Bool} (hx : p.tables.exec = Jvm.exec) (hb : c.code = cc) (hbr : az_br ins st = some (q, r)) (hd : decode cc pc = .ok (ins, ln)) (hln : ln = 3) (ht : (pc : Int) + az_of ins = (tgt : Int))
    (kt : q = true → W p l e R s m args below meth c H locs cells slots Q (F0 m tgt ls (r.map (az_tv b0 base)))) (kf : q = false → W p l e R s m args below meth c H locs cells slots Q (F0 m (pc + ln) ls (r.map (az_tv b0 base)))) : W p l e R s m args below meth c H locs cells slots Q (F0 m pc ls (st.map (az_tv b0 base))) := by
  subst hln
  cases ins <;> try exact nomatch (show (none : Option (Bool × List Value)) = some (q, r) from hbr)
  case goto z =>
    have hbr : some (true, st) = some (q, r) := hbr
    cases hbr
    exact lv_goto hx hb hd ht (kt rfl)
  case ifCond cd z =>
    cases cd

    case eq =>
      obtain ⟨x, rfl, rfl⟩ := az_b1_spec hbr
      exact lv_if_eq hx hb hd ht (fun h => kt (decide_eq_true h)) (fun h => kf (decide_eq_false h))
    case ne =>
      obtain ⟨x, rfl, rfl⟩ := az_b1_spec hbr
      exact lv_if_ne hx hb hd ht (fun h => kt (decide_eq_true h)) (fun h => kf (decide_eq_false (fun g => g h)))
    case lt =>
      obtain ⟨x, rfl, rfl⟩ := az_b1_spec hbr
      exact lv_if_lt hx hb hd ht (fun h => kt (decide_eq_true h)) (fun h => kf (decide_eq_false h))
    case ge =>
      obtain ⟨x, rfl, rfl⟩ := az_b1_spec hbr
      exact lv_if_ge hx hb hd ht (fun h => kt (decide_eq_true h)) (fun h => kf (decide_eq_false h))
    case gt =>
      obtain ⟨x, rfl, rfl⟩ := az_b1_spec hbr
      exact lv_if_gt hx hb hd ht (fun h => kt (decide_eq_true h)) (fun h => kf (decide_eq_false h))
    case le =>
      obtain ⟨x, rfl, rfl⟩ := az_b1_spec hbr
      exact lv_if_le hx hb hd ht (fun h => kt (decide_eq_true h)) (fun h => kf (decide_eq_false h))
  case if_icmp cd z =>
    cases cd
    case eq =>
      obtain ⟨x, y, rfl, rfl⟩ := az_b2_spec hbr
      exact lv_icmp_eq hx hb hd ht (fun h => kt (decide_eq_true h)) (fun h => kf (decide_eq_false h))
    case ne =>
      obtain ⟨x, y, rfl, rfl⟩ := az_b2_spec hbr
      exact lv_icmp_ne hx hb hd ht (fun h => kt (decide_eq_true h)) (fun h => kf (decide_eq_false (fun g => g h)))
    case lt =>
      obtain ⟨x, y, rfl, rfl⟩ := az_b2_spec hbr
      exact lv_icmp_lt hx hb hd ht (fun h => kt (decide_eq_true h)) (fun h => kf (decide_eq_false h))
    case ge =>
      obtain ⟨x, y, rfl, rfl⟩ := az_b2_spec hbr
      exact lv_icmp_ge hx hb hd ht (fun h => kt (decide_eq_true h)) (fun h => kf (decide_eq_false h))
    case gt =>
      obtain ⟨x, y, rfl, rfl⟩ := az_b2_spec hbr
      exact lv_icmp_gt hx hb hd ht (fun h => kt (decide_eq_true h)) (fun h => kf (decide_eq_false h))
    case le =>
      obtain ⟨x, y, rfl, rfl⟩ := az_b2_spec hbr
      exact lv_icmp_le hx hb hd ht (fun h => kt (decide_eq_true h)) (fun h => kf (decide_eq_false h))
end AZ1
