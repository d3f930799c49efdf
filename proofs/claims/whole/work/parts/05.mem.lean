/-! the classes of the worlds: their words, their fields' names and types -/
theorem az_pl {ws : List Jvm.Cond} (ps : List Nat) (hp : ws = ps.filterMap (fun i => lw_tbl[i]?)) : ∀ w ∈ ws, w ∈ lw_tbl := by
  intro w hw
  rw [hp] at hw
  obtain ⟨i, -, hi⟩ := List.mem_filterMap.mp hw
  exact List.mem_of_getElem? hi
theorem az_cls_ind {P : Nat → vw_C → Prop} (h0 : P 0 (RX0, TX0, 3)) (h1 : P 1 (RX1, TX1, 1)) (h2 : P 2 (RX2, TX2, 3)) (h3 : P 3 (RX3, TX3, 3)) (h4 : P 4 (RX4, TX4, 5)) (h5 : P 5 (RX5, TX5, 2)) (h6 : P 6 (RX6, TX6, 9)) (h7 : P 7 (RX7, TX7, 3)) (h8 : P 8 (RX8, TX8, 5)) (h9 : P 9 (RX9, TX9, 10)) : ∀ (t : Nat) (q : vw_C), vwCl[t]? = some q → P t q
  | 0, _, h => by cases h; exact h0
  | 1, _, h => by cases h; exact h1
  | 2, _, h => by cases h; exact h2
  | 3, _, h => by cases h; exact h3
  | 4, _, h => by cases h; exact h4
  | 5, _, h => by cases h; exact h5
  | 6, _, h => by cases h; exact h6
  | 7, _, h => by cases h; exact h7
  | 8, _, h => by cases h; exact h8
  | 9, _, h => by cases h; exact h9
  | t + 10, _, h => by simp [vwCl] at h
theorem az_uw0 : ∀ w ∈ u_ws RX0 TX0 3, w ∈ lw_tbl := fun w h => az_pl [84, 86, 88] (by decide +kernel) w h
theorem az_uw1 : ∀ w ∈ u_ws RX1 TX1 1, w ∈ lw_tbl := fun w h => az_pl [117] (by decide +kernel) w h
theorem az_uw2 : ∀ w ∈ u_ws RX2 TX2 3, w ∈ lw_tbl := fun w h => az_pl [102, 104, 106] (by decide +kernel) w h
theorem az_uw3 : ∀ w ∈ u_ws RX3 TX3 3, w ∈ lw_tbl := fun w h => az_pl [198, 200, 202] (by decide +kernel) w h
theorem az_uw4 : ∀ w ∈ u_ws RX4 TX4 5, w ∈ lw_tbl := fun w h => az_pl [216, 218, 220, 222, 224] (by decide +kernel) w h
theorem az_uw5 : ∀ w ∈ u_ws RX5 TX5 2, w ∈ lw_tbl := fun w h => az_pl [148, 150] (by decide +kernel) w h
theorem az_uw6 : ∀ w ∈ u_ws RX6 TX6 9, w ∈ lw_tbl := fun w h => az_pl [167, 169, 171, 173, 175, 177, 179, 181, 183] (by decide +kernel) w h
theorem az_uw7 : ∀ w ∈ u_ws RX7 TX7 3, w ∈ lw_tbl := fun w h => az_pl [130, 132, 134] (by decide +kernel) w h
theorem az_uw8 : ∀ w ∈ u_ws RX8 TX8 5, w ∈ lw_tbl := fun w h => az_pl [233, 235, 237, 239, 241] (by decide +kernel) w h
theorem az_uw9 : ∀ w ∈ u_ws RX9 TX9 10, w ∈ lw_tbl := fun w h => az_pl [761, 763, 765, 767, 769, 771, 773, 775, 777, 779] (by decide +kernel) w h
theorem az_uws : ∀ (t : Nat) (q : vw_C), vwCl[t]? = some q → ∀ w ∈ u_ws q.1 q.2.1 q.2.2, w ∈ lw_tbl := az_cls_ind (P := fun t q => ∀ w ∈ u_ws q.1 q.2.1 q.2.2, w ∈ lw_tbl) az_uw0 az_uw1 az_uw2 az_uw3 az_uw4 az_uw5 az_uw6 az_uw7 az_uw8 az_uw9
theorem az_nms : ∀ (t : Nat) (q : vw_C), vwCl[t]? = some q → ∀ a, a < q.2.2 → ∀ b, b < q.2.2 → a ≠ b → (q.2.1 a).2.1 ≠ (q.2.1 b).2.1 := az_cls_ind (P := fun t q => ∀ a, a < q.2.2 → ∀ b, b < q.2.2 → a ≠ b → (q.2.1 a).2.1 ≠ (q.2.1 b).2.1) nmX0 nmX1 nmX2 nmX3 nmX4 nmX5 nmX6 nmX7 nmX8 nmX9
theorem az_tys_ok : ∀ (t : Nat) (q : vw_C), vwCl[t]? = some q → ∀ k, k < q.2.2 → parseFieldDescriptor (q.2.1 k).2.2.1 = some (az_ty t k) := az_cls_ind (P := fun t q => ∀ k, k < q.2.2 → parseFieldDescriptor (q.2.1 k).2.2.1 = some (az_ty t k)) tyX0_ok tyX1_ok tyX2_ok tyX3_ok tyX4_ok tyX5_ok tyX6_ok tyX7_ok tyX8_ok tyX9_ok
theorem az_live {t : Nat} {q : vw_C} (h : vwCl[t]? = some q) : t ≠ 99 := by
  intro e
  subst e
  exact absurd h (by simp [vwCl])
/-- an array's contents, with the addresses as they are -/
def az_tA (base : Nat) : ((Nat → Int32) ⊕ (Nat → Int64) ⊕ (Nat → UInt32) ⊕ (Nat → UInt64) ⊕ (Nat → Option Nat)) → ((Nat → Int32) ⊕ (Nat → Int64) ⊕ (Nat → UInt32) ⊕ (Nat → UInt64) ⊕ (Nat → Option Nat))
  | .inr (.inr (.inr (.inr f))) => .inr (.inr (.inr (.inr (fun j => (f j).map (fun k => base + k)))))
  | A => A
def az_te (cy : Nat → ClassId) (b0 base : Nat) : va_E → va_E
  | .inl (k, n, A) => .inl (cy k, n, az_tA base A)
  | .inr (ci, fs) => .inr (ci, fs.map (az_tv b0 base))
/-- the heap holds the world, from base on, and nothing else there -/
def az_Rw (D : va_G) (cy : Nat → ClassId) (b0 base : Nat) (w : az_W) (sz : Nat) (H : Heap) : Prop :=
  H.size = base + sz ∧ ∀ k, ¬ w k = az_dead → k < sz ∧ va_at D vwCl (base + k, az_te cy b0 base (w k)) H
def az_tys (cy : Nat → ClassId) : List (ClassId × FieldType) := [(cy 0, .int), (cy 1, .char), (cy 2, .boolean), (cy 3, .object "SwappedTables$Generation"), (cy 4, .object "SwappedTables$State")]
theorem az_Rw.inr {D : va_G} {cy : Nat → ClassId} {b0 base sz a t : Nat} {w : az_W} {H : Heap} {fs : List Value} (h : az_Rw D cy b0 base w sz H) (hw : w a = .inr (t, fs)) (ht : t ≠ 99) : a < sz ∧ va_at D vwCl (base + a, .inr (t, fs.map (az_tv b0 base))) H := by
  have h1 := h.2 a (by rw [hw]; intro e; cases e; exact ht rfl)
  rw [hw] at h1
  exact h1
theorem az_Rw.inl {D : va_G} {cy : Nat → ClassId} {b0 base sz a : Nat} {w : az_W} {H : Heap} {k n : Nat} {A : (Nat → Int32) ⊕ (Nat → Int64) ⊕ (Nat → UInt32) ⊕ (Nat → UInt64) ⊕ (Nat → Option Nat)} (h : az_Rw D cy b0 base w sz H) (hw : w a = .inl (k, n, A)) : a < sz ∧ H[base + a]? = some (vp_cell (cy k) (n, az_tA base A)) := by
  have h1 := h.2 a (by rw [hw]; intro e; cases e)
  rw [hw] at h1
  exact h1
theorem az_Rw.put {D : va_G} {cy : Nat → ClassId} {b0 base sz a : Nat} {w : az_W} {H H1 : Heap} {e : va_E} (h : az_Rw D cy b0 base w sz H) (ha : a < sz) (hz : H1.size = H.size) (hq : ∀ q, q ≠ base + a → H1[q]? = H[q]?) (he : va_at D vwCl (base + a, az_te cy b0 base e) H1) : az_Rw D cy b0 base (va_up w a e) sz H1 := by
  refine ⟨hz.trans h.1, fun k hk => ?_⟩
  by_cases hka : k = a
  · subst hka
    have : va_up w k e k = e := by simp [va_up]
    rw [this] at hk ⊢
    exact ⟨ha, he⟩
  · have : va_up w a e k = w k := by simp [va_up, hka]
    rw [this] at hk ⊢
    obtain ⟨h1, h2⟩ := h.2 k hk
    exact ⟨h1, h2.kept (hq _ (by show base + k ≠ base + a; omega))⟩
theorem az_Rw.new {D : va_G} {cy : Nat → ClassId} {b0 base sz : Nat} {w : az_W} {H H1 : Heap} {e : va_E} (h : az_Rw D cy b0 base w sz H) (hz : H1.size = H.size + 1) (hq : ∀ q, q < H.size → H1[q]? = H[q]?) (he : va_at D vwCl (base + sz, az_te cy b0 base e) H1) : az_Rw D cy b0 base (va_up w sz e) (sz + 1) H1 := by
  refine ⟨by rw [hz, h.1]; omega, fun k hk => ?_⟩
  by_cases hka : k = sz
  · subst hka
    have : va_up w k e k = e := by simp [va_up]
    rw [this] at hk ⊢
    exact ⟨Nat.lt_succ_self _, he⟩
  · have : va_up w sz e k = w k := by simp [va_up, hka]
    rw [this] at hk ⊢
    obtain ⟨h1, h2⟩ := h.2 k hk
    exact ⟨Nat.lt_succ_of_lt h1, h2.kept (hq _ (by show base + k < H.size; rw [h.1]; omega))⟩
theorem az_fits {b0 base : Nat} {ty : FieldType} {x : Value} (h : az_fit ty x = true) : narrow ty (az_tv b0 base x) = az_tv b0 base x ∧ fits ty (az_tv b0 base x) = true := by
  simp only [az_fit, Bool.and_eq_true, decide_eq_true_eq] at h
  obtain ⟨h1, h2⟩ := h
  cases x with
  | ref a => cases ty <;> first | exact ⟨rfl, h1⟩ | exact ⟨rfl, rfl⟩
  | retAddr a => cases ty <;> exact absurd h1 (by simp [fits])
  | int a => exact ⟨h2, h1⟩
  | long a => exact ⟨h2, h1⟩
  | float a => exact ⟨h2, h1⟩
  | double a => exact ⟨h2, h1⟩
  | null => exact ⟨h2, h1⟩
/-- the words of a field's instruction -/
def az_fw (put : Bool) (own nm : String) (idx t u : Nat) (v : Int32) (js : List Nat) : Bool := match vwCl[t]?, js with
  | some q, [j] => decide (u < q.2.2) && (match lw_tbl[j]? with
    | some (.fieldLink o i r n d) => decide (v = 0 ∧ o = own ∧ i = idx ∧ r = (q.2.1 u).1 ∧ n = (q.2.1 u).2.1 ∧ d = (q.2.1 u).2.2.1) && (!put || !(q.2.1 u).2.2.2 || (decide (nm = "<init>") && decide ((q.2.1 u).1 = own)))
    | some (.fieldLinkNest o i r n d _) => decide (v = 1 ∧ o = own ∧ i = idx ∧ r = (q.2.1 u).1 ∧ n = (q.2.1 u).2.1 ∧ d = (q.2.1 u).2.2.1) && (!put || !(q.2.1 u).2.2.2)
    | _ => false)
  | _, _ => false
theorem az_fw_spec {put : Bool} {own nm : String} {idx t u : Nat} {v : Int32} {js : List Nat} (h : az_fw put own nm idx t u v js = true) : ∃ q, vwCl[t]? = some q ∧ u < q.2.2 ∧
    ((.fieldLink own idx (q.2.1 u).1 (q.2.1 u).2.1 (q.2.1 u).2.2.1 ∈ lw_tbl ∧ (put = true → (q.2.1 u).2.2.2 = true → nm = "<init>" ∧ (q.2.1 u).1 = own)) ∨
     (∃ host, .fieldLinkNest own idx (q.2.1 u).1 (q.2.1 u).2.1 (q.2.1 u).2.2.1 host ∈ lw_tbl ∧ (put = true → (q.2.1 u).2.2.2 = false))) := by
  unfold az_fw at h
  split at h
  · next q j hq =>
    simp only [Bool.and_eq_true, decide_eq_true_eq] at h
    obtain ⟨hu, h⟩ := h
    refine ⟨q, hq, hu, ?_⟩
    split at h
    · next o i r n d hj =>
      simp only [Bool.and_eq_true, decide_eq_true_eq, Bool.or_eq_true, Bool.not_eq_true'] at h
      obtain ⟨⟨-, rfl, rfl, rfl, rfl, rfl⟩, h2⟩ := h
      refine Or.inl ⟨List.mem_of_getElem? hj, fun hp hf => ?_⟩
      rcases h2 with (h2 | h2) | h2
      · rw [hp] at h2
        cases h2
      · rw [hf] at h2
        cases h2
      · exact h2
    · next o i r n d host hj =>
      simp only [Bool.and_eq_true, decide_eq_true_eq, Bool.or_eq_true, Bool.not_eq_true'] at h
      obtain ⟨⟨-, rfl, rfl, rfl, rfl, rfl⟩, h2⟩ := h
      refine Or.inr ⟨host, List.mem_of_getElem? hj, fun hp => ?_⟩
      rcases h2 with h2 | h2
      · rw [hp] at h2
        cases h2
      · exact h2
    · cases h
  · cases h
/-- switches: where the offsets go -/
def az_tg (l : List az_E) (pc : Nat) (off : Int) (k : Nat) : Bool := match l[k]? with
  | some e => decide ((pc : Int) + off = (e.1 : Int))
  | none => false
def az_tgs (l : List az_E) (pc : Nat) : List Int → List Nat → Bool
  | [], [] => true
  | o :: os, k :: ks => az_tg l pc o k && az_tgs l pc os ks
  | _, _ => false
theorem az_tgs_at {l : List az_E} {pc : Nat} : ∀ {os : List Int} {ks : List Nat} {j k : Nat}, az_tgs l pc os ks = true → ks[j]? = some k → ∃ o, os[j]? = some o ∧ az_tg l pc o k = true
  | [], [], j, k, _, h => by simp at h
  | [], _ :: _, _, _, h, _ => by cases h
  | _ :: _, [], _, _, h, _ => by cases h
  | o :: os, k0 :: ks, 0, k, h, hk => by
    simp only [az_tgs, Bool.and_eq_true] at h
    simp only [List.getElem?_cons_zero, Option.some.injEq] at hk
    subst hk
    exact ⟨o, by simp, h.1⟩
  | o :: os, k0 :: ks, j + 1, k, h, hk => by
    simp only [az_tgs, Bool.and_eq_true] at h
    simp only [List.getElem?_cons_succ] at hk
    obtain ⟨o', h1, h2⟩ := az_tgs_at h.2 hk
    exact ⟨o', by simpa using h1, h2⟩
theorem az_lk_at {l : List az_E} {pc t : Nat} {dflt : Int} (x : Int) (hd : az_tg l pc dflt t = true) : ∀ {ps : List (Int × Int)} {ks : List Nat}, az_tgs l pc (ps.map (fun p => p.2)) ks = true → az_tg l pc (Op.lookupswitch.offset ps dflt x) (az_lk ps ks x t) = true
  | [], [], _ => hd
  | [], _ :: _, h => by cases h
  | _ :: _, [], h => by cases h
  | p :: ps, k :: ks, h => by
    simp only [az_tgs, List.map_cons, Bool.and_eq_true] at h
    show az_tg l pc (if p.1 = x then p.2 else Op.lookupswitch.offset ps dflt x) (if x = p.1 then k else az_lk ps ks x t) = true
    by_cases hx : p.1 = x
    · rw [if_pos hx, if_pos hx.symm]
      exact h.1
    · rw [if_neg hx, if_neg (Ne.symm hx)]
      exact az_lk_at x hd h.2
def az_swc (l : List az_E) (pc : Nat) (ins : Instr) (t : Nat) (ts : List Nat) : Bool := match ins with
  | .tableswitch d _ _ offs => az_tg l pc d t && az_tgs l pc offs.toList ts
  | .lookupswitch d ps => az_tg l pc d t && az_tgs l pc (ps.toList.map (fun p => p.2)) ts && (ps.toList.zip (ps.toList.drop 1)).all (fun (a, next) => a.1 < next.1)
  | _ => true
theorem az_tg_spec {l : List az_E} {pc k : Nat} {off : Int} (h : az_tg l pc off k = true) : ∃ e, l[k]? = some e ∧ (pc : Int) + off = (e.1 : Int) := by
  unfold az_tg at h
  split at h
  · next e he => exact ⟨e, he, of_decide_eq_true h⟩
  · cases h
theorem az_ub {args : Array Value} {s : State} {t : Nat} {q : vw_C} (hts : az_T args s) (hq : vwCl[t]? = some q) : ∀ w ∈ u_ws q.1 q.2.1 q.2.2, w.before args s = true := by
  intro w hw
  refine hts w (az_uws t q hq w hw) ?_
  obtain ⟨k, -, rfl⟩ := List.mem_map.mp hw
  unfold u_lay
  split <;> rfl
section AZ2
variable {p : Program} {l : Launch} {e : Env} {R : Room} {s : State} {m : MethodId} {args : Array Value} {below : List Frame} {meth : Method} {c : Code} {H : Heap} {locs : List Loc} {cells slots : Nat} {Q : State → Prop}
variable {cc : ByteArray} {own : String} {D : va_G} {cy : Nat → ClassId} {b0 base sz pc ln t u : Nat} {v : Int32} {js : List Nat} {ls : Array Slot} {w : az_W}
theorem az_sw_ok {l0 : List az_E} {ins : Instr} {ts : List Nat} {st r : List Value} {k : Nat} (hx : p.tables.exec = Jvm.exec) (hb : c.code = cc) (hsw : az_sw ins t ts st = some (k, r)) (hd : decode cc pc = .ok (ins, ln)) (hst : az_swc l0 pc ins t ts = true)
    (kk : ∀ q : az_E, l0[k]? = some q → W p l e R s m args below meth c H locs cells slots Q (F0 m q.1 ls (r.map (az_tv b0 base)))) : W p l e R s m args below meth c H locs cells slots Q (F0 m pc ls (st.map (az_tv b0 base))) := by
  unfold az_sw at hsw
  split at hsw
  · next d lo hi offs x r0 =>
    simp only [az_swc, Bool.and_eq_true] at hst
    split at hsw
    · next ho =>
      cases hsw
      obtain ⟨e, h1, h2⟩ := az_tg_spec hst.1
      exact lv_tableOut hx hb hd ho h2 (kk e h1)
    · next ho =>
      split at hsw
      · next k0 hk0 =>
        cases hsw
        obtain ⟨o, h1, h2⟩ := az_tgs_at hst.2 hk0
        obtain ⟨e, h3, h4⟩ := az_tg_spec h2
        exact lv_tableIn hx hb hd (fun q => ho (Or.inl q)) (fun q => ho (Or.inr q)) (by rw [← Array.getElem?_toList]; exact h1) h4 (kk e h3)
      · cases hsw
  · next d ps x r0 =>
    simp only [az_swc, Bool.and_eq_true] at hst
    cases hsw
    obtain ⟨e, h3, h4⟩ := az_tg_spec (az_lk_at x.toInt hst.1.1 hst.1.2)
    exact lv_lookup hx hb hd hst.2 rfl h4 (kk e h3)
  · cases hsw
theorem az_get_ok {nm : String} {idx a : Nat} {fs : List Value} {x : Value} {r : List Value} (hx : p.tables.exec = Jvm.exec) (hb : c.code = cc) (hown : s.vm.findClass own = some m.cls) (hts : az_T args s) (hK : va_K D vwCl (az_tys cy) s) (hR : az_Rw D cy b0 base w sz H) (hw : w a = .inr (t, fs)) (hu : fs[u]? = some x) (hd : decode cc pc = .ok (.getfield idx, ln)) (hln : ln = 3) (hst : az_fw false own nm idx t u v js = true)
    (kk : W p l e R s m args below meth c H locs cells slots Q (F0 m (pc + ln) ls (az_tv b0 base x :: r))) : W p l e R s m args below meth c H locs cells slots Q (F0 m pc ls (.ref (base + a) :: r)) := by
  subst hln
  obtain ⟨q, hq, hu2, hl⟩ := az_fw_spec hst
  have hP : va_P D vwCl [(base + a, .inr (t, fs.map (az_tv b0 base)))] H := fun k z hz => by
    have hk : k < 1 := (List.getElem?_eq_some_iff.mp hz).1
    rw [show k = 0 by omega] at hz
    cases hz
    exact (hR.inr hw (az_live hq)).2
  have hv : (fs.map (az_tv b0 base))[u]? = some (az_tv b0 base x) := by rw [List.getElem?_map, hu]; rfl
  rcases hl with ⟨hl, -⟩ | ⟨host, hl, -⟩
  · exact va_get (C := q.1) (T := q.2.1) (N := q.2.2) hx hb (az_ub hts hq) (fun _ h => h) hown hK hP 0 rfl hq u hu2 (hts _ hl rfl) (fun _ h => h) hv hd kk
  · exact va_getN (C := q.1) (T := q.2.1) (N := q.2.2) hx hb (az_ub hts hq) (fun _ h => h) hown hK hP 0 rfl hq u hu2 (hts _ hl rfl) (fun _ h => h) hv hd kk
theorem az_put_ok {nm : String} {idx a : Nat} {fs : List Value} {x : Value} {r : List Value} (hx : p.tables.exec = Jvm.exec) (hb : c.code = cc) (hown : s.vm.findClass own = some m.cls) (hin : nm = "<init>" → meth.name = "<init>") (hts : az_T args s) (hK : va_K D vwCl (az_tys cy) s) (hR : az_Rw D cy b0 base w sz H) (hw : w a = .inr (t, fs)) (hu : u < fs.length) (hf : az_fit (az_ty t u) x = true) (hd : decode cc pc = .ok (.putfield idx, ln)) (hln : ln = 3) (hst : az_fw true own nm idx t u v js = true)
    (kk : ∀ (H1 : Heap) (k : Nat), az_Rw D cy b0 base (va_up w a (.inr (t, fs.set u x))) sz H1 → (∀ q, q ≠ base + a → H1[q]? = H[q]?) → W p l e R s m args below meth c H1 (locs ++ [⟨base + a, k⟩]) cells slots Q (F0 m (pc + ln) ls r)) : W p l e R s m args below meth c H locs cells slots Q (F0 m pc ls (az_tv b0 base x :: .ref (base + a) :: r)) := by
  subst hln
  obtain ⟨q, hq, hu2, hl⟩ := az_fw_spec hst
  obtain ⟨hsz, hat⟩ := hR.inr hw (az_live hq)
  obtain ⟨hn, hfit⟩ := az_fits (b0 := b0) (base := base) hf
  have hap := va_apart (own := own) (az_ub hts hq) (fun _ h => h) (az_ty t) (az_tys_ok t q hq) (az_nms t q hq) hK hq
  obtain ⟨r1, h1, cell, q1, q2, q3, q4⟩ := hat
  have hr : r1 = q := Option.some.inj (h1.symm.trans hq)
  subst hr
  obtain ⟨hS, hfc, kC, hkC, hkind⟩ := hK.1 t _ hq
  obtain ⟨cf, kf, fi, f, hi, hsl⟩ := hS u hu2
  have hdp := az_tys_ok t r1 hq u hu2
  have hfin : ∀ H' : Heap, H'[base + a]? = some (cell.setSlot f.slot (az_tv b0 base x)) → H'.size = H.size → (∀ z, z ≠ base + a → H'[z]? = H[z]?) → az_Rw D cy b0 base (va_up w a (.inr (t, fs.set u x))) sz H' := by
    intro H' e1 e2 e3
    refine hR.put hsz e2 e3 ?_
    rw [hsl] at e1
    refine ⟨r1, hq, t_OB.to (V := updV (vp_V (fs.map (az_tv b0 base))) u (az_tv b0 base x)) ⟨_, e1, q2, q3, t_set q4 hap hu2 (az_tv b0 base x)⟩ (fun j _ => ?_)⟩
    rw [vp_updV_set (by rw [List.length_map]; exact hu)]
    rw [List.map_set]
  have hst2 := (u_facts hfc hkC (u_lays (az_ub hts hq) (fun _ h => h) hu2) hi).1
  have hslot : f.slot < cell.slots.size := by rw [hsl]; exact k2_hasslot (q4 u hu2)
  rcases hl with ⟨hl, hfi⟩ | ⟨host, hl, hfi⟩
  · by_cases hff : (r1.2.1 u).2.2.2 = true
    · obtain ⟨hnm, hown2⟩ := hfi rfl hff
      have hlay := az_ub hts hq _ (u_in_lay hu2)
      unfold u_lay at hlay
      rw [if_pos hff] at hlay
      have hcf : m.cls = cf := by
        obtain ⟨_, _, c', _, _, _, -, -, hf', -, -, -, hown3, -⟩ := Cond.laysFinal_spec hlay
        have e1 : c' = cf := by have := hi.symm.trans hf'; simp at this; exact this.1.symm
        rw [hown2] at hown3
        rw [← e1]; exact Option.some.inj (hown.symm.trans hown3)
      have h6 := u_fits hfc hkC hkind (Or.inr hlay) hi hdp hn hfit
      exact W.putFinK hx hb hown (hts _ hl rfl) hi hst2 hcf (hin hnm) (by rw [q2]; exact h6) q1 q3 hslot rfl rfl hd (fun H' e1 e2 e3 => kk H' _ (hfin H' e1 e2 e3) e3)
    · have hlay := az_ub hts hq _ (u_in_lay hu2)
      unfold u_lay at hlay
      rw [if_neg hff] at hlay
      have h6 := u_store hfc hkC hkind hlay hi hdp hn hfit
      exact W.putK hx hb (f := f) ⟨hown, hts _ hl rfl, ⟨_, _, _, hi⟩, hst2⟩ (by rw [q2]; exact h6) q1 q3 hslot rfl rfl hd (fun H' e1 e2 e3 => kk H' _ (hfin H' e1 e2 e3) e3)
  · have hff := hfi rfl
    have hlay := az_ub hts hq _ (u_in_lay hu2)
    unfold u_lay at hlay
    rw [if_neg (by rw [hff]; decide)] at hlay
    have h6 := u_store hfc hkC hkind hlay hi hdp hn hfit
    exact va_WputK hx hb (f := f) hown (hts _ hl rfl) hi hst2 (by rw [q2]; exact h6) q1 q3 hslot rfl rfl hd (fun H' e1 e2 e3 => kk H' _ (hfin H' e1 e2 e3) e3)
theorem az_ald_ok {ins : Instr} {j : Int32} {a k n : Nat} {f : Nat → Int32} {r : List Value} (hx : p.tables.exec = Jvm.exec) (hb : c.code = cc) (hK : va_K D vwCl (az_tys cy) s) (hR : az_Rw D cy b0 base w sz H) (hal : az_al ins = some k) (hw : w a = .inl (k, n, .inl f)) (hj : vp_in j n) (hd : decode cc pc = .ok (ins, ln)) (hln : ln = 1)
    (kk : W p l e R s m args below meth c H locs cells slots Q (F0 m (pc + ln) ls (.int (f j.toNatClampNeg) :: r))) : W p l e R s m args below meth c H locs cells slots Q (F0 m pc ls (.int j :: .ref (base + a) :: r)) := by
  subst hln
  have hP : va_P D vwCl [(base + a, .inl (cy k, n, .inl f))] H := fun z q hz => by
    have hk : z < 1 := (List.getElem?_eq_some_iff.mp hz).1
    rw [show z = 0 by omega] at hz
    cases hz
    exact (hR.inl hw).2
  unfold az_al at hal
  split at hal
  · cases hal
    exact va_iald hx hb hK hP 0 0 rfl rfl hj hd kk
  · cases hal
    exact va_cald hx hb hK hP 0 1 rfl rfl hj hd kk
  · cases hal
    exact va_zald hx hb hK hP 0 2 rfl rfl hj hd kk
  · cases hal
theorem az_ast_ok {ins : Instr} {x j : Int32} {a k n : Nat} {f : Nat → Int32} {r : List Value} (hx : p.tables.exec = Jvm.exec) (hb : c.code = cc) (hK : va_K D vwCl (az_tys cy) s) (hR : az_Rw D cy b0 base w sz H) (has : az_as ins = some k) (hw : w a = .inl (k, n, .inl f)) (hj : vp_in j n) (hd : decode cc pc = .ok (ins, ln)) (hln : ln = 1)
    (kk : ∀ (H1 : Heap) (z : Nat), az_Rw D cy b0 base (va_up w a (.inl (k, n, .inl (upd f j.toNatClampNeg (az_nr k x))))) sz H1 → (∀ q, q ≠ base + a → H1[q]? = H[q]?) → W p l e R s m args below meth c H1 (locs ++ [⟨base + a, z⟩]) cells slots Q (F0 m (pc + ln) ls r)) : W p l e R s m args below meth c H locs cells slots Q (F0 m pc ls (.int x :: .int j :: .ref (base + a) :: r)) := by
  subst hln
  obtain ⟨hsz, hat⟩ := hR.inl hw
  have hcell : H[base + a]? = some (arrV (cy k) n (fun i => .int (f i))) := hat
  have hin : ¬ (j < 0 ∨ (arrV (cy k) n (fun i => Value.int (f i))).slots.size ≤ j.toNatClampNeg) := by rw [arrV_size]; exact hj
  have hfin : ∀ (y : Int32) (H' : Heap), H'[base + a]? = some ((arrV (cy k) n (fun i => .int (f i))).setSlot j.toNatClampNeg (.int y)) → H'.size = H.size → (∀ z, z ≠ base + a → H'[z]? = H[z]?) → az_Rw D cy b0 base (va_up w a (.inl (k, n, .inl (upd f j.toNatClampNeg y)))) sz H' := by
    intro y H' e1 e2 e3
    refine hR.put hsz e2 e3 ?_
    show H'[base + a]? = some (vp_cell (cy k) (n, .inl (upd f j.toNatClampNeg y)))
    rw [e1, vp_cell_i, arrV_store]
    congr 2
    funext q
    by_cases hq : q = j.toNatClampNeg
    · subst hq
      simp [updV, upd]
    · simp [updV, upd, hq]
  unfold az_as at has
  split at has
  · cases has
    exact W.iast hx hb hcell ((hK.2 0 _ rfl).1 n (fun i => .int (f i))) (fun q => by cases q) hin rfl rfl hd (fun H' e1 e2 e3 => kk H' _ (hfin _ H' e1 e2 e3) e3)
  · cases has
    exact W.cast hx hb hcell ((hK.2 1 _ rfl).1 n (fun i => .int (f i))) (fun q => by cases q) hin rfl rfl hd (fun H' e1 e2 e3 => kk H' _ (hfin _ H' e1 e2 e3) e3)
  · cases has
    exact W.zast hx hb hcell ((hK.2 2 _ rfl).1 n (fun i => .int (f i))) (fun q => by cases q) hin rfl rfl hd (fun H' e1 e2 e3 => kk H' _ (hfin _ H' e1 e2 e3) e3)
  · cases has
theorem az_aald_ok {j : Int32} {a k n y : Nat} {f : Nat → Option Nat} {r : List Value} (hx : p.tables.exec = Jvm.exec) (hb : c.code = cc) (hK : va_K D vwCl (az_tys cy) s) (hR : az_Rw D cy b0 base w sz H) (hw : w a = .inl (k, n, .inr (.inr (.inr (.inr f))))) (hk : k = 3 ∨ k = 4) (hj : vp_in j n) (hy : f j.toNatClampNeg = some y) (hd : decode cc pc = .ok (.aaload, ln)) (hln : ln = 1)
    (kk : W p l e R s m args below meth c H locs cells slots Q (F0 m (pc + ln) ls (.ref (base + y) :: r))) : W p l e R s m args below meth c H locs cells slots Q (F0 m pc ls (.int j :: .ref (base + a) :: r)) := by
  subst hln
  have hP : va_P D vwCl [(base + a, .inl (cy k, n, .inr (.inr (.inr (.inr (fun i => (f i).map (fun z => base + z)))))))] H := fun z q hz => by
    have hk : z < 1 := (List.getElem?_eq_some_iff.mp hz).1
    rw [show z = 0 by omega] at hz
    cases hz
    exact (hR.inl hw).2
  have e1 : va_rf ((f j.toNatClampNeg).map (fun z => base + z)) = .ref (base + y) := by rw [hy]; rfl
  rw [← e1] at kk
  rcases hk with rfl | rfl
  · exact va_aldq hx hb hK hP 0 3 rfl rfl hj hd kk
  · exact va_aldq hx hb hK hP 0 4 rfl rfl hj hd kk
theorem az_aast_ok {j : Int32} {a k n y ci : Nat} {fs : List Value} {f : Nat → Option Nat} {r : List Value} (hx : p.tables.exec = Jvm.exec) (hb : c.code = cc) (hK : va_K D vwCl (az_tys cy) s) (hR : az_Rw D cy b0 base w sz H) (hw : w a = .inl (k, n, .inr (.inr (.inr (.inr f))))) (hy : w y = .inr (ci, fs)) (hk : (k = 3 ∧ ci = 2) ∨ (k = 4 ∧ ci = 6)) (hj : vp_in j n) (hd : decode cc pc = .ok (.aastore, ln)) (hln : ln = 1)
    (kk : ∀ (H1 : Heap) (z : Nat), az_Rw D cy b0 base (va_up w a (.inl (k, n, .inr (.inr (.inr (.inr (va_up f j.toNatClampNeg (some y)))))))) sz H1 → (∀ q, q ≠ base + a → H1[q]? = H[q]?) → W p l e R s m args below meth c H1 (locs ++ [⟨base + a, z⟩]) cells slots Q (F0 m (pc + ln) ls r)) : W p l e R s m args below meth c H locs cells slots Q (F0 m pc ls (.ref (base + y) :: .int j :: .ref (base + a) :: r)) := by
  subst hln
  obtain ⟨hsz, hat⟩ := hR.inl hw
  have hcell : H[base + a]? = some (arrV (cy k) n (fun i => va_rf ((f i).map (fun z => base + z)))) := hat
  have hlt : j.toNatClampNeg < n := Nat.not_le.mp fun q => hj (Or.inr q)
  have h0 : ¬ j < 0 := fun q => hj (Or.inl q)
  have hfin : ∀ (H' : Heap), H'[base + a]? = some ((arrV (cy k) n (fun i => va_rf ((f i).map (fun z => base + z)))).setSlot j.toNatClampNeg (.ref (base + y))) → H'.size = H.size → (∀ z, z ≠ base + a → H'[z]? = H[z]?) → az_Rw D cy b0 base (va_up w a (.inl (k, n, .inr (.inr (.inr (.inr (va_up f j.toNatClampNeg (some y)))))))) sz H' := by
    intro H' e1 e2 e3
    refine hR.put hsz e2 e3 ?_
    show H'[base + a]? = some (vp_cell (cy k) (n, .inr (.inr (.inr (.inr (fun i => (va_up f j.toNatClampNeg (some y) i).map (fun z => base + z)))))))
    rw [e1, vp_cell_q, arrV_store]
    congr 2
    funext q
    by_cases hq : q = j.toNatClampNeg
    · subst hq
      simp [updV, va_up, va_rf]
    · simp [updV, va_up, hq]
  have hci : ∃ q0 : vw_C, vwCl[ci]? = some q0 ∧ (az_tys cy)[k]? = some (cy k, .object q0.1) := by
    rcases hk with ⟨rfl, rfl⟩ | ⟨rfl, rfl⟩
    · exact ⟨_, rfl, rfl⟩
    · exact ⟨_, rfl, rfl⟩
  obtain ⟨q0, hc, ht⟩ := hci
  obtain ⟨hsy, haty⟩ := hR.inr hy (az_live hc)
  obtain ⟨r', hr', cellV, g1, g2, g3, -⟩ := haty
  have hcls := (hK.1 ci q0 hc).2
  obtain ⟨kA, comp, k1, k2, k3, -⟩ := (hK.2 k _ ht).2
  have hcomp : comp = D.1 ci := Option.some.inj (k3.symm.trans hcls.1)
  subst hcomp
  obtain ⟨kC, hkC, -⟩ := hcls.2
  exact W.aast hx hb hcell (fun q h => by cases h) (fun h => by cases h) k1 k2 rfl hkC ⟨h0, by rw [arrV_size]; exact hlt⟩ g1 (fun q h => by rw [g3] at h; cases h) (by rw [g2]; exact hkC) (by rw [g2]; exact va_assign hcls) rfl rfl hd (fun H' e1 e2 e3 => kk H' _ (hfin H' e1 e2 e3) e3)
theorem az_alen_ok {a k n : Nat} {A : (Nat → Int32) ⊕ (Nat → Int64) ⊕ (Nat → UInt32) ⊕ (Nat → UInt64) ⊕ (Nat → Option Nat)} {r : List Value} (hx : p.tables.exec = Jvm.exec) (hb : c.code = cc) (hK : va_K D vwCl (az_tys cy) s) (hR : az_Rw D cy b0 base w sz H) (hw : w a = .inl (k, n, A)) (hk : k < 5) (hd : decode cc pc = .ok (.arraylength, ln)) (hln : ln = 1)
    (kk : W p l e R s m args below meth c H locs cells slots Q (F0 m (pc + ln) ls (.int (nI n) :: r))) : W p l e R s m args below meth c H locs cells slots Q (F0 m pc ls (.ref (base + a) :: r)) := by
  subst hln
  have hP : va_P D vwCl [(base + a, .inl (cy k, n, az_tA base A))] H := fun z q hz => by
    have hk : z < 1 := (List.getElem?_eq_some_iff.mp hz).1
    rw [show z = 0 by omega] at hz
    cases hz
    exact (hR.inl hw).2
  have ht : ∃ ty, (az_tys cy)[k]? = some (cy k, ty) := by
    rcases (show k = 0 ∨ k = 1 ∨ k = 2 ∨ k = 3 ∨ k = 4 by omega) with rfl | rfl | rfl | rfl | rfl <;> exact ⟨_, rfl⟩
  obtain ⟨ty, ht⟩ := ht
  exact va_alen hx hb hK hP 0 k rfl ht rfl hd kk
/-- the words of a making -/
def az_nw (own : String) (ins : Instr) (t u : Nat) (js : List Nat) : Bool := match ins with
  | .new idx => match vwCl[t]?, js with
    | some q, [j1, j2, j3] => decide (u = q.2.2) && decide (lw_tbl[j1]? = some (.classLink own idx q.1)) && decide (lw_tbl[j2]? = some (.instantiable q.1 q.2.2)) && decide (lw_tbl[j3]? = some (.initialized q.1))
    | _, _ => false
  | .newarray ty => match js with
    | [j] => decide (lw_tbl[j]? = some (.arrayClass (newarray.typeOf ty))) && ((decide (ty = .int) && decide (u = 0)) || (decide (ty = .char) && decide (u = 1)) || (decide (ty = .boolean) && decide (u = 2)))
    | _ => false
  | .anewarray idx => match js with
    | [j1, j2] => (decide (u = 3) && decide (lw_tbl[j1]? = some (.classLink own idx "SwappedTables$Generation")) && decide (lw_tbl[j2]? = some (.arrayOver (.object "SwappedTables$Generation")))) || (decide (u = 4) && decide (lw_tbl[j1]? = some (.classLink own idx "SwappedTables$State")) && decide (lw_tbl[j2]? = some (.arrayOver (.object "SwappedTables$State"))))
    | _ => false
  | _ => true
theorem az_new_ok {idx : Nat} {r : List Value} (hx : p.tables.exec = Jvm.exec) (hb : c.code = cc) (hown : s.vm.findClass own = some m.cls) (hts : az_T args s) (hK : va_K D vwCl (az_tys cy) s) (hR : az_Rw D cy b0 base w sz H) (hd : decode cc pc = .ok (.new idx, ln)) (hln : ln = 3) (hst : az_nw own (.new idx) t u js = true) (hcells : cells + 1 ≤ R.cells) (hslots : slots + u ≤ R.slots)
    (kk : ∀ H1 : Heap, az_Rw D cy b0 base (va_up w sz (.inr (t, az_dv t u))) (sz + 1) H1 → (∀ q, q < H.size → H1[q]? = H[q]?) → W p l e R s m args below meth c H1 locs (cells + 1) (slots + u) Q (F0 m (pc + ln) ls (.ref (base + sz) :: r))) : W p l e R s m args below meth c H locs cells slots Q (F0 m pc ls r) := by
  subst hln
  simp only [az_nw] at hst
  split at hst
  · next q j1 j2 j3 hq =>
    simp only [Bool.and_eq_true] at hst
    obtain ⟨⟨⟨hu, h1⟩, h2⟩, h3⟩ := hst
    have hu : u = q.2.2 := of_decide_eq_true hu
    subst hu
    have hKn := hK.1 t q hq
    refine W.newcK hx hb hown (az_wd hts rfl h1) (az_wd hts rfl h2) (az_wd hts rfl h3) rfl hd hcells hslots hKn.2.1 hR.1 (fun H1 kC hkC e1 z1 o1 => ?_)
    refine kk H1 (hR.new (by rw [z1, hR.1]) (by rw [hR.1]; exact o1) ?_) (by rw [hR.1]; exact o1)
    refine ⟨q, hq, (u_born (az_ty t) (az_ub hts hq) (fun _ h => h) hKn hkC e1 (az_tys_ok t q hq)).to (fun k hk => ?_)⟩
    simp only [vp_V, az_dv, List.map_map]
    rw [List.getD_eq_getElem?_getD, List.getElem?_map, List.getElem?_range hk]
    show defaultValue (az_ty t k) = az_tv b0 base (defaultValue (az_ty t k))
    cases az_ty t k <;> rfl
  · cases hst
theorem az_newa_ok {ty : ArrayType} {n : Int32} {r : List Value} (hx : p.tables.exec = Jvm.exec) (hb : c.code = cc) (hts : az_T args s) (hK : va_K D vwCl (az_tys cy) s) (hR : az_Rw D cy b0 base w sz H) (hn : vp_in n 1000) (hd : decode cc pc = .ok (.newarray ty, ln)) (hln : ln = 2) (hst : az_nw own (.newarray ty) t u js = true) (hcells : cells + 1 ≤ R.cells) (hslots : slots + n.toNatClampNeg ≤ R.slots)
    (kk : ∀ H1 : Heap, az_Rw D cy b0 base (va_up w sz (.inl (u, n.toNatClampNeg, .inl (fun _ => 0)))) (sz + 1) H1 → (∀ q, q < H.size → H1[q]? = H[q]?) → W p l e R s m args below meth c H1 locs (cells + 1) (slots + n.toNatClampNeg) Q (F0 m (pc + ln) ls (.ref (base + sz) :: r))) : W p l e R s m args below meth c H locs cells slots Q (F0 m pc ls (.int n :: r)) := by
  subst hln
  simp only [az_nw] at hst
  split at hst
  · next j =>
    simp only [Bool.and_eq_true, Bool.or_eq_true, decide_eq_true_eq] at hst
    obtain ⟨h1, h2⟩ := hst
    have hn0 : ¬ n < 0 := fun q => hn (Or.inl q)
    have hn1 : n.toNatClampNeg < 1000 := Nat.not_le.mp fun q => hn (Or.inr q)
    rcases h2 with (⟨rfl, rfl⟩ | ⟨rfl, rfl⟩) | ⟨rfl, rfl⟩
    · refine va_newaK (atype := .int) hx hb (hts _ (List.mem_of_getElem? h1) rfl) rfl hd rfl hn0 rfl (by show n.toNatClampNeg * 4 ≤ _; omega) hcells hslots hR.1 (fun H1 cA e1 z1 o1 hAr hNm => ?_)
      have hc : cA = cy 0 := Option.some.inj (hNm.symm.trans (hK.2 0 _ rfl).2)
      subst hc
      exact kk H1 (hR.new (by rw [z1, hR.1]) (by rw [hR.1]; exact o1) e1) (by rw [hR.1]; exact o1)
    · refine va_newaK (atype := .char) hx hb (hts _ (List.mem_of_getElem? h1) rfl) rfl hd rfl hn0 rfl (by show n.toNatClampNeg * 2 ≤ _; omega) hcells hslots hR.1 (fun H1 cA e1 z1 o1 hAr hNm => ?_)
      have hc : cA = cy 1 := Option.some.inj (hNm.symm.trans (hK.2 1 _ rfl).2)
      subst hc
      exact kk H1 (hR.new (by rw [z1, hR.1]) (by rw [hR.1]; exact o1) e1) (by rw [hR.1]; exact o1)
    · refine va_newaK (atype := .boolean) hx hb (hts _ (List.mem_of_getElem? h1) rfl) rfl hd rfl hn0 rfl (by show n.toNatClampNeg * 1 ≤ _; omega) hcells hslots hR.1 (fun H1 cA e1 z1 o1 hAr hNm => ?_)
      have hc : cA = cy 2 := Option.some.inj (hNm.symm.trans (hK.2 2 _ rfl).2)
      subst hc
      exact kk H1 (hR.new (by rw [z1, hR.1]) (by rw [hR.1]; exact o1) e1) (by rw [hR.1]; exact o1)
  · cases hst
theorem az_anew_ok {idx : Nat} {n : Int32} {r : List Value} (hx : p.tables.exec = Jvm.exec) (hb : c.code = cc) (hown : s.vm.findClass own = some m.cls) (hts : az_T args s) (hK : va_K D vwCl (az_tys cy) s) (hR : az_Rw D cy b0 base w sz H) (hn : vp_in n 1000) (hd : decode cc pc = .ok (.anewarray idx, ln)) (hln : ln = 3) (hst : az_nw own (.anewarray idx) t u js = true) (hcells : cells + 1 ≤ R.cells) (hslots : slots + n.toNatClampNeg ≤ R.slots)
    (kk : ∀ H1 : Heap, az_Rw D cy b0 base (va_up w sz (.inl (u, n.toNatClampNeg, .inr (.inr (.inr (.inr (fun _ => none))))))) (sz + 1) H1 → (∀ q, q < H.size → H1[q]? = H[q]?) → W p l e R s m args below meth c H1 locs (cells + 1) (slots + n.toNatClampNeg) Q (F0 m (pc + ln) ls (.ref (base + sz) :: r))) : W p l e R s m args below meth c H locs cells slots Q (F0 m pc ls (.int n :: r)) := by
  subst hln
  simp only [az_nw] at hst
  split at hst
  · next j1 j2 =>
    simp only [Bool.and_eq_true, Bool.or_eq_true, decide_eq_true_eq] at hst
    have hn0 : ¬ n < 0 := fun q => hn (Or.inl q)
    have hn1 : n.toNatClampNeg < 1000 := Nat.not_le.mp fun q => hn (Or.inr q)
    have key : ∀ (C : String) (k0 : Nat), u = k0 → (az_tys cy)[k0]? = some (cy k0, .object C) → lw_tbl[j1]? = some (.classLink own idx C) → lw_tbl[j2]? = some (.arrayOver (.object C)) → W p l e R s m args below meth c H locs cells slots Q (F0 m pc ls (.int n :: r)) := by
      intro C k0 hu ht h1 h2
      subst hu
      refine W.anew hx hb hown (hts _ (List.mem_of_getElem? h1) rfl) (hts _ (List.mem_of_getElem? h2) rfl) rfl hd rfl hn0 (by omega) hcells hslots (fun cA kA comp f1 f2 f3 f4 => ?_)
      generalize hH1 : H.push ({ cls := cA, slots := Array.replicate n.toNatClampNeg .null, vm := .none } : Cell) = H1
      have z1 : H1.size = H.size + 1 := by rw [← hH1, Array.size_push]
      have e1 : H1[H.size]? = some (arrV cA n.toNatClampNeg (fun _ => .null)) := by rw [← hH1, Array.getElem?_push_size, ← arrV_new]
      have o1 : ∀ q : Nat, q < H.size → H1[q]? = H[q]? := fun q hq => by rw [← hH1, Array.getElem?_push, if_neg (Nat.ne_of_lt hq)]
      obtain ⟨kA', comp', k1, k2, k3, k4⟩ := (hK.2 u _ ht).2
      have hc : cA = cy u := Option.some.inj (f1.symm.trans k4)
      subst hc
      rw [hR.1] at e1
      have hz : F0 m (pc + 3) ls (.ref (base + sz) :: r) = F0 m (pc + 3) ls (.ref H.size :: r) := by rw [hR.1]
      have hk2 := kk H1 (hR.new z1 o1 e1) o1
      rw [hz] at hk2
      exact hk2
    rcases hst with ⟨⟨hu, h1⟩, h2⟩ | ⟨⟨hu, h1⟩, h2⟩
    · exact key _ 3 hu rfl h1 h2
    · exact key _ 4 hu rfl h1 h2
  · cases hst
end AZ2
