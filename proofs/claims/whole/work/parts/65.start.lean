-- begun from the printed skeleton (a starting text); the proof of whole_start is mine
/-! THE CLAIM OUT OF ONE WALK OF THE LAW'S BODY. Your part is whole_start (and what it stands on); all else here is the same for every law, but numbers. -/
def R_law : String := "SwappedTablesLaw"
def lw_P (b : Addr) (xs : List Int32) (args : Array Value) (s : State) : Prop := args = #[.ref b] ∧ s.IntsAt b xs ∧ xs.length ≤ 1536 ∧ (Jvm.Cond.and given_1 narrow_1).before args s = true
/-- what a walk over the start with the record d0 says of its end, said of the start itself -/
theorem lw_closed {s t : State} {o : Outcome} {d0 : Drawn} {L : List Loc} {k n : Nat} (hd0 : s.drawn.sameBut d0 lw_cs) (hv : ∃ v, o = .returned v) (hW : (s.setDrawn d0).WarmedH t.vm) (hs : (s.setDrawn d0).sameButNew ({ t with vm := s.vm } : State) L k n) : State.butDraws s t lw_cs (fun t1 => Framed s o t1 L k n) := by
  have h2 : t.drawn = d0 := congrArg State.drawn hs.1
  refine ⟨⟨hv, hW, State.sameButNew.setDrawn hs s.drawn⟩, ?_, by decide⟩
  rw [h2]
  exact hd0
def lw_Q (_ : Array Value) (s : State) (o : Outcome) (t : State) : Prop := o = .returned (some (.int 1)) ∧ State.butDraws s t lw_cs (fun t1 => Framed s o t1 [] 600000 7302250)
def lw_Z (below : List Frame) (a : Array Value) (s : State) : State → Prop := fun t => ∃ o, t.status = .running ∧ Ended t below o ∧ lw_Q a s o t
/-- the law's own end, with 1 on the stack, nothing written that was there before, its room as the claim has it; d0: the record of draws at this point (at the entry s.drawn: begin with 'refine W.base ?_' and 'have hd0 := Drawn.sameBut.refl s.drawn lw_cs') -/
theorem lw_ret {p : Program} {l : Launch} {e : Env} {s : State} {m : MethodId} {below : List Frame} {meth : Method} {c : Code} {b : Nat} {d0 : Drawn} (hd0 : s.drawn.sameBut d0 lw_cs) (hx : p.tables.exec = Jvm.exec) (hb : c.code = code) (hr : meth.sig.returnType = ret) (hlocks : meth.locks = false) {pc : Nat} {H : Heap} {ls : Array Slot} (hdg : decode code pc = .ok (.ireturn, 1)) : W p l e room_1 (s.setDrawn d0) m #[Value.ref b] below meth c H [] 600000 7302250 (lw_Z below #[Value.ref b] s) (F0 m pc ls [.int 1]) := by
  intro T hT X
  obtain ⟨fs, hret, hrun, hended, hW, hframe⟩ := X.leave (v := some (.int 1)) (hlocks := hlocks) (fun h => by rw [hr] at h; cases h)
  have hmeth' : T.vm.method? m = some meth := X.method'
  refine ⟨T.setFrames fs, ?_, .returned (some (.int 1)), hrun, hended, rfl, lw_closed hd0 ⟨_, rfl⟩ hW hframe⟩
  jvm_step X.here [X.here.top, hx, hb, hdg, hmeth', hr, ret, narrow_b1]
  (try refine ⟨rfl, ?_⟩); (try refine ⟨rfl, ?_⟩)
  first | (intro acts; rw [hret _ acts rfl rfl rfl]) | rw [hret _ _ rfl rfl rfl]
  exact Steps.refl _
/-- what holds at the law's entry: the machine, the code, the tables' words (any of lw_tbl by 'hts w (by decide +kernel)'), the script of L ints xs at the cell b, what the Statement gives of the start (any of its parts by flat_of_before) -/
def lw_At (p : Program) (s : State) (m : MethodId) (meth : Method) (c : Code) (b L : Nat) (xs : Nat → Int32) : Prop :=
  p.tables.exec = Jvm.exec ∧ c.code = code ∧ meth.sig.returnType = ret ∧ c.maxLocals = 8 ∧ s.vm.findClass R_law = some m.cls ∧ (∀ w ∈ lw_tbl, w.before #[Value.ref b] s = true) ∧ va_X b L xs s s.heap ∧ b < s.heap.size ∧ meth.locks = false ∧ (Jvm.Cond.and given_1 narrow_1).before #[Value.ref b] s = true
/-- from the abstract machine's run of the law to the law's walk -/
theorem az_inst : ∀ (t : Nat) (q : vw_C), vwCl[t]? = some q → Jvm.Cond.instantiable q.1 q.2.2 ∈ lw_tbl := az_cls_ind (P := fun _ q => Jvm.Cond.instantiable q.1 q.2.2 ∈ lw_tbl) (List.mem_of_getElem? (i := 70) (by decide +kernel)) (List.mem_of_getElem? (i := 110) (by decide +kernel)) (List.mem_of_getElem? (i := 93) (by decide +kernel)) (List.mem_of_getElem? (i := 187) (by decide +kernel)) (List.mem_of_getElem? (i := 206) (by decide +kernel)) (List.mem_of_getElem? (i := 138) (by decide +kernel)) (List.mem_of_getElem? (i := 64) (by decide +kernel)) (List.mem_of_getElem? (i := 121) (by decide +kernel)) (List.mem_of_getElem? (i := 56) (by decide +kernel)) (List.mem_of_getElem? (i := 746) (by decide +kernel))
theorem az_arr {args : Array Value} {s : State} {ty : FieldType} (h : (Cond.arrayClass ty).before args s = true) : ∃ cA, ArrOfT s cA ty ∧ s.vm.findClass ("[" ++ ty.toString) = some cA := by
  obtain ⟨cA, kA, comp, h1, h2, h3⟩ := Cond.arrayClass_spec h
  exact ⟨cA, fun n z => ⟨fun k h => (by cases h), kA, h2, comp, h3⟩, h1⟩
theorem az_arq {args : Array Value} {s : State} {C : String} (h : (Cond.arrayOver (.object C)).before args s = true) : ∃ cA, ArrOfT s cA (.object C) ∧ va_RA s cA (.object C) := by
  obtain ⟨comp, cA, kA, h1, -, h2, h3, h4⟩ := Cond.arrayOver_spec h
  exact ⟨cA, fun n z => ⟨fun k h => (by cases h), kA, h2, comp, h3⟩, kA, comp, h2, h3, h1, h4⟩
theorem az_K0 {args : Array Value} {s : State} (hts : ∀ w ∈ lw_tbl, w.before args s = true) : ∃ (D : va_G) (cy : Nat → ClassId), va_K D vwCl (az_tys cy) s := by
  have hk : ∀ t : Nat, ∃ (c : ClassId) (i : Nat → Nat), ∀ q : vw_C, vwCl[t]? = some q → u_Kn s q.1 q.2.1 q.2.2 c i := fun t => by
    cases hq : vwCl[t]? with
    | none => exact ⟨0, fun _ => 0, fun q h => by cases h⟩
    | some q =>
      obtain ⟨c, i, h⟩ := u_known hts (az_uws t q hq) (hts _ (az_inst t q hq))
      exact ⟨c, i, fun q2 h2 => by cases h2; exact h⟩
  obtain ⟨c0, a0, b0⟩ := az_arr (ty := .int) (hts _ (List.mem_of_getElem? (i := 91) (by decide +kernel)))
  obtain ⟨c1, a1, b1⟩ := az_arr (ty := .char) (hts _ (List.mem_of_getElem? (i := 227) (by decide +kernel)))
  obtain ⟨c2, a2, b2⟩ := az_arr (ty := .boolean) (hts _ (List.mem_of_getElem? (i := 153) (by decide +kernel)))
  obtain ⟨c3, a3, b3⟩ := az_arq (C := "SwappedTables$Generation") (hts _ (List.mem_of_getElem? (i := 144) (by decide +kernel)))
  obtain ⟨c4, a4, b4⟩ := az_arq (C := "SwappedTables$State") (hts _ (List.mem_of_getElem? (i := 193) (by decide +kernel)))
  refine ⟨(fun t => Classical.choose (hk t), fun t => Classical.choose (Classical.choose_spec (hk t))), fun k => if k = 0 then c0 else if k = 1 then c1 else if k = 2 then c2 else if k = 3 then c3 else c4, fun t q hq => Classical.choose_spec (Classical.choose_spec (hk t)) q hq, fun k q hq => ?_⟩
  match k, hq with
  | 0, hq => cases hq; exact ⟨a0, b0⟩
  | 1, hq => cases hq; exact ⟨a1, b1⟩
  | 2, hq => cases hq; exact ⟨a2, b2⟩
  | 3, hq => cases hq; exact ⟨a3, b3⟩
  | 4, hq => cases hq; exact ⟨a4, b4⟩
  | k + 5, hq => simp [az_tys] at hq
set_option maxHeartbeats 2000000 in
/-- YOUR PART: from the entry, for every script of at most 1536 ints, the law comes to its end with true ('hflags': the launch's flags, for a law that throws: no stack traces) -/
theorem whole_start {p : Program} {e : Env} {s : State} {m : MethodId} {below : List Frame} {meth : Method} {c : Code} (l : Launch) (hflags : l.flags = flags0) {b L : Nat} {xs : Nat → Int32} (hL : L ≤ 1536) (C0 : lw_At p s m meth c b L xs) : W p l e room_1 s m #[Value.ref b] below meth c s.heap [] 0 0 (lw_Z below #[Value.ref b] s) (entryFrame m ([Value.ref b] : List Value).toArray 8) := by
  obtain ⟨hx, hb, hr, hml, hown, hts, hX, hbl, hlocks, hgv⟩ := id C0
  obtain ⟨D, cy, hK⟩ := az_K0 hts
  obtain ⟨w', h0, hh0, hev⟩ := law_all (X := (L, xs)) (w := fun _ => az_dead) (sl := 0) hL
  rw [hd0] at hh0
  cases hh0
  have hsim : az_Sim l (L, xs) 0 0 (az_L0 [.retAddr 0] 8) [] (fun _ => az_dead) 0 0 (some (.int 1), w', 157, 0 + 2227) := hev (az_Sim l (L, xs)) (az_sound az_ok l (L, xs))
  have hl := lv_entry ([.ref b]) (n := 8) (Nat.le_of_ble_eq_true rfl)
  rw [lg_entry_eq]
  generalize (lg_sl ([.ref b]) ++ List.replicate (8 - (lg_sl ([.ref b])).length) Slot.unset).toArray = ls at hl ⊢
  have hl : lv_has ls 8 [(0, .ref b)] := hl
  have hLR : az_LR b s.heap.size ls 8 (az_L0 [.retAddr 0] 8) := by
    refine ⟨rfl, hl.1, hl.2.1, fun q hq => hl.2.2 q ?_⟩
    obtain ⟨x, hx2, hnn, he⟩ := az_en_inv hq
    obtain ⟨q1, q2⟩ := q
    have hx3 : (az_L0 [.retAddr 0] 8)[q1]? = some x := hx2
    have he2 : q2 = az_tv b s.heap.size x := he
    unfold az_L0 at hx3
    match q1, hx3 with
    | 0, hx3 =>
      cases hx3
      rw [he2]
      exact List.mem_cons_self
    | q1 + 1, hx3 =>
      have hx4 : (List.replicate 7 Value.null)[q1]? = some x := hx3
      rw [List.getElem?_replicate] at hx4
      split at hx4
      · cases hx4
        exact absurd rfl hnn
      · cases hx4
  have hC : az_C p s m #[Value.ref b] meth c (RL, yL_law, cL_law, 8, some .boolean, 8, 177) := ⟨hx, hb, hml, hr, hown, fun w hw _ => hts w hw, hlocks, fun h => absurd h (by decide)⟩
  refine hsim.2.2 _ _ hd0 k0_0 p e room_1 s m _ below meth c D cy b s.heap.size _ hC hK (Nat.le_of_ble_eq_true rfl) (Nat.le_of_ble_eq_true rfl) s.heap [] 0 0 ls ⟨rfl, fun k hk => absurd rfl hk⟩ hLR (fun q hq => by cases hq) (fun _ => ⟨hX, hbl⟩) (Nat.le_of_ble_eq_true rfl) (Nat.le_of_ble_eq_true rfl) (fun H' locs' ls' st' pc' ins' _ _ hlo hrt hdg => ?_)
  refine W.widen (k := 600000) (n := 7302250) (Nat.le_of_ble_eq_true rfl) (Nat.le_of_ble_eq_true rfl) ?_
  refine va_forget hlo ?_
  have hrt2 : az_rt (some .boolean) ins' st' = some (some (.int 1)) := hrt
  unfold az_rt at hrt2
  split at hrt2
  · next v hre => cases hre
  · next v hre =>
    split at hrt2
    · cases hrt2
      exact W.base (lw_ret (Drawn.sameBut.refl s.drawn lw_cs) hx hb hr hlocks hdg)
    · cases hrt2
  · next nm a hre => cases hre
  · next x hre => cases hre
  · next hre => cases hre
  · cases hrt2
