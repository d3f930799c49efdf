/-! THE ABSTRACT MACHINE: a step over worlds that are functions from numbers to cells; 'az_Ev' is the least predicate that is closed under its steps -/
abbrev az_W : Type := Nat → va_E
abbrev az_R : Type := Option Value × az_W × Nat × Nat
abbrev az_X : Type := Nat × (Nat → Int32)
def az_dead : va_E := .inr (99, [])
def az_isI : Value → Bool
  | .int _ => true
  | _ => false
def az_isF : Value → Bool
  | .float _ => true
  | _ => false
def az_isA : Value → Bool
  | .ref _ => true
  | .retAddr _ => true
  | _ => false
def az_is1 : Value → Bool
  | .int _ => true
  | .ref _ => true
  | .retAddr _ => true
  | _ => false
def az_nd (i : Nat) (L : List Value) : Bool := match i with
  | 0 => true
  | j + 1 => match L[j]? with
    | some (.double _) => false
    | some (.long _) => false
    | _ => true
def az_ld (ok : Value → Bool) (i : Nat) (L st : List Value) : Option (List Value × List Value) := match L[i]? with
  | some v => if ok v = true then some (L, v :: st) else none
  | none => none
def az_ldD (i : Nat) (L st : List Value) : Option (List Value × List Value) := match L[i]? with
  | some (.double x) => some (L, .double x :: st)
  | _ => none
def az_s1 (ok : Value → Bool) (i : Nat) (L st : List Value) : Option (List Value × List Value) := match st with
  | v :: r => if ok v = true ∧ az_nd i L = true ∧ i < L.length then some (L.set i v, r) else none
  | [] => none
def az_s2 (i : Nat) (L st : List Value) : Option (List Value × List Value) := match st with
  | .double x :: r => if az_nd i L = true ∧ i + 1 < L.length then some ((L.set i (.double x)).set (i + 1) .null, r) else none
  | _ => none
def az_inc (i : Nat) (v : Int32) (L st : List Value) : Option (List Value × List Value) := match L[i]? with
  | some (.int x) => if az_nd i L = true ∧ i < L.length then some (L.set i (.int (x + v)), st) else none
  | _ => none
def az_i2 (f : Int32 → Int32 → Int32) (L st : List Value) : Option (List Value × List Value) := match st with
  | .int y :: .int x :: r => some (L, .int (f x y) :: r)
  | _ => none
def az_rem (L st : List Value) : Option (List Value × List Value) := match st with
  | .int y :: .int x :: r => if y = 0 then none else some (L, .int (x - x / y * y) :: r)
  | _ => none
def az_i1 (f : Int32 → Value) (L st : List Value) : Option (List Value × List Value) := match st with
  | .int x :: r => some (L, f x :: r)
  | _ => none
def az_f1 (f : UInt32 → Value) (L st : List Value) : Option (List Value × List Value) := match st with
  | .float x :: r => some (L, f x :: r)
  | _ => none
def az_f2 (f : UInt32 → UInt32 → UInt32) (L st : List Value) : Option (List Value × List Value) := match st with
  | .float y :: .float x :: r => if f x y &&& 0x7fffffff ≤ 0x7f800000 then some (L, .float (f x y) :: r) else none
  | _ => none
def az_fc (f : UInt32 → UInt32 → Int32) (L st : List Value) : Option (List Value × List Value) := match st with
  | .float y :: .float x :: r => some (L, .int (f x y) :: r)
  | _ => none
def az_d2 (f : UInt64 → UInt64 → UInt64) (L st : List Value) : Option (List Value × List Value) := match st with
  | .double y :: .double x :: r => if f x y &&& 0x7fffffffffffffff ≤ 0x7ff0000000000000 then some (L, .double (f x y) :: r) else none
  | _ => none
def az_dc (f : UInt64 → UInt64 → Int32) (L st : List Value) : Option (List Value × List Value) := match st with
  | .double y :: .double x :: r => some (L, .int (f x y) :: r)
  | _ => none
def az_df (L st : List Value) : Option (List Value × List Value) := match st with
  | .double x :: r => if FP.d2f x &&& 0x7fffffff ≤ 0x7f800000 then some (L, .float (FP.d2f x) :: r) else none
  | _ => none
def az_dup (L st : List Value) : Option (List Value × List Value) := match st with
  | v :: r => if az_is1 v = true then some (L, v :: v :: r) else none
  | _ => none
def az_dup2 (L st : List Value) : Option (List Value × List Value) := match st with
  | a :: b :: r => if az_is1 a = true ∧ az_is1 b = true then some (L, a :: b :: a :: b :: r) else none
  | _ => none
/-- the steps that touch locals and stack alone -/
def az_pu (ins : Instr) (t u : Nat) (v : Int32) (L st : List Value) : Option (List Value × List Value) := match ins with
  | .iconst _ => some (L, .int v :: st)
  | .bipush _ => some (L, .int v :: st)
  | .sipush _ => some (L, .int v :: st)
  | .ldc _ => if u = 0 then some (L, .int v :: st) else if u = 1 then some (L, .float (UInt32.ofNat t) :: st) else none
  | .ldc_w _ => if u = 0 then some (L, .int v :: st) else if u = 1 then some (L, .float (UInt32.ofNat t) :: st) else none
  | .ldc2_w _ => if u = 2 then some (L, .double (UInt64.ofNat t) :: st) else none
  | .fconst k => some (L, .float (if k = 0 then 0 else if k = 1 then 0x3f800000 else 0x40000000) :: st)
  | .iload_n k => az_ld az_isI k L st
  | .iload k => az_ld az_isI k L st
  | .aload_n k => az_ld az_isA k L st
  | .aload k => az_ld az_isA k L st
  | .fload_n k => az_ld az_isF k L st
  | .fload k => az_ld az_isF k L st
  | .dload_n k => az_ldD k L st
  | .dload k => az_ldD k L st
  | .istore_n k => az_s1 az_isI k L st
  | .istore k => az_s1 az_isI k L st
  | .astore_n k => az_s1 az_isA k L st
  | .astore k => az_s1 az_isA k L st
  | .fstore_n k => az_s1 az_isF k L st
  | .fstore k => az_s1 az_isF k L st
  | .dstore_n k => az_s2 k L st
  | .dstore k => az_s2 k L st
  | .iinc k _ => az_inc k v L st
  | .iadd => az_i2 (fun x y => x + y) L st
  | .isub => az_i2 (fun x y => x - y) L st
  | .imul => az_i2 (fun x y => x * y) L st
  | .iand => az_i2 (fun x y => x &&& y) L st
  | .ior => az_i2 (fun x y => x ||| y) L st
  | .ixor => az_i2 (fun x y => x ^^^ y) L st
  | .ishl => az_i2 (fun x y => x <<< (y &&& 31)) L st
  | .ishr => az_i2 (fun x y => x >>> (y &&& 31)) L st
  | .iushr => az_i2 (fun x y => (x.toUInt32 >>> (y.toUInt32 &&& Int32.toUInt32 31)).toInt32) L st
  | .irem => az_rem L st
  | .i2c => az_i1 (fun x => .int (x.toUInt32 % 65536).toInt32) L st
  | .i2d => az_i1 (fun x => .double (FP.i2d x)) L st
  | .f2i => az_f1 (fun x => .int (FP.f2i x)) L st
  | .d2f => az_df L st
  | .fadd => none
  | .fsub => az_f2 (fun x y => FP.fsub x y) L st
  | .fmul => az_f2 (fun x y => FP.fmul x y) L st
  | .fdiv => az_f2 (fun x y => FP.fdiv x y) L st
  | .dsub => az_d2 (fun x y => FP.dsub x y) L st
  | .ddiv => az_d2 (fun x y => FP.ddiv x y) L st
  | .fcmp op => az_fc (fun x y => Op.cmpValue (FP.fcmp x y) op) L st
  | .dcmp op => az_dc (fun x y => Op.cmpValue (FP.dcmp x y) op) L st
  | .dup => az_dup L st
  | .dup2 => az_dup2 L st
  | _ => none
def az_b1 (f : Int32 → Bool) (st : List Value) : Option (Bool × List Value) := match st with
  | .int x :: r => some (f x, r)
  | _ => none
def az_b2 (f : Int32 → Int32 → Bool) (st : List Value) : Option (Bool × List Value) := match st with
  | .int y :: .int x :: r => some (f x y, r)
  | _ => none
/-- the steps that branch in two -/
def az_br (ins : Instr) (st : List Value) : Option (Bool × List Value) := match ins with
  | .goto _ => some (true, st)
  | .ifCond .eq _ => az_b1 (fun x => decide (x = 0)) st
  | .ifCond .ne _ => az_b1 (fun x => decide (¬ x = 0)) st
  | .ifCond .lt _ => az_b1 (fun x => decide (x < 0)) st
  | .ifCond .ge _ => az_b1 (fun x => decide (0 ≤ x)) st
  | .ifCond .gt _ => az_b1 (fun x => decide (0 < x)) st
  | .ifCond .le _ => az_b1 (fun x => decide (x ≤ 0)) st
  | .if_icmp .eq _ => az_b2 (fun x y => decide (x = y)) st
  | .if_icmp .ne _ => az_b2 (fun x y => decide (¬ x = y)) st
  | .if_icmp .lt _ => az_b2 (fun x y => decide (x < y)) st
  | .if_icmp .ge _ => az_b2 (fun x y => decide (y ≤ x)) st
  | .if_icmp .gt _ => az_b2 (fun x y => decide (y < x)) st
  | .if_icmp .le _ => az_b2 (fun x y => decide (x ≤ y)) st
  | _ => none
def az_lk : List (Int × Int) → List Nat → Int → Nat → Nat
  | p :: ps, k :: ks, x, t => if x = p.1 then k else az_lk ps ks x t
  | _, _, _, t => t
/-- the steps that branch by a table -/
def az_sw (ins : Instr) (t : Nat) (ts : List Nat) (st : List Value) : Option (Nat × List Value) := match ins, st with
  | .tableswitch _ lo hi _, .int x :: r => if x.toInt < lo ∨ hi < x.toInt then some (t, r) else match ts[(x.toInt - lo).toNat]? with
    | some k => some (k, r)
    | none => none
  | .lookupswitch _ ps, .int x :: r => some (az_lk ps.toList ts x.toInt t, r)
  | _, _ => none
def az_al (ins : Instr) : Option Nat := match ins with
  | .iaload => some 0
  | .caload => some 1
  | .baload => some 2
  | _ => none
def az_as (ins : Instr) : Option Nat := match ins with
  | .iastore => some 0
  | .castore => some 1
  | .bastore => some 2
  | _ => none
def az_nr (k : Nat) (x : Int32) : Int32 := if k = 0 then x else if k = 1 then vp_nar .char x else vp_nar .boolean x
/-- the end of a method: what its return answers -/
def az_rt (ret : Option FieldType) (ins : Instr) (st : List Value) : Option (Option Value) := match ins, ret, st with
  | .ireturn, some .int, [.int v] => some (some (.int v))
  | .ireturn, some .boolean, [.int v] => if v = 0 ∨ v = 1 then some (some (.int v)) else none
  | .areturn, some (.object _), [.ref a] => some (some (.ref a))
  | .dreturn, some .double, [.double x] => some (some (.double x))
  | .return_, none, [] => some none
  | _, _, _ => none
def az_tyl : List (Nat → FieldType) := [tyX0, tyX1, tyX2, tyX3, tyX4, tyX5, tyX6, tyX7, tyX8, tyX9]
def az_ty (ci k : Nat) : FieldType := match az_tyl[ci]? with
  | some f => f k
  | none => .int
/-- what a new object's fields hold -/
def az_dv (ci n : Nat) : List Value := (List.range n).map (fun k => defaultValue (az_ty ci k))
def az_fit (ty : FieldType) (x : Value) : Bool := fits ty x && decide (narrow ty x = x)
def az_c8 (rest : List Value) : Bool := decide ((rest.map fun v => v.category).sum ≤ 8)
/-- an argument of a call: of one word -/
def az_a1 : Value → Bool
  | .int _ => true
  | .float _ => true
  | .ref _ => true
  | _ => false
def az_L0 (As : List Value) (n : Nat) : List Value := As ++ List.replicate (n - As.length) .null
def az_cl (ci : Nat) (h : az_H) : Bool := match vwCl[ci]? with
  | some q => decide (q.1 = h.2.1.cls)
  | none => false
abbrev az_Q : Type := Nat → Nat → List Value → List Value → az_W → Nat → Nat → az_R → Prop
/-- a call: what is popped, whom it calls -/
def az_ca (ins : Instr) (v : Int32) (h : az_H) (w : az_W) (st : List Value) (u : Nat) (args rest : List Value) : Prop :=
  (∃ (idx : Nat) (As : List Value) (b ci : Nat) (fs : List Value), ins = .invokevirtual idx ∧ As.length = u ∧ st = As.reverse ++ .ref b :: rest ∧ w b = .inr (ci, fs) ∧ az_cl ci h = true ∧ args = .ref b :: As) ∨
  (∃ (idx : Nat) (As : List Value) (b : Nat), ins = .invokespecial idx ∧ As.length = u ∧ st = As.reverse ++ .ref b :: rest ∧ args = .ref b :: As) ∨
  (∃ (idx : Nat), ins = .invokestatic idx ∧ args.length = u ∧ st = args.reverse ++ rest)
def az_st (X : az_X) (P : az_Q) (M i : Nat) (L st : List Value) (w : az_W) (sz sl : Nat) (res : az_R) : Prop :=
  ∃ (pc : Nat) (ins : Instr) (ln t u : Nat) (v : Int32) (ts js : List Nat), az_cd M i = some (pc, ins, ln, t, u, v, ts, js) ∧
  ((∃ L' st', az_pu ins t u v L st = some (L', st') ∧ P M (i + 1) L' st' w sz sl res)
  ∨ (∃ q r, az_br ins st = some (q, r) ∧ (q = true → P M t L r w sz sl res) ∧ (q = false → P M (i + 1) L r w sz sl res))
  ∨ (∃ k r, az_sw ins t ts st = some (k, r) ∧ P M k L r w sz sl res)
  ∨ (∃ idx a r fs x, ins = .getfield idx ∧ st = .ref a :: r ∧ w a = .inr (t, fs) ∧ fs[u]? = some x ∧ P M (i + 1) L (x :: r) w sz sl res)
  ∨ (∃ idx a r fs x, ins = .putfield idx ∧ st = x :: .ref a :: r ∧ w a = .inr (t, fs) ∧ u < fs.length ∧ az_fit (az_ty t u) x = true ∧ P M (i + 1) L r (va_up w a (.inr (t, fs.set u x))) sz sl res)
  ∨ (∃ j q r, ins = .iaload ∧ st = .int j :: .retAddr q :: r ∧ M = 0 ∧ vp_in j X.1 ∧ P M (i + 1) L (.int (X.2 j.toNatClampNeg) :: r) w sz sl res)
  ∨ (∃ q r, ins = .arraylength ∧ st = .retAddr q :: r ∧ M = 0 ∧ P M (i + 1) L (.int (nI X.1) :: r) w sz sl res)
  ∨ (∃ j a r k n f, az_al ins = some k ∧ st = .int j :: .ref a :: r ∧ w a = .inl (k, n, .inl f) ∧ vp_in j n ∧ P M (i + 1) L (.int (f j.toNatClampNeg) :: r) w sz sl res)
  ∨ (∃ x j a r k n f, az_as ins = some k ∧ st = .int x :: .int j :: .ref a :: r ∧ w a = .inl (k, n, .inl f) ∧ vp_in j n ∧ P M (i + 1) L r (va_up w a (.inl (k, n, .inl (upd f j.toNatClampNeg (az_nr k x))))) sz sl res)
  ∨ (∃ j a r k n f y, ins = .aaload ∧ st = .int j :: .ref a :: r ∧ w a = .inl (k, n, .inr (.inr (.inr (.inr f)))) ∧ (k = 3 ∨ k = 4) ∧ vp_in j n ∧ f j.toNatClampNeg = some y ∧ P M (i + 1) L (.ref y :: r) w sz sl res)
  ∨ (∃ y j a r k n f ci fs, ins = .aastore ∧ st = .ref y :: .int j :: .ref a :: r ∧ w a = .inl (k, n, .inr (.inr (.inr (.inr f)))) ∧ w y = .inr (ci, fs) ∧ ((k = 3 ∧ ci = 2) ∨ (k = 4 ∧ ci = 6)) ∧ vp_in j n ∧ P M (i + 1) L r (va_up w a (.inl (k, n, .inr (.inr (.inr (.inr (va_up f j.toNatClampNeg (some y)))))))) sz sl res)
  ∨ (∃ a r k n A, ins = .arraylength ∧ st = .ref a :: r ∧ w a = .inl (k, n, A) ∧ k < 5 ∧ P M (i + 1) L (.int (nI n) :: r) w sz sl res)
  ∨ (∃ idx, ins = .new idx ∧ P M (i + 1) L (.ref sz :: st) (va_up w sz (.inr (t, az_dv t u))) (sz + 1) (sl + u) res)
  ∨ (∃ ty n r, ins = .newarray ty ∧ st = .int n :: r ∧ vp_in n 1000 ∧ P M (i + 1) L (.ref sz :: r) (va_up w sz (.inl (u, n.toNatClampNeg, .inl (fun _ => 0)))) (sz + 1) (sl + n.toNatClampNeg) res)
  ∨ (∃ idx n r, ins = .anewarray idx ∧ st = .int n :: r ∧ vp_in n 1000 ∧ P M (i + 1) L (.ref sz :: r) (va_up w sz (.inl (u, n.toNatClampNeg, .inr (.inr (.inr (.inr (fun _ => none))))))) (sz + 1) (sl + n.toNatClampNeg) res)
  ∨ (∃ h args rest r w1 sz1 sl1, az_hs[t]? = some h ∧ (v = 0 ∨ v = 1) ∧ az_ca ins v h w st u args rest ∧ args.all az_a1 = true ∧ az_c8 rest = true ∧ P t 0 (az_L0 args h.2.2.2.1) [] w sz sl (r, w1, sz1, sl1) ∧ P M (i + 1) L (r.toList ++ rest) w1 sz1 sl1 res)
  ∨ (∃ idx a rest, ins = .invokespecial idx ∧ v = 2 ∧ st = .ref a :: rest ∧ az_c8 rest = true ∧ P M (i + 1) L rest w sz sl res)
  ∨ (∃ idx b rest, ins = .invokestatic idx ∧ v = 3 ∧ st = .float b :: rest ∧ az_c8 rest = true ∧ P M (i + 1) L (.int b.toInt32 :: rest) w sz sl res)
  ∨ (∃ h rv, az_hs[M]? = some h ∧ az_rt h.2.2.2.2.1 ins st = some rv ∧ res = (rv, w, sz, sl)))
/-- monotone -/
theorem az_st.mono {X : az_X} {P Q : az_Q} (hPQ : ∀ M i L st w sz sl res, P M i L st w sz sl res → Q M i L st w sz sl res) {M i : Nat} {L st : List Value} {w : az_W} {sz sl : Nat} {res : az_R} (h : az_st X P M i L st w sz sl res) : az_st X Q M i L st w sz sl res := by
  obtain ⟨pc, ins, ln, t, u, v, ts, js, hc, h⟩ := h
  refine ⟨pc, ins, ln, t, u, v, ts, js, hc, ?_⟩
  rcases h with ⟨a1, a2, h1, h2⟩ | ⟨a1, a2, h1, h2, h3⟩ | ⟨a1, a2, h1, h2⟩ | ⟨a1, a2, a3, a4, a5, h1, h2, h3, h4, h5⟩ | ⟨a1, a2, a3, a4, a5, h1, h2, h3, h4, h5, h6⟩ | ⟨a1, a2, a3, h1, h2, h3, h4, h5⟩ | ⟨a1, a2, h1, h2, h3, h4⟩ | ⟨a1, a2, a3, a4, a5, a6, h1, h2, h3, h4, h5⟩ | ⟨a1, a2, a3, a4, a5, a6, a7, h1, h2, h3, h4, h5⟩ | ⟨a1, a2, a3, a4, a5, a6, a7, h1, h2, h3, h4, h5, h6, h7⟩ | ⟨a1, a2, a3, a4, a5, a6, a7, a8, a9, h1, h2, h3, h4, h5, h6, h7⟩ | ⟨a1, a2, a3, a4, a5, h1, h2, h3, h4, h5⟩ | ⟨a1, h1, h2⟩ | ⟨a1, a2, a3, h1, h2, h3, h4⟩ | ⟨a1, a2, a3, h1, h2, h3, h4⟩ | ⟨a1, a2, a3, a4, a5, a6, a7, h1, h2, h3, h4, h5, h6, h7⟩ | ⟨a1, a2, a3, h1, h2, h3, h4, h5⟩ | ⟨a1, a2, a3, h1, h2, h3, h4, h5⟩ | ⟨a1, a2, h1, h2, h3⟩
  · exact Or.inl ⟨a1, a2, h1, hPQ _ _ _ _ _ _ _ _ h2⟩
  · exact Or.inr (Or.inl ⟨a1, a2, h1, fun q => hPQ _ _ _ _ _ _ _ _ (h2 q), fun q => hPQ _ _ _ _ _ _ _ _ (h3 q)⟩)
  · exact Or.inr (Or.inr (Or.inl ⟨a1, a2, h1, hPQ _ _ _ _ _ _ _ _ h2⟩))
  · exact Or.inr (Or.inr (Or.inr (Or.inl ⟨a1, a2, a3, a4, a5, h1, h2, h3, h4, hPQ _ _ _ _ _ _ _ _ h5⟩)))
  · exact Or.inr (Or.inr (Or.inr (Or.inr (Or.inl ⟨a1, a2, a3, a4, a5, h1, h2, h3, h4, h5, hPQ _ _ _ _ _ _ _ _ h6⟩))))
  · exact Or.inr (Or.inr (Or.inr (Or.inr (Or.inr (Or.inl ⟨a1, a2, a3, h1, h2, h3, h4, hPQ _ _ _ _ _ _ _ _ h5⟩)))))
  · exact Or.inr (Or.inr (Or.inr (Or.inr (Or.inr (Or.inr (Or.inl ⟨a1, a2, h1, h2, h3, hPQ _ _ _ _ _ _ _ _ h4⟩))))))
  · exact Or.inr (Or.inr (Or.inr (Or.inr (Or.inr (Or.inr (Or.inr (Or.inl ⟨a1, a2, a3, a4, a5, a6, h1, h2, h3, h4, hPQ _ _ _ _ _ _ _ _ h5⟩)))))))
  · exact Or.inr (Or.inr (Or.inr (Or.inr (Or.inr (Or.inr (Or.inr (Or.inr (Or.inl ⟨a1, a2, a3, a4, a5, a6, a7, h1, h2, h3, h4, hPQ _ _ _ _ _ _ _ _ h5⟩))))))))
  · exact Or.inr (Or.inr (Or.inr (Or.inr (Or.inr (Or.inr (Or.inr (Or.inr (Or.inr (Or.inl ⟨a1, a2, a3, a4, a5, a6, a7, h1, h2, h3, h4, h5, h6, hPQ _ _ _ _ _ _ _ _ h7⟩)))))))))
  · exact Or.inr (Or.inr (Or.inr (Or.inr (Or.inr (Or.inr (Or.inr (Or.inr (Or.inr (Or.inr (Or.inl ⟨a1, a2, a3, a4, a5, a6, a7, a8, a9, h1, h2, h3, h4, h5, h6, hPQ _ _ _ _ _ _ _ _ h7⟩))))))))))
  · exact Or.inr (Or.inr (Or.inr (Or.inr (Or.inr (Or.inr (Or.inr (Or.inr (Or.inr (Or.inr (Or.inr (Or.inl ⟨a1, a2, a3, a4, a5, h1, h2, h3, h4, hPQ _ _ _ _ _ _ _ _ h5⟩)))))))))))
  · exact Or.inr (Or.inr (Or.inr (Or.inr (Or.inr (Or.inr (Or.inr (Or.inr (Or.inr (Or.inr (Or.inr (Or.inr (Or.inl ⟨a1, h1, hPQ _ _ _ _ _ _ _ _ h2⟩))))))))))))
  · exact Or.inr (Or.inr (Or.inr (Or.inr (Or.inr (Or.inr (Or.inr (Or.inr (Or.inr (Or.inr (Or.inr (Or.inr (Or.inr (Or.inl ⟨a1, a2, a3, h1, h2, h3, hPQ _ _ _ _ _ _ _ _ h4⟩)))))))))))))
  · exact Or.inr (Or.inr (Or.inr (Or.inr (Or.inr (Or.inr (Or.inr (Or.inr (Or.inr (Or.inr (Or.inr (Or.inr (Or.inr (Or.inr (Or.inl ⟨a1, a2, a3, h1, h2, h3, hPQ _ _ _ _ _ _ _ _ h4⟩))))))))))))))
  · exact Or.inr (Or.inr (Or.inr (Or.inr (Or.inr (Or.inr (Or.inr (Or.inr (Or.inr (Or.inr (Or.inr (Or.inr (Or.inr (Or.inr (Or.inr (Or.inl ⟨a1, a2, a3, a4, a5, a6, a7, h1, h2, h3, h4, h5, hPQ _ _ _ _ _ _ _ _ h6, hPQ _ _ _ _ _ _ _ _ h7⟩)))))))))))))))
  · exact Or.inr (Or.inr (Or.inr (Or.inr (Or.inr (Or.inr (Or.inr (Or.inr (Or.inr (Or.inr (Or.inr (Or.inr (Or.inr (Or.inr (Or.inr (Or.inr (Or.inl ⟨a1, a2, a3, h1, h2, h3, h4, hPQ _ _ _ _ _ _ _ _ h5⟩))))))))))))))))
  · exact Or.inr (Or.inr (Or.inr (Or.inr (Or.inr (Or.inr (Or.inr (Or.inr (Or.inr (Or.inr (Or.inr (Or.inr (Or.inr (Or.inr (Or.inr (Or.inr (Or.inr (Or.inl ⟨a1, a2, a3, h1, h2, h3, h4, hPQ _ _ _ _ _ _ _ _ h5⟩)))))))))))))))))
  · exact Or.inr (Or.inr (Or.inr (Or.inr (Or.inr (Or.inr (Or.inr (Or.inr (Or.inr (Or.inr (Or.inr (Or.inr (Or.inr (Or.inr (Or.inr (Or.inr (Or.inr (Or.inr (⟨a1, a2, h1, h2, h3⟩))))))))))))))))))
/-- the machine comes from here to its method's end, with that result -/
def az_Ev (X : az_X) : az_Q := fun M i L st w sz sl res => ∀ P : az_Q, (∀ M i L st w sz sl res, az_st X P M i L st w sz sl res → P M i L st w sz sl res) → P M i L st w sz sl res
theorem az_Ev.step {X : az_X} {M i : Nat} {L st : List Value} {w : az_W} {sz sl : Nat} {res : az_R} (h : az_st X (az_Ev X) M i L st w sz sl res) : az_Ev X M i L st w sz sl res :=
  fun P hP => hP M i L st w sz sl res (h.mono (fun _ _ _ _ _ _ _ _ q => q P hP))
/-- a method's run on arguments -/
def az_M (X : az_X) (M : Nat) (args : List Value) (w : az_W) (sz sl : Nat) (res : az_R) : Prop := ∃ h : az_H, az_hs[M]? = some h ∧ az_Ev X M 0 (az_L0 args h.2.2.2.1) [] w sz sl res
