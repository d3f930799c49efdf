section AZ3
variable {p : Program} {l : Launch} {e : Env} {R : Room} {s : State} {m : MethodId} {args : Array Value} {below : List Frame} {meth : Method} {c : Code} {H : Heap} {locs : List Loc} {cells slots : Nat} {Q : State → Prop}
variable {D : va_G} {cy : Nat → ClassId} {b0 base sz pc ln t u : Nat} {v : Int32} {js : List Nat} {ls : Array Slot} {w : az_W}
theorem az_ws_ht {h : az_H} (hts : az_T args s) (hcode : .code h.2.1 h.2.2.1 h.2.2.2.1 h.2.2.2.2.1 ∈ lw_tbl) : ∀ w ∈ (.code h.2.1 h.2.2.1 h.2.2.2.1 h.2.2.2.2.1 :: az_gw), w.before args s = true := by
  intro w hw
  rcases List.mem_cons.mp hw with rfl | hw
  · exact hts _ hcode rfl
  · obtain ⟨h1, h2⟩ := List.mem_filter.mp hw
    exact hts w h1 (by simp only [az_us, Bool.or_eq_true]; exact Or.inl h2)
set_option maxHeartbeats 2000000 in
theorem az_call_ok {h h' : az_H} {ins : Instr} {st As rest : List Value} {mc ms : Nat} {Pc : Array Value → State → Prop} {Qc : Array Value → State → Outcome → State → Prop} {free : Addr → Prop}
    (hC : az_C p s m args meth c h) (hK : va_K D vwCl (az_tys cy) s) (hR : az_Rw D cy b0 base w sz H) (hcw : az_cw h ins t u v js = true) (hh' : az_hs[t]? = some h')
    (hM : Met l h'.2.1 (.code h'.2.1 h'.2.2.1 h'.2.2.2.1 h'.2.2.2.2.1 :: az_gw) (az_rm h' mc ms) Pc Qc mc ms free) (hbl : FrameBlind Pc) (hpre : ∀ U : State, U.heap = H → s.WarmedH U.vm → Pc (As.map (az_tv b0 base)).toArray U)
    (hca : az_ca ins v h' w st u As rest) (hc8 : az_c8 rest = true) (hfr : h.2.2.2.2.2.1 ≤ R.frames) (hlo : h.2.2.2.2.2.2 ≤ R.locals) (hcells : cells + mc ≤ R.cells) (hslots : slots + ms ≤ R.slots) (hls : ls.size = h.2.2.2.1) (hd : decode h.2.2.1 pc = .ok (ins, 3)) :
    va_Run p l e R s m args below meth c H locs cells slots mc ms (F0 m pc ls (st.map (az_tv b0 base))) (rest.map (az_tv b0 base)) (Qc (As.map (az_tv b0 base)).toArray) free := by
  obtain ⟨hx, hb, hml, hret, hown, hts, hlocks, hin⟩ := hC
  unfold az_cw at hcw
  rw [hh'] at hcw
  obtain ⟨own', y', bytes', maxL', ret', fr', lo'⟩ := h'
  simp only [Bool.and_eq_true, decide_eq_true_eq] at hcw
  obtain ⟨⟨⟨⟨⟨⟨⟨ht0, hfr1⟩, hlo1⟩, hmh⟩, hvh⟩, har⟩, hpl⟩, hcw⟩ := hcw
  have hRm : (az_rm (own', y', bytes', maxL', ret', fr', lo') mc ms).frames + 1 ≤ R.frames ∧ 8 + (maxL' + 11) + (az_rm (own', y', bytes', maxL', ret', fr', lo') mc ms).locals ≤ R.locals := ⟨Nat.le_trans hfr1 hfr, Nat.le_trans hlo1 hlo⟩
  have hW8 : 2 * (F0 m pc ls (st.map (az_tv b0 base))).monitorRoom + ((rest.map (az_tv b0 base)).map fun v => v.category).sum ≤ 8 := by
    have := az_c8_map (b0 := b0) (base := base) hc8
    show 2 * 0 + _ ≤ 8
    omega
  rcases hca with ⟨idx, A0, b, ci, fs, rfl, hA, rfl, hwb, hcl, rfl⟩ | ⟨idx, A0, b, rfl, hA, rfl, rfl⟩ | ⟨idx, rfl, hA, rfl⟩
  · have hstk : (F0 m pc ls ((A0.reverse ++ .ref b :: rest).map (az_tv b0 base))).stack = (A0.map (az_tv b0 base)).reverse ++ .ref (base + b) :: rest.map (az_tv b0 base) := by
      show (A0.reverse ++ .ref b :: rest).map (az_tv b0 base) = _
      rw [List.map_append, List.map_reverse, List.map_cons]
      rfl
    split at hcw
    case h_1 idx' j0 j1 j2 j3 j4 hi =>
      cases hi
      simp only [Bool.and_eq_true, decide_eq_true_eq] at hcw
      obtain ⟨⟨⟨⟨⟨-, hl⟩, h1⟩, h2⟩, h3⟩, h4⟩ := hcw
      have hcode := List.mem_of_getElem? h3
      have hht := az_ws_ht (h := (own', y', bytes', maxL', ret', fr', lo')) hts hcode
      have hrecv : ∃ cellB : Cell, H[base + b]? = some cellB ∧ cellB.vm.isStatics = false ∧ s.vm.findClass y'.cls = some cellB.cls := by
        unfold az_cl at hcl
        split at hcl
        · next q hq =>
          have hqy : q.1 = y'.cls := of_decide_eq_true hcl
          obtain ⟨-, r1, hr1, cell, g1, g2, g3, -⟩ := hR.inr hwb (az_live hq)
          exact ⟨cell, g1, by rw [g3]; rfl, by rw [g2, ← hqy]; exact (hK.1 ci q hq).2.1⟩
        · cases hcl
      have hp : PreV s H y'.cls (base + b) Pc (A0.map (az_tv b0 base)) := ⟨hbl, hrecv, hpre⟩
      have hini : (Jvm.Cond.initialized y'.cls).before args s = true := hts _ (List.mem_of_getElem? h2) rfl
      rcases az_lw_spec hl with ⟨-, hl⟩ | ⟨-, host, hl⟩
      · exact va_runV (Ts := []) ⟨hx, hb, hml, hown, fun _ h => by cases h⟩ hM ⟨callB_of u hht az_goodIn rfl rfl rfl hini (hts _ hl rfl) ⟨hmh, hvh, har⟩ hRm, hts _ (List.mem_of_getElem? h1) rfl, hts _ (List.mem_of_getElem? h4) rfl⟩ hp rfl (by rw [List.length_map]; exact hA) hls hstk hW8 hd ⟨hcells, hslots⟩
      · exact va_runVN (Ts := []) ⟨hx, hb, hml, hown, fun _ h => by cases h⟩ hM ⟨va_cnB u hht az_goodIn rfl rfl rfl (az_bad_of rfl (hts _ hl rfl)) hini ⟨hmh, hvh, har⟩ hRm, hts _ (List.mem_of_getElem? h1) rfl, hts _ (List.mem_of_getElem? h4) rfl⟩ hp rfl (by rw [List.length_map]; exact hA) hls hstk hW8 hd ⟨hcells, hslots⟩
    case h_2 hi => cases hi
    case h_3 hi => cases hi
    case h_4 => cases hcw
  · have hstk : (F0 m pc ls ((A0.reverse ++ .ref b :: rest).map (az_tv b0 base))).stack = (A0.map (az_tv b0 base)).reverse ++ .ref (base + b) :: rest.map (az_tv b0 base) := by
      show (A0.reverse ++ .ref b :: rest).map (az_tv b0 base) = _
      rw [List.map_append, List.map_reverse, List.map_cons]
      rfl
    split at hcw
    case h_1 hi => cases hi
    case h_2 idx' j0 j1 j2 j3 hi =>
      cases hi
      simp only [Bool.and_eq_true, decide_eq_true_eq] at hcw
      obtain ⟨⟨⟨⟨⟨⟨⟨-, hl⟩, h1⟩, h2⟩, h3⟩, hv⟩, hnm⟩, hrt⟩ := hcw
      subst hrt
      have hcode := List.mem_of_getElem? h3
      have hht := az_ws_ht (h := (own', y', bytes', maxL', none, fr', lo')) hts hcode
      have hp : PreS s H Pc (.ref (base + b) :: A0.map (az_tv b0 base)) := ⟨hbl, hpre⟩
      have hini : (Jvm.Cond.initialized y'.cls).before args s = true := hts _ (List.mem_of_getElem? h2) rfl
      rcases az_lw_spec hl with ⟨-, hl⟩ | ⟨hv1, -⟩
      · exact va_runI (Ts := []) ⟨hx, hb, hml, hown, fun _ h => by cases h⟩ hM ⟨callB_of u hht az_goodIn rfl rfl rfl hini (hts _ hl rfl) ⟨hmh, hvh, har⟩ hRm, hnm, hts _ (List.mem_of_getElem? h1) rfl⟩ hp rfl (by rw [List.length_map]; exact hA) hls hstk hW8 hd ⟨hcells, hslots⟩
      · rw [hv] at hv1
        exact absurd hv1 (by decide)
    case h_3 hi => cases hi
    case h_4 => cases hcw
  · have hstk : (F0 m pc ls ((As.reverse ++ rest).map (az_tv b0 base))).stack = (As.map (az_tv b0 base)).reverse ++ rest.map (az_tv b0 base) := by
      show (As.reverse ++ rest).map (az_tv b0 base) = _
      rw [List.map_append, List.map_reverse]
    split at hcw
    case h_1 hi => cases hi
    case h_2 hi => cases hi
    case h_3 idx' j0 j1 j2 j3 hi =>
      cases hi
      simp only [Bool.and_eq_true, decide_eq_true_eq] at hcw
      obtain ⟨⟨⟨⟨-, hl⟩, h1⟩, h2⟩, h3⟩ := hcw
      have hcode := List.mem_of_getElem? h3
      have hht := az_ws_ht (h := (own', y', bytes', maxL', ret', fr', lo')) hts hcode
      have hp : PreS s H Pc (As.map (az_tv b0 base)) := ⟨hbl, hpre⟩
      have hini : (Jvm.Cond.initialized y'.cls).before args s = true := hts _ (List.mem_of_getElem? h2) rfl
      rcases az_lw_spec hl with ⟨-, hl⟩ | ⟨-, host, hl⟩
      · exact va_runS (Ts := []) ⟨hx, hb, hml, hown, fun _ h => by cases h⟩ hM ⟨callB_of u hht az_goodIn rfl rfl rfl hini (hts _ hl rfl) ⟨hmh, hvh, har⟩ hRm, hts _ (List.mem_of_getElem? h1) rfl⟩ hp rfl (by rw [List.length_map]; exact hA) hls hstk hW8 hd ⟨hcells, hslots⟩
      · exact va_runSN (Ts := []) ⟨hx, hb, hml, hown, fun _ h => by cases h⟩ hM ⟨va_cnB u hht az_goodIn rfl rfl rfl (az_bad_of rfl (hts _ hl rfl)) hini ⟨hmh, hvh, har⟩ hRm, hts _ (List.mem_of_getElem? h1) rfl, trivial⟩ hp rfl (by rw [List.length_map]; exact hA) hls hstk hW8 hd ⟨hcells, hslots⟩
    case h_4 => cases hcw
theorem az_cont {mc ms : Nat} {st0 rest : List Value} {a : Array Value} {r : Option Value} {w1 : az_W} {sz1 : Nat} (hr : va_Run p l e R s m args below meth c H locs cells slots mc ms (F0 m pc ls st0) rest (az_Qc D cy b0 base r w1 sz1 a) (fun q => base ≤ q)) (hlo : ∀ q ∈ locs, base ≤ q.base)
    (kk : ∀ (H1 : Heap) (locs1 : List Loc), az_Rw D cy b0 base w1 sz1 H1 → (∀ q : Nat, q < base → H1[q]? = H[q]?) → (∀ q ∈ locs1, base ≤ q.base) → W p l e R s m args below meth c H1 locs1 (cells + mc) (slots + ms) Q (F0 m (pc + 3) ls ((r.map (az_tv b0 base)).toList ++ rest))) : W p l e R s m args below meth c H locs cells slots Q (F0 m pc ls st0) := by
  intro T hT X
  obtain ⟨v, st₀, t, T', L, h0, X', hL, e1, e2, ⟨hv, hB, hz⟩, st⟩ := hr T hT X
  cases hv
  obtain ⟨t2, a1, b1⟩ := kk T'.heap (locs ++ L) (by rw [e1]; exact hB) (fun q h1 => by rw [e1, hz q h1, h0]) (fun q hq => by
      rcases List.mem_append.mp hq with h | h
      · exact hlo q h
      · exact hL q h) T' rfl X'
  exact ⟨t2, st t2 a1, b1⟩
end AZ3
