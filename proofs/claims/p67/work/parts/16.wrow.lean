/-! the law's wrappers: methods with a table of handlers -/
def CW (l : Launch) (y : MethodName) (code : ByteArray) (maxL : Nat) (ret : Option FieldType) (hh : List (Nat × Nat × Nat × Nat)) (rm : Room) (D : DD) (z : Nat) (a : List Value) (P : Heap → Prop) (v : Option Value) (P' : Heap → Prop) : Prop :=
  Met l y (Cond.codeWith y code maxL ret hh :: Wall) rm (va_Pc a (fun U => P U.heap ∧ BK D z U ∧ z ≤ U.heap.size)) (QC z v P') rm.cells rm.slots (Az z)
section JW
variable {p : Program} {l : Launch} {e : Env} {R : Room} {s : State} {m : MethodId} {args : Array Value} {below : List Frame} {meth : Method} {c : Code} {D : DD} {z : Nat} {own : String} {cc : ByteArray} {nL : Nat} {ret : Option FieldType} {P P' : Heap → Prop} {k n : Nat} {Q : State → Prop} {pc : Nat} {ls ls' : List (Nat × Value)} {st st0 : List Value}
theorem cw_of {y : MethodName} {code : ByteArray} {maxL : Nat} {hh : List (Nat × Nat × Nat × Nat)} {rm : Room} {a : List Value} {v : Option Value} (hy : plainName y.cls = true) (hsz : (lg_sl a).length ≤ maxL) (hl : lv_args 0 a = ls)
    (body : ∀ (p : Program) (e : Env) (s : State) (m : MethodId) (args : Array Value) (below : List Frame) (meth : Method) (c : Code), Cx p s m args meth c D z y.cls code maxL ret → c.exceptionTable.toList = tableOf hh → J p l e rm s m args below meth c D z P 0 0 (MQ below (QC z v P') args s rm.cells rm.slots (Az z)) maxL 0 ls []) : CW l y code maxL ret hh rm D z a P v P' := by
  unfold CW Met
  refine MetFree.of_bodyS (code := code) (maxLocals := maxL) (ret := ret) hy ?_ ?_
  · intro args s m h hn
    obtain ⟨m9, meth, c, hn9, h1, h2, h3, h4, -, h5, h6, -⟩ := Cond.codeWith_spec (atoms_spec (ws := Cond.codeWith y code maxL ret hh :: Wall) h _ List.mem_cons_self)
    cases hn.symm.trans hn9
    exact ⟨meth, c, h1, h2, h3, h4, h5, h6⟩
  · intro p e s m args below meth c s₁ B hml hv _
    have hh0 : s₁.heap = s.heap := by rw [B.state]; rfl
    obtain ⟨rfl, hG, hB, hz⟩ := hv
    have hts := atoms_spec (ws := Cond.codeWith y code maxL ret hh :: Wall) B.pre
    have hown : s.vm.findClass y.cls = some m.cls := findClass_of_methodNamed B.named
    have hE := lv_entry a hsz
    rw [hl] at hE
    have hb := body p e s m a.toArray below meth c ⟨B.exec, B.bytes, hml, hown, fun w h => hts w (List.mem_cons_of_mem _ h), hB, B.returns, B.notSynchronized, hz⟩ (vx_table (x := y) B (hts _ List.mem_cons_self)) s.heap [] _ hG va_S.rf hE
    rw [← lg_entry_eq] at hb
    obtain ⟨t, a1, o, b1, b2, b3⟩ := hb s₁ hh0 (Stand.of_body B)
    exact ⟨t, o, a1, b1, b2, ⟨b3.1, b3.2⟩⟩
theorem j_catchV {y : MethodName} {code : ByteArray} {maxL n0 idx b : Nat} {rt : Option FieldType} {rm : Room} {As : List Value} {C E0 : String} {hh : List (Nat × Nat × Nat × Nat)} (pre : List ExceptionTableEntry) (x : ExceptionTableEntry) (suf : List ExceptionTableEntry) (st : List Value) (E : Cx p s m args meth c D z own cc nL ret) (hct : c.exceptionTable.toList = tableOf hh) (hsplit : tableOf hh = pre ++ x :: suf) (hpass : ∀ z' ∈ pre, covers z' pc = false ∨ (z'.catchType ≠ 0 ∧ ∃ nm : String, Cond.classLink own z'.catchType nm ∈ Wall ∧ (E0, nm) ∈ ncL)) (hx : covers x pc = true) (h0 : x.catchType ≠ 0) (hlink : Cond.classLink own x.catchType E0 ∈ Wall) (hcast : Cond.castable E0 E0 ∈ NestW) (hM : CT l y code maxL rt rm D z (.ref b :: As) P E0 P') (w1 : Cond.methodLink own idx y ∈ Wall) (w : MV y code maxL rt C n0) (hn : As.length = n0) (hR : rm.frames + 1 ≤ R.frames ∧ 8 + (maxL + 11) + rm.locals ≤ R.locals) (hrec : RC D P C b) (hst : st0 = As.reverse ++ .ref b :: st) (hcat : (st.map fun v => v.category).sum ≤ 8) (hf : k + rm.cells ≤ R.cells ∧ n + rm.slots ≤ R.slots) (hd : decode cc pc = .ok (.invokevirtual idx, 3)) (h : ∀ q : Nat, J p l e R s m args below meth c D z P' (k + rm.cells) (n + rm.slots) Q nL x.handlerPc ls [.ref q]) : J p l e R s m args below meth c D z P k n Q nL pc ls st0 := by
  intro H locs la hG hS hL T hT X
  have hr : vx_Run p l e R s m args below meth c H locs k n rm.cells rm.slots (F0 m pc la st0) st (QN (Value.ref b :: As).toArray) (XCf E0 z P') (Az z) := by
    refine vx_runV (Ts := Wall) (As := As) (rest := st) ⟨E.1, E.2.1, E.2.2.1, E.2.2.2.1, E.2.2.2.2.1⟩ hM (cwV n0 E.2.2.2.2.1 ?_ rfl rfl rfl ⟨w.2.2.2.2.1, w.2.2.2.2.2⟩ hR) ⟨blind _ _, ?_, fun U hU hW => ⟨rfl, by rw [hU]; exact hG, bk_at E.2.2.2.2.2.1 hW hS hU, by rw [hU]; exact Nat.le_trans E.2.2.2.2.2.2.2.2 hS.1⟩⟩ rfl hn hL.1 hst (lv_room (rest := st0) hcat) hd hf
    · intro q hq
      have hgood : ∀ q, q ∈ Wall → q ∈ Wall ∧ ((q.onTables && q.keeps) = true ∨ ∃ ty, q = .arrayClass ty) := fun q hq => ⟨hq, wall_good _ hq⟩
      rcases List.mem_append.mp hq with hq | hq
      · simp only [List.mem_cons, List.not_mem_nil, or_false] at hq
        rcases hq with rfl | rfl | rfl | rfl
        · exact hgood _ w1
        · exact hgood _ w.1
        · exact hgood _ w.2.1
        · exact hgood _ w.2.2.1
      · exact gw_code w.2.2.2.1 q hq
    · obtain ⟨ci, q, fs, h1, h2, h3⟩ := hrec H hG
      have := va_recv (q0 := 0) E.2.2.2.2.2.1.K (at_P h3) h1 rfl
      rw [h2] at this
      exact this
  rcases hr T hT X with ⟨v, st₀, t, T', L, h0, X', hLf, e1, e2, hq, stp⟩ | ⟨q, st₀, t, T', L, E1, ce, h00, X', hLf, e1, e2, ⟨rfl, hP, hz, hk⟩, hce, hcv, hcl, stp⟩
  · exact hq.elim
  · rw [h00] at hz hk
    have hS' : va_S (Az z) s.heap T'.heap (locs ++ L) := ⟨Nat.le_trans hS.1 (by rw [e1]; exact hz), fun q h1 h2 => by rw [e1, hk q (Nat.lt_of_lt_of_le h1 hS.1) h2]; exact hS.2.1 q h1 h2, fun q hq => by
      rcases List.mem_append.mp hq with h | h
      · exact hS.2.2 q h
      · exact hLf q h⟩
    obtain ⟨t2, a1, b1⟩ := vx_catch (Q := Q) (ls := la) (rest := st) E.2.2.2.1 pre x suf (hct.trans hsplit) (fun z' hz' => (hpass z' hz').imp id (fun ⟨g1, nm, g2, g3⟩ => ⟨g1, nm, E.2.2.2.2.1 _ g2, E.2.2.2.2.2.1.2.2.2.2.2.2.2.2.2.1 _ g3⟩)) hx h0 (E.2.2.2.2.1 _ hlink) (nest_use E.2.2.2.2.2.1 hcast) (by rw [e1]; exact hce) hcv hcl (h q T'.heap (locs ++ L) la (by rw [e1]; exact hP) hS' hL) T' rfl X'
    exact ⟨t2, stp.trans a1, b1⟩
/-- calling a wrapper -/
theorem j_invW {y : MethodName} {code : ByteArray} {maxL n0 idx : Nat} {rt : Option FieldType} {hh : List (Nat × Nat × Nat × Nat)} {rm : Room} {As : List Value} {v : Option Value} (st : List Value) (st1 : List Value) (E : Cx p s m args meth c D z own cc nL ret) (hM : CW l y code maxL rt hh rm D z As P v P') (w1 : Cond.methodLink own idx y ∈ Wall) (w2 : Cond.static y ∈ Wall) (w3 : Cond.initialized own ∈ Wall) (w4 : Cond.codeWith y code maxL rt hh ∈ Wall) (hy : y.cls = own) (hyd : y.cls ≠ "java/lang/invoke/MethodHandle" ∧ y.cls ≠ "java/lang/invoke/VarHandle" ∧ (parseMethodDescriptor y.desc).map (fun d => d.parameters.length) = some n0) (hn : As.length = n0) (hR : rm.frames + 1 ≤ R.frames ∧ 8 + (maxL + 11) + rm.locals ≤ R.locals) (hst : st0 = As.reverse ++ st) (hst1 : v.toList ++ st = st1) (hcat : (st.map fun v => v.category).sum ≤ 8) (hf : k + rm.cells ≤ R.cells ∧ n + rm.slots ≤ R.slots) (hd : decode cc pc = .ok (.invokestatic idx, 3)) (h : J p l e R s m args below meth c D z P' (k + rm.cells) (n + rm.slots) Q nL (pc + 3) ls st1) : J p l e R s m args below meth c D z P k n Q nL pc ls st0 := by
  refine j_run hst1 (fun H locs la hG hS hL => ⟨_, vx_runSW (Ts := Wall) (As := As) (rest := st) ⟨E.1, E.2.1, E.2.2.1, E.2.2.2.1, E.2.2.2.2.1⟩ hM (vx_cwSW n0 E.2.2.2.2.1 ?_ rfl rfl rfl hyd hR) ⟨blind _ _, fun U hU hW => ⟨rfl, by rw [hU]; exact hG, bk_at E.2.2.2.2.2.1 hW hS hU, by rw [hU]; exact Nat.le_trans E.2.2.2.2.2.2.2.2 hS.1⟩⟩ rfl hn hL.1 hst (lv_room (rest := st0) hcat) hd hf⟩) h
  intro q hq
  have hgood : ∀ q, q ∈ Wall → q ∈ Wall ∧ ((q.onTables && q.keeps) = true ∨ ∃ ty, q = .arrayClass ty) := fun q hq => ⟨hq, wall_good _ hq⟩
  rcases List.mem_append.mp hq with hq | hq
  · simp only [List.mem_cons, List.not_mem_nil, or_false] at hq
    rcases hq with rfl | rfl | rfl
    · exact hgood _ w1
    · exact hgood _ w2
    · rw [hy]; exact hgood _ w3
  · rcases List.mem_cons.mp hq with rfl | hq
    · exact hgood _ w4
    · exact hgood _ hq
end JW
theorem cb_0 : Cond.castable "java/lang/IllegalStateException" "java/lang/IllegalStateException" ∈ NestW := List.mem_filter.mpr ⟨by decide +kernel, rfl⟩
