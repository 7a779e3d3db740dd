/-! calls that StringBuilder's code makes: inherited, private, by super -/
theorem sel_sub {C : String} {y y' : MethodName} {s : State} {args : Array Value} (hy : y.cls ≠ "java/lang/invoke/MethodHandle" ∧ y.cls ≠ "java/lang/invoke/VarHandle") (he : y'.cls = y.cls) (hs : (Cond.selects C y' y').before args s = true) (hpriv : (Cond.privateMethod y).before args s = true) (hinst : (Cond.instanceMethod y).before args s = true) : (Cond.selects C y y).before args s = true := by
  obtain ⟨c, r, m', hc, hr, hm', hsel', k, hk, hni⟩ := Cond.selects_spec hs
  obtain ⟨mk, methM, hnamed, hmethM, -, -⟩ := Cond.instanceMethod_spec hinst
  have hfound : s.methodFound? y.cls y.name y.desc = some mk := State.methodFound?_of_named hnamed hy
  have hcls : mk.cls = m'.cls := Option.some.inj ((findClass_of_methodNamed hnamed).symm.trans (he ▸ findClass_of_methodNamed hm'))
  have hsel : selectMethod {} s.vm c mk = .method mk := selectMethod_private hmethM (Cond.privateMethod_at hpriv mk methM hnamed hmethM)
  simp only [Cond.before, Cond.holds, Cond.value, hc, hfound, hnamed, hsel, hcls, hk]
  simp
  exact hni
section JU
variable {p : Program} {l : Launch} {e : Env} {R : Room} {s : State} {m : MethodId} {args : Array Value} {below : List Frame} {meth : Method} {c : Code} {D : DD} {z : Nat} {own : String} {cc : ByteArray} {nL : Nat} {ret : Option FieldType} {P P' : Heap → Prop} {k n : Nat} {Q : State → Prop} {pc : Nat} {ls ls' : List (Nat × Value)} {st st0 : List Value}
/-- the words of an inherited method that a call by name reaches -/
def MU (y : MethodName) (code : ByteArray) (maxL : Nat) (rt : Option FieldType) (n0 : Nat) : Prop := Cond.sameMethod y.cls y.cls y.name y.desc ∈ Wall ∧ Cond.instanceMethod y ∈ Wall ∧ Cond.initialized y.cls ∈ Wall ∧ Cond.code y code maxL rt ∈ Wall ∧ y.name ≠ "<init>" ∧ y.cls ≠ "java/lang/invoke/MethodHandle" ∧ y.cls ≠ "java/lang/invoke/VarHandle" ∧ (parseMethodDescriptor y.desc).map (fun d => d.parameters.length) = some n0
theorem j_invU {y : MethodName} {code : ByteArray} {maxL n0 idx b : Nat} {rt : Option FieldType} {rm : Room} {As : List Value} {v : Option Value} {C : String} (st : List Value) (st1 : List Value) (E : Cx p s m args meth c D z own cc nL ret) (hM : CC l y code maxL rt rm D z (.ref b :: As) P v P') (w1 : Cond.methodLink own idx y ∈ Wall) (w : MU y code maxL rt n0) (hsel : (Cond.selects C y y).before args s = true) (hn : As.length = n0) (hR : rm.frames + 1 ≤ R.frames ∧ 8 + (maxL + 11) + rm.locals ≤ R.locals) (hrec : RC D P C b) (hst : st0 = As.reverse ++ .ref b :: st) (hst1 : v.toList ++ st = st1) (hcat : (st.map fun v => v.category).sum ≤ 8) (hf : k + rm.cells ≤ R.cells ∧ n + rm.slots ≤ R.slots) (hd : decode cc pc = .ok (.invokevirtual idx, 3)) (h : J p l e R s m args below meth c D z P' (k + rm.cells) (n + rm.slots) Q nL (pc + 3) ls st1) : J p l e R s m args below meth c D z P k n Q nL pc ls st0 := by
  have ok : ∀ q, q ∈ Wall → q.before args s = true := E.2.2.2.2.1
  refine j_run hst1 (fun H locs la hG hS hL => ⟨_, va_runU (Ts := Wall) (As := As) (rest := st) (C := C) (owner := y.cls) (x := y) ⟨E.1, E.2.1, E.2.2.1, E.2.2.2.1, E.2.2.2.2.1⟩ hM ⟨⟨rfl, rfl, hR.1, hR.2, pay_in E.2.2.2.2.1 (gw_code w.2.2.2.1), List.mem_cons_self⟩, ok _ w.2.2.2.1, ok _ w.2.2.1, ⟨w.2.2.2.2.2.1, w.2.2.2.2.2.2.1⟩, fun sig q => ?_, ok _ w1, ok _ w.1, va_Decl.of (ok _ w.2.1) (ok _ w.2.2.2.1), hsel, ok _ w.2.1⟩ ⟨blind _ _, ?_, fun U hU hW => ⟨rfl, by rw [hU]; exact hG, bk_at E.2.2.2.2.2.1 hW hS hU, by rw [hU]; exact Nat.le_trans E.2.2.2.2.2.2.2.2 hS.1⟩⟩ rfl hn hL.1 hst (lv_room (rest := st0) hcat) hd hf⟩) h
  · have := w.2.2.2.2.2.2.2
    rw [q] at this
    exact (Option.some.inj this).symm
  · obtain ⟨ci, q, fs, h1, h2, h3⟩ := hrec H hG
    have := va_recv (q0 := 0) E.2.2.2.2.2.1.K (at_P h3) h1 rfl
    rw [h2] at this
    exact this
theorem j_invSU {y : MethodName} {code : ByteArray} {maxL n0 idx b : Nat} {rt : Option FieldType} {rm : Room} {As : List Value} {v : Option Value} {C : String} (st : List Value) (st1 : List Value) (E : Cx p s m args meth c D z own cc nL ret) (hM : CC l y code maxL rt rm D z (.ref b :: As) P v P') (w1 : Cond.methodLink own idx y ∈ Wall) (w : MU y code maxL rt n0) (wsup : Cond.superclass own y.cls ∈ Wall) (hn : As.length = n0) (hR : rm.frames + 1 ≤ R.frames ∧ 8 + (maxL + 11) + rm.locals ≤ R.locals) (hrec : RC D P C b) (hst : st0 = As.reverse ++ .ref b :: st) (hst1 : v.toList ++ st = st1) (hcat : (st.map fun v => v.category).sum ≤ 8) (hf : k + rm.cells ≤ R.cells ∧ n + rm.slots ≤ R.slots) (hd : decode cc pc = .ok (.invokespecial idx, 3)) (h : J p l e R s m args below meth c D z P' (k + rm.cells) (n + rm.slots) Q nL (pc + 3) ls st1) : J p l e R s m args below meth c D z P k n Q nL pc ls st0 := by
  have ok : ∀ q, q ∈ Wall → q.before args s = true := E.2.2.2.2.1
  refine j_run hst1 (fun H locs la hG hS hL => ?_) h
  obtain ⟨ci, q, fs, h1, h2, h3⟩ := hrec H hG
  have hv := va_recv (q0 := 0) E.2.2.2.2.2.1.K (at_P h3) h1 rfl
  rw [h2] at hv
  refine ⟨_, va_runSU (Ts := Wall) (As := As) (rest := st) (C := C) (h2 ▸ (E.2.2.2.2.2.1.K.1 ci q h1).2) ⟨E.1, E.2.1, E.2.2.1, E.2.2.2.1, E.2.2.2.2.1⟩ hM ⟨⟨rfl, rfl, hR.1, hR.2, pay_in E.2.2.2.2.1 (gw_code w.2.2.2.1), List.mem_cons_self⟩, ok _ w1, ok _ w.1, ok _ wsup, ok _ w.2.1, ok _ w.2.2.1, ok _ w.2.2.2.1, w.2.2.2.2.1, fun sig q => ?_⟩ ⟨blind _ _, hv, fun U hU hW => ⟨rfl, by rw [hU]; exact hG, bk_at E.2.2.2.2.2.1 hW hS hU, by rw [hU]; exact Nat.le_trans E.2.2.2.2.2.2.2.2 hS.1⟩⟩ rfl hn hL.1 hst (lv_room (rest := st0) hcat) hd hf⟩
  have := w.2.2.2.2.2.2.2
  rw [q] at this
  exact (Option.some.inj this).symm
end JU
