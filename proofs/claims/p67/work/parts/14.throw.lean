/-! methods that throw: CT, a contract that says which exception leaves; its rows -/

theorem GG.grow {D : DD} {z : Nat} {S : WS} {H H1 : Heap} (h : GG D z S H) (hq : ∀ q : Nat, q < H.size → H1[q]? = H[q]?) : GG D z S H1 := by
  exact ⟨fun k j i hok => (h.1 k j i hok).kept (hq _ (h.1 k j i hok).lt), h.2.1.mv fun q h1 _ => hq q h1, size_keep h.2.2 (hq _ h.2.2)⟩
def exN (e : Nat) : String := match e with
  | 0 => "java/lang/IllegalStateException"
  | 1 => "java/lang/IllegalArgumentException"
  | 2 => "java/lang/IndexOutOfBoundsException"
  | _ => "java/util/NoSuchElementException"
def orE (a b : Option Nat) : Option Nat := match a with
  | some e => some e
  | none => b
theorem orE_e {a b : Option Nat} {e : Nat} (h : orE a b = some e) : a = some e ∨ b = some e := by
  cases a with
  | none => exact Or.inr h
  | some x => exact Or.inl h
def XCf (E : String) (z : Nat) (P : Heap → Prop) : String → State → State → Prop := fun E' st t => E' = E ∧ P t.heap ∧ va_F (Az z) st t
def QN : Array Value → State → Outcome → State → Prop := fun _ _ _ _ => False
def CT (l : Launch) (y : MethodName) (code : ByteArray) (maxL : Nat) (ret : Option FieldType) (rm : Room) (D : DD) (z : Nat) (a : List Value) (P : Heap → Prop) (E : String) (P' : Heap → Prop) : Prop :=
  vx_Met l y (Cond.code y code maxL ret :: Wall) rm (va_Pc a (fun U => P U.heap ∧ BK D z U ∧ z ≤ U.heap.size)) QN (XCf E z P') rm.cells rm.slots (Az z)
abbrev QT (below : List Frame) (E : String) (z : Nat) (P : Heap → Prop) (args : Array Value) (s : State) (mc ms : Nat) : State → Prop := vx_MQ below QN (XCf E z P) args s mc ms (Az z)
section JT
variable {p : Program} {l : Launch} {e : Env} {R : Room} {s : State} {m : MethodId} {args : Array Value} {below : List Frame} {meth : Method} {c : Code} {D : DD} {z : Nat} {own : String} {cc : ByteArray} {nL : Nat} {ret : Option FieldType} {P P' : Heap → Prop} {k n : Nat} {Q : State → Prop} {pc : Nat} {ls ls' : List (Nat × Value)} {st st0 : List Value}
theorem ct_of {y : MethodName} {code : ByteArray} {maxL : Nat} {rm : Room} {a : List Value} {E0 : String} (hy : plainName y.cls = true) (hsz : (lg_sl a).length ≤ maxL) (hl : lv_args 0 a = ls)
    (body : ∀ (p : Program) (e : Env) (s : State) (m : MethodId) (args : Array Value) (below : List Frame) (meth : Method) (c : Code), Cx p s m args meth c D z y.cls code maxL ret → (∀ x ∈ c.exceptionTable.toList, False) → J p l e rm s m args below meth c D z P 0 0 (QT below E0 z P' args s rm.cells rm.slots) maxL 0 ls []) : CT l y code maxL ret rm D z a P E0 P' := by
  refine vx_ofW (cc := code) (maxL := maxL) (ret := ret) hy rfl ?_
  intro p e s m args below meth c s₁ B hml hex hv
  obtain ⟨rfl, hG, hB, hz⟩ := hv
  have hts := atoms_spec (ws := Cond.code y code maxL ret :: Wall) B.pre
  have hown : s.vm.findClass y.cls = some m.cls := findClass_of_methodNamed B.named
  have hE := lv_entry a hsz
  rw [hl] at hE
  have := body p e s m a.toArray below meth c ⟨B.exec, B.bytes, hml, hown, fun w h => hts w (List.mem_cons_of_mem _ h), hB, B.returns, B.notSynchronized, hz⟩ hex s.heap [] _ hG va_S.rf hE
  rw [lg_entry_eq]
  exact this
/-- what 'throw new X(text)' needs of the tables -/
def TW (own : String) (ik ic : Nat) (cls : String) : Prop := Bundle.fit cls = true ∧ (∀ q ∈ ["java/lang/RuntimeException", "java/lang/Exception"], Bundle.fit q = true) ∧ Cond.classLink own ik cls ∈ Wall ∧ Cond.initialized cls ∈ Wall ∧ (∀ w ∈ vx_atS own ic cls ["java/lang/RuntimeException", "java/lang/Exception"], w ∈ Wall ∨ w ∈ NestW) ∧ ∀ w ∈ Cond.classLink own ik cls :: Cond.initialized cls :: vx_atS own ic cls ["java/lang/RuntimeException", "java/lang/Exception"], vx_ot w = true
theorem nest_use {w : Cond} (hB : BK D z s) (hm : w ∈ NestW) : w.before args s = true := by
  have hn := (List.mem_filter.mp hm).2
  have hv := hB.N hm
  exact va_Nw.use (by cases w <;> first | rfl | exact absurd hn (by simp [isNest])) hv
theorem j_throw {ik is ic mc ms : Nat} {ex text : String} (E : Cx p s m args meth c D z own cc nL ret) (hl : l.stackTraces = false) (hex : ∀ x ∈ c.exceptionTable.toList, False) (w : TW own ik ic ex) (hs : (own, is, text) ∈ strL) (hg : ∀ H H1 : Heap, P H → (∀ q : Nat, q < H.size → H1[q]? = H[q]?) → P H1) (d0 : decode cc pc = .ok (.new ik, 3)) (d3 : decode cc (pc + 3) = .ok (.dup, 1)) (d4 : decode cc (pc + 4) = .ok (.ldc is, 2)) (d6 : decode cc (pc + 6) = .ok (.invokespecial ic, 3)) (d9 : decode cc (pc + 9) = .ok (.athrow, 1)) (hR : 5 < R.frames) (hRl : (st.map fun v => v.category).sum + 82 ≤ R.locals) (hRc : k + 1 ≤ R.cells) (hRs : n + 6 ≤ R.slots) (hc : k + 1 ≤ mc) (hm : n + 6 ≤ ms) : J p l e R s m args below meth c D z P k n (QT below ex z P args s mc ms) nL pc ls st :=
  fun H locs la hG hS hL => vx_throwS E.1 E.2.1 hl E.2.2.2.1 w.1 w.2.1 (E.2.2.2.2.1 _ w.2.2.1) (E.2.2.2.2.1 _ w.2.2.2.1) (E.2.2.2.2.2.1.2.2.1 _ hs) (fun q hq => (w.2.2.2.2.1 q hq).elim (E.2.2.2.2.1 _) (nest_use E.2.2.2.2.2.1)) w.2.2.2.2.2 E.2.2.2.2.2.1.2.2.2.2.2.1 E.2.2.2.2.2.1.2.2.2.2.2.2.1 hS (hL.1.trans E.2.2.1.symm) d0 d3 d4 d6 d9 (fun x hx => (hex x hx).elim) hR hRl hRc hRs E.2.2.2.2.2.2.2.1 (fun t _ h1 h2 => ⟨rfl, hg H _ hG h2, ⟨Nat.le_trans hS.1 h1, fun q g1 g2 => (h2 q (Nat.lt_of_lt_of_le g1 hS.1)).trans (hS.2.1 q g1 g2)⟩⟩) hS.2.2 hc hm
theorem j_throwW {ik is ic mc ms : Nat} {ex text : String} (E : Cx p s m args meth c D z own cc nL ret) (hl : l.stackTraces = false) (hex : ∀ x ∈ c.exceptionTable.toList, False) (w : TW own ik ic ex) (hs : (own, is, text) ∈ strL) (hg : ∀ H H1 : Heap, P H → (∀ q : Nat, q < H.size → H1[q]? = H[q]?) → P H1) (d0 : decode cc pc = .ok (.new ik, 3)) (d3 : decode cc (pc + 3) = .ok (.dup, 1)) (d4 : decode cc (pc + 4) = .ok (.ldc_w is, 3)) (d7 : decode cc (pc + 7) = .ok (.invokespecial ic, 3)) (d10 : decode cc (pc + 10) = .ok (.athrow, 1)) (hR : 5 < R.frames) (hRl : (st.map fun v => v.category).sum + 82 ≤ R.locals) (hRc : k + 1 ≤ R.cells) (hRs : n + 6 ≤ R.slots) (hc : k + 1 ≤ mc) (hm : n + 6 ≤ ms) : J p l e R s m args below meth c D z P k n (QT below ex z P args s mc ms) nL pc ls st :=
  fun H locs la hG hS hL => vx_throwSW E.1 E.2.1 hl E.2.2.2.1 w.1 w.2.1 (E.2.2.2.2.1 _ w.2.2.1) (E.2.2.2.2.1 _ w.2.2.2.1) (E.2.2.2.2.2.1.2.2.1 _ hs) (fun q hq => (w.2.2.2.2.1 q hq).elim (E.2.2.2.2.1 _) (nest_use E.2.2.2.2.2.1)) w.2.2.2.2.2 E.2.2.2.2.2.1.2.2.2.2.2.1 E.2.2.2.2.2.1.2.2.2.2.2.2.1 hS (hL.1.trans E.2.2.1.symm) d0 d3 d4 d7 d10 (fun x hx => (hex x hx).elim) hR hRl hRc hRs E.2.2.2.2.2.2.2.1 (fun t _ h1 h2 => ⟨rfl, hg H _ hG h2, ⟨Nat.le_trans hS.1 h1, fun q g1 g2 => (h2 q (Nat.lt_of_lt_of_le g1 hS.1)).trans (hS.2.1 q g1 g2)⟩⟩) hS.2.2 hc hm
/-- a call that throws, out of this method too -/
theorem prop_of {mc ms mk mz : Nat} {E0 : String} {a : Array Value} (E : Cx p s m args meth c D z own cc nL ret) (hex : ∀ x ∈ c.exceptionTable.toList, False) (hr : ∀ (H : Heap) (locs : List Loc) (la : Array Slot), P H → va_S (Az z) s.heap H locs → lv_has la nL ls → vx_Run p l e R s m args below meth c H locs k n mk mz (F0 m pc la st0) st (QN a) (XCf E0 z P') (Az z)) (hc : k + mk ≤ mc) (hm : n + mz ≤ ms) : J p l e R s m args below meth c D z P k n (QT below E0 z P' args s mc ms) nL pc ls st0 := by
  intro H locs la hG hS hL T hT X
  rcases hr H locs la hG hS hL T hT X with ⟨v, st₀, t, T', L, h0, X', hLf, e1, e2, hq, stp⟩ | ⟨q, st₀, t, T', L, E1, ce, h0, X', hLf, e1, e2, ⟨rfl, hP, hz, hk⟩, hce, hcv, hcl, stp⟩
  · exact hq.elim
  · rw [h0] at hz hk
    have hA : s.vm.Alike t.vm := by rw [← e2]; exact X'.warmed.alike
    have hS' : va_S (Az z) s.heap T'.heap (locs ++ L) := ⟨Nat.le_trans hS.1 (by rw [e1]; exact hz), fun q h1 h2 => by rw [e1, hk q (Nat.lt_of_lt_of_le h1 hS.1) h2]; exact hS.2.1 q h1 h2, fun q hq => by
      rcases List.mem_append.mp hq with h | h
      · exact hS.2.2 q h
      · exact hLf q h⟩
    obtain ⟨t2, a1, b1⟩ := vx_out (mc := mc) (ms := ms) (Qc := QN) (XC := XCf E1 z P') (free := Az z) (fun x hx => (hex x hx).elim) E.2.2.2.2.2.2.2.1 (by rw [e1]; exact hce) hcv hcl (fun t3 ht3 _ => ⟨rfl, by rw [ht3, e1]; exact hP, hS'.F ht3⟩) hS'.2.2 hc hm T' rfl X'
    exact ⟨t2, stp.trans a1, b1⟩
theorem j_propV {y : MethodName} {code : ByteArray} {maxL n0 idx b mc ms : Nat} {rt : Option FieldType} {rm : Room} {As : List Value} {C E0 : String} (st : List Value) (E : Cx p s m args meth c D z own cc nL ret) (hex : ∀ x ∈ c.exceptionTable.toList, False) (hM : CT l y code maxL rt rm D z (.ref b :: As) P E0 P') (w1 : Cond.methodLink own idx y ∈ Wall) (w : MV y code maxL rt C n0) (hn : As.length = n0) (hR : rm.frames + 1 ≤ R.frames ∧ 8 + (maxL + 11) + rm.locals ≤ R.locals) (hrec : RC D P C b) (hst : st0 = As.reverse ++ .ref b :: st) (hcat : (st.map fun v => v.category).sum ≤ 8) (hf : k + rm.cells ≤ R.cells ∧ n + rm.slots ≤ R.slots) (hd : decode cc pc = .ok (.invokevirtual idx, 3)) (hc : k + rm.cells ≤ mc) (hm : n + rm.slots ≤ ms) : J p l e R s m args below meth c D z P k n (QT below E0 z P' args s mc ms) nL pc ls st0 := by
  refine prop_of E hex (fun H locs la hG hS hL => vx_runV (Ts := Wall) (As := As) (rest := st) ⟨E.1, E.2.1, E.2.2.1, E.2.2.2.1, E.2.2.2.2.1⟩ hM (cwV n0 E.2.2.2.2.1 ?_ rfl rfl rfl ⟨w.2.2.2.2.1, w.2.2.2.2.2⟩ hR) ⟨blind _ _, ?_, fun U hU hW => ⟨rfl, by rw [hU]; exact hG, bk_at E.2.2.2.2.2.1 hW hS hU, by rw [hU]; exact Nat.le_trans E.2.2.2.2.2.2.2.2 hS.1⟩⟩ rfl hn hL.1 hst (lv_room (rest := st0) hcat) hd hf) hc hm
  · intro q hq
    have hgood : ∀ q, q ∈ Wall → q ∈ Wall ∧ ((q.onTables && q.keeps) = true ∨ ∃ ty, q = .arrayClass ty) := fun q hq => ⟨hq, wall_good _ hq⟩
    rcases List.mem_append.mp hq with hq | hq
    · simp only [List.mem_cons, List.not_mem_nil, or_false] at hq
      rcases hq with rfl | rfl | rfl | rfl
      · exact hgood _ w1
      · exact hgood _ w.1
      · exact hgood _ w.2.1
      · exact hgood _ w.2.2.1
    · exact gw_code w.2.2.2.1 q hq
  · obtain ⟨ci, q, fs, h1, h2, h3⟩ := hrec H hG
    have := va_recv (q0 := 0) E.2.2.2.2.2.1.K (at_P h3) h1 rfl
    rw [h2] at this
    exact this
theorem j_propS {y : MethodName} {code : ByteArray} {maxL n0 idx mc ms : Nat} {rt : Option FieldType} {rm : Room} {As : List Value} {C E0 : String} (st : List Value) (E : Cx p s m args meth c D z own cc nL ret) (hex : ∀ x ∈ c.exceptionTable.toList, False) (hM : CT l y code maxL rt rm D z As P E0 P') (w1 : Cond.methodLink own idx y ∈ Wall) (w : MS y code maxL rt C n0) (hn : As.length = n0) (hR : rm.frames + 1 ≤ R.frames ∧ 8 + (maxL + 11) + rm.locals ≤ R.locals) (hst : st0 = As.reverse ++ st) (hcat : (st.map fun v => v.category).sum ≤ 8) (hf : k + rm.cells ≤ R.cells ∧ n + rm.slots ≤ R.slots) (hd : decode cc pc = .ok (.invokestatic idx, 3)) (hc : k + rm.cells ≤ mc) (hm : n + rm.slots ≤ ms) : J p l e R s m args below meth c D z P k n (QT below E0 z P' args s mc ms) nL pc ls st0 := by
  have hci := w.2.2.2.1
  subst hci
  exact prop_of E hex (fun H locs la hG hS hL => vx_runS (Ts := Wall) (As := As) (rest := st) ⟨E.1, E.2.1, E.2.2.1, E.2.2.2.1, E.2.2.2.2.1⟩ hM ⟨callB_of n0 E.2.2.2.2.1 (gw_code w.2.2.1) rfl rfl rfl (E.2.2.2.2.1 _ w.2.1) (E.2.2.2.2.1 _ w1) w.2.2.2.2 hR, E.2.2.2.2.1 _ w.1⟩ ⟨blind _ _, fun U hU hW => ⟨rfl, by rw [hU]; exact hG, bk_at E.2.2.2.2.2.1 hW hS hU, by rw [hU]; exact Nat.le_trans E.2.2.2.2.2.2.2.2 hS.1⟩⟩ rfl hn hL.1 hst (lv_room (rest := st0) hcat) hd hf) hc hm
end JT
theorem gg_grow {D : DD} {z : Nat} {S : WS} : ∀ H H1 : Heap, GG D z S H → (∀ q : Nat, q < H.size → H1[q]? = H[q]?) → GG D z S H1 := fun _ _ h q => h.grow q
theorem wn_of {L : List Cond} (h : ∀ w ∈ L, w ∈ lw_tbl ∧ (goodWord w || isNest w) = true) : ∀ w ∈ L, w ∈ Wall ∨ w ∈ NestW := by
  intro w hw
  obtain ⟨h1, h2⟩ := h w hw
  rcases Bool.or_eq_true _ _ ▸ h2 with g | g
  · exact Or.inl (List.mem_append_right _ (List.mem_filter.mpr ⟨h1, g⟩))
  · exact Or.inr (List.mem_filter.mpr ⟨h1, g⟩)
theorem tw_0 : TW RX11 82 86 "java/lang/IllegalStateException" := ⟨by decide +kernel, by decide +kernel, cl_X11_82, in_IllegalStateException, wn_of (by decide +kernel), by decide +kernel⟩
theorem tw_1 : TW RX11 96 100 "java/lang/IllegalArgumentException" := ⟨by decide +kernel, by decide +kernel, cl_X11_96, in_IllegalArgumentException, wn_of (by decide +kernel), by decide +kernel⟩
theorem tw_2 : TW RX11 439 443 "java/lang/IndexOutOfBoundsException" := ⟨by decide +kernel, by decide +kernel, cl_X11_439, in_IndexOutOfBoundsException, wn_of (by decide +kernel), by decide +kernel⟩
/-- 'throw new NoSuchElementException(text)': its constructor links by another entry than the bundle's -/
def kx_rx : ByteArray := ⟨#[0x2a, 0x2b, 0xb7, 0x00, 0x0d, 0xb1]⟩
def TW3 : Prop := Bundle.fit "java/util/NoSuchElementException" = true ∧ (∀ q ∈ ["java/lang/RuntimeException", "java/lang/Exception"], Bundle.fit q = true) ∧ Cond.classLink RX11 179 "java/util/NoSuchElementException" ∈ Wall ∧ Cond.initialized "java/util/NoSuchElementException" ∈ Wall ∧ (∀ w ∈ kx_at RX11 183 "java/util/NoSuchElementException" "java/lang/RuntimeException" 13 kx_rx ["java/lang/Exception"], w ∈ Wall ∨ w ∈ NestW) ∧ ∀ w ∈ Cond.classLink RX11 179 "java/util/NoSuchElementException" :: Cond.initialized "java/util/NoSuchElementException" :: kx_at RX11 183 "java/util/NoSuchElementException" "java/lang/RuntimeException" 13 kx_rx ["java/lang/Exception"], vx_ot w = true
theorem tw_3 : TW3 := ⟨by decide +kernel, by decide +kernel, cl_X11_179, in_NoSuchElementException, wn_of (by decide +kernel), by decide +kernel⟩
set_option maxRecDepth 20000 in
theorem j_throw3 {p : Program} {l : Launch} {e : Env} {R : Room} {s : State} {m : MethodId} {args : Array Value} {below : List Frame} {meth : Method} {c : Code} {D : DD} {z : Nat} {cc : ByteArray} {nL : Nat} {ret : Option FieldType} {P : Heap → Prop} {k n : Nat} {pc : Nat} {ls : List (Nat × Value)} {st : List Value} {is mc ms : Nat} {text : String} (E : Cx p s m args meth c D z RX11 cc nL ret) (hl : l.stackTraces = false) (hex : ∀ x ∈ c.exceptionTable.toList, False) (hs : (RX11, is, text) ∈ strL) (hg : ∀ H H1 : Heap, P H → (∀ q : Nat, q < H.size → H1[q]? = H[q]?) → P H1) (d0 : decode cc pc = .ok (.new 179, 3)) (d3 : decode cc (pc + 3) = .ok (.dup, 1)) (d4 : decode cc (pc + 4) = .ok (.ldc is, 2)) (d6 : decode cc (pc + 6) = .ok (.invokespecial 183, 3)) (d9 : decode cc (pc + 9) = .ok (.athrow, 1)) (hR : 5 < R.frames) (hRl : (st.map fun v => v.category).sum + 82 ≤ R.locals) (hRc : k + 1 ≤ R.cells) (hRs : n + 6 ≤ R.slots) (hc : k + 1 ≤ mc) (hm : n + 6 ≤ ms) : J p l e R s m args below meth c D z P k n (QT below "java/util/NoSuchElementException" z P args s mc ms) nL pc ls st :=
  fun H locs la hG hS hL => kx_throwS E.1 E.2.1 hl (rx := kx_rx) (by decide +kernel) (by decide +kernel) (by decide +kernel) (by decide +kernel) E.2.2.2.1 tw_3.1 tw_3.2.1 (E.2.2.2.2.1 _ tw_3.2.2.1) (E.2.2.2.2.1 _ tw_3.2.2.2.1) (E.2.2.2.2.2.1.2.2.1 _ hs) (fun q hq => (tw_3.2.2.2.2.1 q hq).elim (E.2.2.2.2.1 _) (nest_use E.2.2.2.2.2.1)) tw_3.2.2.2.2.2 E.2.2.2.2.2.1.2.2.2.2.2.1 E.2.2.2.2.2.1.2.2.2.2.2.2.1 hS (hL.1.trans E.2.2.1.symm) d0 d3 d4 d6 d9 (fun x hx => (hex x hx).elim) hR hRl hRc hRs E.2.2.2.2.2.2.2.1 (fun t _ h1 h2 => ⟨rfl, hg H _ hG h2, ⟨Nat.le_trans hS.1 h1, fun q g1 g2 => (h2 q (Nat.lt_of_lt_of_le g1 hS.1)).trans (hS.2.1 q g1 g2)⟩⟩) hS.2.2 hc hm
set_option maxRecDepth 20000 in
/-- .. its text by ldc_w -/
theorem j_throw3w {p : Program} {l : Launch} {e : Env} {R : Room} {s : State} {m : MethodId} {args : Array Value} {below : List Frame} {meth : Method} {c : Code} {D : DD} {z : Nat} {cc : ByteArray} {nL : Nat} {ret : Option FieldType} {P : Heap → Prop} {k n : Nat} {pc : Nat} {ls : List (Nat × Value)} {st : List Value} {is mc ms : Nat} {text : String} (E : Cx p s m args meth c D z RX11 cc nL ret) (hl : l.stackTraces = false) (hex : ∀ x ∈ c.exceptionTable.toList, False) (hs : (RX11, is, text) ∈ strL) (hg : ∀ H H1 : Heap, P H → (∀ q : Nat, q < H.size → H1[q]? = H[q]?) → P H1) (d0 : decode cc pc = .ok (.new 179, 3)) (d3 : decode cc (pc + 3) = .ok (.dup, 1)) (d4 : decode cc (pc + 4) = .ok (.ldc_w is, 3)) (d7 : decode cc (pc + 7) = .ok (.invokespecial 183, 3)) (d10 : decode cc (pc + 10) = .ok (.athrow, 1)) (hR : 5 < R.frames) (hRl : (st.map fun v => v.category).sum + 82 ≤ R.locals) (hRc : k + 1 ≤ R.cells) (hRs : n + 6 ≤ R.slots) (hc : k + 1 ≤ mc) (hm : n + 6 ≤ ms) : J p l e R s m args below meth c D z P k n (QT below "java/util/NoSuchElementException" z P args s mc ms) nL pc ls st :=
  fun H locs la hG hS hL => kx_throwSW E.1 E.2.1 hl (rx := kx_rx) (by decide +kernel) (by decide +kernel) (by decide +kernel) (by decide +kernel) E.2.2.2.1 tw_3.1 tw_3.2.1 (E.2.2.2.2.1 _ tw_3.2.2.1) (E.2.2.2.2.1 _ tw_3.2.2.2.1) (E.2.2.2.2.2.1.2.2.1 _ hs) (fun q hq => (tw_3.2.2.2.2.1 q hq).elim (E.2.2.2.2.1 _) (nest_use E.2.2.2.2.2.1)) tw_3.2.2.2.2.2 E.2.2.2.2.2.1.2.2.2.2.2.1 E.2.2.2.2.2.1.2.2.2.2.2.2.1 hS (hL.1.trans E.2.2.1.symm) d0 d3 d4 d7 d10 (fun x hx => (hex x hx).elim) hR hRl hRc hRs E.2.2.2.2.2.2.2.1 (fun t _ h1 h2 => ⟨rfl, hg H _ hG h2, ⟨Nat.le_trans hS.1 h1, fun q g1 g2 => (h2 q (Nat.lt_of_lt_of_le g1 hS.1)).trans (hS.2.1 q g1 g2)⟩⟩) hS.2.2 hc hm
