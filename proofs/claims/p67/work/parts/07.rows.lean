/-! BACKGROUND: what of the machine every walk needs beside the cells: the classes' numbers, String constants, statics of the JDK; and J, the judgement over the world -/
def ncL : List (String × String) := []
def aoL : List String := [RX6, RX9, RX7, RX0]
def winS (j : Nat) : Nat := if j = 0 then 18 else if j = 1 then 19 else 6
def groS (j : Nat) : Nat := if j = 0 then 20 else if j = 1 then 10 else if j = 2 then 21 else 7
def BK (D : DD) (z : Nat) (U : State) : Prop :=
  va_K (gD D) cls (tysD D) U ∧ (∀ w ∈ NestW, va_Nw w U) ∧ (∀ q ∈ strL, vk_R q.1 q.2.1 q.2.2 (D.2.2.2.2.2.1 q.1 q.2.1) U) ∧ (∀ q ∈ strC, D.2.2.2.2.2.1 q.1 q.2.1 = D.2.2.2.1 q.2.2) ∧
  vk_S 31 strN strB D.2.2.2.1 D.2.2.2.2.1 (Az z) U U.heap ∧
  vx_Zq Bundle.tN "UNASSIGNED_STACK" Bundle.steD (Az z) U U.heap ∧ vx_Zq Bundle.tN "SUPPRESSED_SENTINEL" Bundle.listD (Az z) U U.heap ∧
  va_Z "java/lang/String" "COMPACT_STRINGS" "Z" (.int 1) (Az z) U U.heap ∧ va_Zq "jdk/internal/util/Preconditions" "SIOOBE_FORMATTER" "Ljava/util/function/BiFunction;" (Az z) U U.heap ∧ (∀ q ∈ ncL, va_Nc q.1 q.2 U) ∧ (∀ C ∈ aoL, va_AO C U) ∧
  (∃ t, va_Z "java/lang/Integer" "DigitTens" "[B" (.ref t) (Az z) U U.heap ∧ va_T .byte t 100 (fun j => .int (48 + nI (j / 10))) (Az z) U U.heap) ∧
  (∃ t, va_Z "java/lang/Integer" "DigitOnes" "[B" (.ref t) (Az z) U U.heap ∧ va_T .byte t 100 (fun j => .int (48 + nI (j % 10))) (Az z) U U.heap) ∧
  (va_X D.2.2.2.2.2.2.1 D.2.2.2.2.2.2.2.1 D.2.2.2.2.2.2.2.2 U U.heap ∧ D.2.2.2.2.2.2.1 < U.heap.size ∧ ¬ Az z D.2.2.2.2.2.2.1) ∧
  (∃ t, va_Z RL "WINES" "[Ljava/lang/String;" (.ref t) (Az z) U U.heap ∧ va_T (.object RJ0) t 3 (fun j => .ref (D.2.2.2.1 (winS j))) (Az z) U U.heap) ∧
  (∃ t, va_Z RL "GROWERS" "[Ljava/lang/String;" (.ref t) (Az z) U U.heap ∧ va_T (.object RJ0) t 4 (fun j => .ref (D.2.2.2.1 (groS j))) (Az z) U U.heap)
theorem BK.K {D : DD} {z : Nat} {U : State} (h : BK D z U) : va_K (gD D) cls (tysD D) U := h.1
theorem BK.N {D : DD} {z : Nat} {U : State} (h : BK D z U) {w : Cond} (hm : w ∈ NestW) : va_Nw w U := h.2.1 w hm
theorem BK.go {D : DD} {z : Nat} {s U : State} (h : BK D z s) (hW : s.WarmedH U.vm) (hq : ∀ a : Nat, a < s.heap.size → ¬ Az z a → U.heap[a]? = s.heap[a]?) : BK D z U := by
  obtain ⟨h1, h0, h2, h3, h4, h5, h6, h7, h12, h13, h14, ⟨t8, h8, h9⟩, ⟨t10, h10, h11⟩, ⟨h15, h16, h17⟩, ⟨t18, h18, h19⟩, t20, h20, h21⟩ := h
  have hA := hW.alike
  exact ⟨va_K.moved hA h1, fun w hm => nest_warm hm hW (h0 w hm), fun q hm => vk_R.warm hW (h2 q hm), h3, (h4.moved hA).kept hq, (h5.moved hA).kept hq, (h6.moved hA).kept hq, (h7.moved hA).kept hq, (h12.moved hA).kept hq, fun q hm => (h13 q hm).moved hA, fun C hm => (h14 C hm).moved hA, ⟨t8, (h8.moved hA).kept hq, (h9.moved hA).kept hq⟩, ⟨t10, (h10.moved hA).kept hq, (h11.moved hA).kept hq⟩, ⟨(h15.moved hA).kept (hq _ h16 h17), (Nat.lt_of_not_le fun g => by
    have e := hq _ h16 h17
    rw [Array.getElem?_eq_none g, Array.getElem?_eq_getElem h16] at e
    cases e), h17⟩, ⟨t18, (h18.moved hA).kept hq, (h19.moved hA).kept hq⟩, t20, (h20.moved hA).kept hq, (h21.moved hA).kept hq⟩
theorem BK.same {D : DD} {z : Nat} {s U : State} (h : BK D z s) (hv : U.vm = s.vm) (hh : U.heap = s.heap) : BK D z U := by
  obtain ⟨h1, h0, h2, h3, h4, h5, h6, h7, h12, h13, h14, ⟨t8, h8, h9⟩, ⟨t10, h10, h11⟩, ⟨h15, h16, h17⟩, ⟨t18, h18, h19⟩, t20, h20, h21⟩ := h
  have hA : s.vm.Alike U.vm := by rw [hv]; exact Vm.Alike.refl _
  have hq : ∀ a : Nat, a < s.heap.size → ¬ Az z a → U.heap[a]? = s.heap[a]? := fun a _ _ => by rw [hh]
  exact ⟨va_K.moved hA h1, fun w hm => nest_same hm hv (h0 w hm), fun q hm => vk_R.same hv (h2 q hm), h3, (h4.moved hA).kept hq, (h5.moved hA).kept hq, (h6.moved hA).kept hq, (h7.moved hA).kept hq, (h12.moved hA).kept hq, fun q hm => (h13 q hm).moved hA, fun C hm => (h14 C hm).moved hA, ⟨t8, (h8.moved hA).kept hq, (h9.moved hA).kept hq⟩, ⟨t10, (h10.moved hA).kept hq, (h11.moved hA).kept hq⟩, ⟨(h15.moved hA).kept (hq _ h16 h17), (Nat.lt_of_not_le fun g => by
    have e := hq _ h16 h17
    rw [Array.getElem?_eq_none g, Array.getElem?_eq_getElem h16] at e
    cases e), h17⟩, ⟨t18, (h18.moved hA).kept hq, (h19.moved hA).kept hq⟩, t20, (h20.moved hA).kept hq, (h21.moved hA).kept hq⟩
/-- what stands through a walk -/
def Cx (p : Program) (s : State) (m : MethodId) (args : Array Value) (meth : Method) (c : Code) (D : DD) (z : Nat) (own : String) (cc : ByteArray) (nL : Nat) (ret : Option FieldType) : Prop :=
  p.tables.exec = Jvm.exec ∧ c.code = cc ∧ c.maxLocals = nL ∧ s.vm.findClass own = some m.cls ∧ (∀ w ∈ Wall, w.before args s = true) ∧ BK D z s ∧ meth.sig.returnType = ret ∧ meth.locks = false ∧ z ≤ s.heap.size
/-- the goal of a walk, over the world S -/
def J (p : Program) (l : Launch) (e : Env) (R : Room) (s : State) (m : MethodId) (args : Array Value) (below : List Frame) (meth : Method) (c : Code) (D : DD) (z : Nat) (P : Heap → Prop) (k n : Nat) (Q : State → Prop) (nL pc : Nat) (ls : List (Nat × Value)) (st : List Value) : Prop :=
  ∀ (H : Heap) (locs : List Loc) (la : Array Slot), P H → va_S (Az z) s.heap H locs → lv_has la nL ls → W p l e R s m args below meth c H locs k n Q (F0 m pc la st)
/-- the end of a method: its answer v, the world S -/
def QC (z : Nat) (v : Option Value) (P : Heap → Prop) : Array Value → State → Outcome → State → Prop := fun _ st oc t => oc = .returned v ∧ P t.heap ∧ va_F (Az z) st t
/-- A CONTRACT: called with a over the world S, method y answers v, and leaves S' -/
def CC (l : Launch) (y : MethodName) (code : ByteArray) (maxL : Nat) (ret : Option FieldType) (rm : Room) (D : DD) (z : Nat) (a : List Value) (P : Heap → Prop) (v : Option Value) (P' : Heap → Prop) : Prop :=
  Met l y (Cond.code y code maxL ret :: Wall) rm (va_Pc a (fun U => P U.heap ∧ BK D z U ∧ z ≤ U.heap.size)) (QC z v P') rm.cells rm.slots (Az z)
def rmk (d mc ms : Nat) : Room := { frames := d, cells := mc, slots := ms, locals := 60 * d }
theorem GG.lt {D : DD} {z : Nat} {S : WS} {H : Heap} (h : GG D z S H) : z < H.size := by
  have := (h.1 0 0 0 (Or.inl ⟨by decide, rfl, rfl⟩)).lt
  simpa [aX] using this
section JV
variable {p : Program} {l : Launch} {e : Env} {R : Room} {s : State} {m : MethodId} {args : Array Value} {below : List Frame} {meth : Method} {c : Code} {D : DD} {z : Nat} {own : String} {cc : ByteArray} {nL : Nat} {ret : Option FieldType} {P P' : Heap → Prop} {k n : Nat} {Q : State → Prop} {pc : Nat} {ls ls' : List (Nat × Value)} {st st0 : List Value}
theorem cc_of {y : MethodName} {code : ByteArray} {maxL : Nat} {rm : Room} {a : List Value} {v : Option Value} (hy : plainName y.cls = true) (hsz : (lg_sl a).length ≤ maxL) (hl : lv_args 0 a = ls)
    (body : ∀ (p : Program) (e : Env) (s : State) (m : MethodId) (args : Array Value) (below : List Frame) (meth : Method) (c : Code), Cx p s m args meth c D z y.cls code maxL ret → J p l e rm s m args below meth c D z P 0 0 (MQ below (QC z v P') args s rm.cells rm.slots (Az z)) maxL 0 ls []) : CC l y code maxL ret rm D z a P v P' := by
  refine Met.ofW (cc := code) (maxL := maxL) (ret := ret) hy rfl ?_
  intro p e s m args below meth c s₁ B hml hv
  obtain ⟨rfl, hG, hB, hz⟩ := hv
  have hts := atoms_spec (ws := Cond.code y code maxL ret :: Wall) B.pre
  have hown : s.vm.findClass y.cls = some m.cls := findClass_of_methodNamed B.named
  have hE := lv_entry a hsz
  rw [hl] at hE
  have := body p e s m a.toArray below meth c ⟨B.exec, B.bytes, hml, hown, fun w h => hts w (List.mem_cons_of_mem _ h), hB, B.returns, B.notSynchronized, hz⟩ s.heap [] _ hG va_S.rf hE
  rw [lg_entry_eq]
  exact this
theorem j_widen {k' n' : Nat} (h1 : k ≤ k') (h2 : n ≤ n') (h : J p l e R s m args below meth c D z P k' n' Q nL pc ls st) : J p l e R s m args below meth c D z P k n Q nL pc ls st :=
  fun H locs la hG hS hL => W.widen h1 h2 (h H locs la hG hS hL)
theorem j_sub (ks : List Nat) (hl : lv_pick ls ks = ls') (h : J p l e R s m args below meth c D z P k n Q nL pc ls' st) : J p l e R s m args below meth c D z P k n Q nL pc ls st :=
  fun H locs la hG hS hL => h H locs la hG hS (lv_sub hL ks hl)
-- constants, locals, stack, arithmetic
theorem j_iconst (E : Cx p s m args meth c D z own cc nL ret) {i : Int} (v : Int32) (hv : Int32.ofInt i = v) (hd : decode cc pc = .ok (.iconst i, 1)) (h : J p l e R s m args below meth c D z P k n Q nL (pc + 1) ls (.int v :: st)) : J p l e R s m args below meth c D z P k n Q nL pc ls st :=
  fun H locs la hG hS hL => lv_iconst E.1 E.2.1 hd hv (h H locs la hG hS hL)
theorem j_bipush (E : Cx p s m args meth c D z own cc nL ret) {i : Int} (v : Int32) (hv : (Int8.ofInt i).toInt32 = v) (hd : decode cc pc = .ok (.bipush i, 2)) (h : J p l e R s m args below meth c D z P k n Q nL (pc + 2) ls (.int v :: st)) : J p l e R s m args below meth c D z P k n Q nL pc ls st :=
  fun H locs la hG hS hL => lv_bipush E.1 E.2.1 hd hv (h H locs la hG hS hL)
theorem j_sipush (E : Cx p s m args meth c D z own cc nL ret) {i : Int} (v : Int32) (hv : (Int16.ofInt i).toInt32 = v) (hd : decode cc pc = .ok (.sipush i, 3)) (h : J p l e R s m args below meth c D z P k n Q nL (pc + 3) ls (.int v :: st)) : J p l e R s m args below meth c D z P k n Q nL pc ls st :=
  fun H locs la hG hS hL => lv_sipush E.1 E.2.1 hd hv (h H locs la hG hS hL)
theorem j_ldc (E : Cx p s m args meth c D z own cc nL ret) {i : Nat} {v : Int32} (w : Cond.constant own i v ∈ Wall) (hd : decode cc pc = .ok (.ldc i, 2)) (h : J p l e R s m args below meth c D z P k n Q nL (pc + 2) ls (.int v :: st)) : J p l e R s m args below meth c D z P k n Q nL pc ls st :=
  fun H locs la hG hS hL => lv_ldc E.1 E.2.1 E.2.2.2.1 (E.2.2.2.2.1 _ w) hd (h H locs la hG hS hL)
theorem j_lconst (E : Cx p s m args meth c D z own cc nL ret) {i : Fin 2} (v : Int64) (hv : Int64.ofNat (i : Nat) = v) (hd : decode cc pc = .ok (.lconst i, 1)) (h : J p l e R s m args below meth c D z P k n Q nL (pc + 1) ls (.long v :: st)) : J p l e R s m args below meth c D z P k n Q nL pc ls st :=
  fun H locs la hG hS hL => lv_lconst E.1 E.2.1 hd hv (h H locs la hG hS hL)
theorem j_ldc2 (E : Cx p s m args meth c D z own cc nL ret) {i : Nat} {v : Int64} (w : Cond.constantLong own i v ∈ Wall) (hd : decode cc pc = .ok (.ldc2_w i, 3)) (h : J p l e R s m args below meth c D z P k n Q nL (pc + 3) ls (.long v :: st)) : J p l e R s m args below meth c D z P k n Q nL pc ls st :=
  fun H locs la hG hS hL => lv_ldc2 E.1 E.2.1 E.2.2.2.1 (E.2.2.2.2.1 _ w) hd (h H locs la hG hS hL)
theorem j_fconst0 (E : Cx p s m args meth c D z own cc nL ret)  (hd : decode cc pc = .ok (.fconst 0, 1)) (h : J p l e R s m args below meth c D z P k n Q nL (pc + 1) ls (.float FP.fconst0 :: st)) : J p l e R s m args below meth c D z P k n Q nL pc ls st :=
  fun H locs la hG hS hL => lv_fconst0 E.1 E.2.1 hd (h H locs la hG hS hL)
theorem j_dconst0 (E : Cx p s m args meth c D z own cc nL ret)  (hd : decode cc pc = .ok (.dconst 0, 1)) (h : J p l e R s m args below meth c D z P k n Q nL (pc + 1) ls (.double FP.dconst0 :: st)) : J p l e R s m args below meth c D z P k n Q nL pc ls st :=
  fun H locs la hG hS hL => lv_dconst0 E.1 E.2.1 hd (h H locs la hG hS hL)
theorem j_iload_n (E : Cx p s m args meth c D z own cc nL ret) {i : Fin 4} {x : Int32} (q : Nat) (hl : ls[q]? = some ((i : Nat), .int x)) (hd : decode cc pc = .ok (.iload_n i, 1)) (h : J p l e R s m args below meth c D z P k n Q nL (pc + 1) ls (.int x :: st)) : J p l e R s m args below meth c D z P k n Q nL pc ls st :=
  fun H locs la hG hS hL => lv_iload_n E.1 E.2.1 hd rfl (lv_at hL q hl) (h H locs la hG hS hL)
theorem j_iload (E : Cx p s m args meth c D z own cc nL ret) {i : Nat} {x : Int32} (q : Nat) (hl : ls[q]? = some (i, .int x)) (hd : decode cc pc = .ok (.iload i, 2)) (h : J p l e R s m args below meth c D z P k n Q nL (pc + 2) ls (.int x :: st)) : J p l e R s m args below meth c D z P k n Q nL pc ls st :=
  fun H locs la hG hS hL => lv_iload E.1 E.2.1 hd (lv_at hL q hl) (h H locs la hG hS hL)
theorem j_lload_n (E : Cx p s m args meth c D z own cc nL ret) {i : Fin 4} {x : Int64} (q : Nat) (hl : ls[q]? = some ((i : Nat), .long x)) (hd : decode cc pc = .ok (.lload_n i, 1)) (h : J p l e R s m args below meth c D z P k n Q nL (pc + 1) ls (.long x :: st)) : J p l e R s m args below meth c D z P k n Q nL pc ls st :=
  fun H locs la hG hS hL => lv_lload_n E.1 E.2.1 hd rfl (lv_at hL q hl) (h H locs la hG hS hL)
theorem j_lload (E : Cx p s m args meth c D z own cc nL ret) {i : Nat} {x : Int64} (q : Nat) (hl : ls[q]? = some (i, .long x)) (hd : decode cc pc = .ok (.lload i, 2)) (h : J p l e R s m args below meth c D z P k n Q nL (pc + 2) ls (.long x :: st)) : J p l e R s m args below meth c D z P k n Q nL pc ls st :=
  fun H locs la hG hS hL => lv_lload E.1 E.2.1 hd (lv_at hL q hl) (h H locs la hG hS hL)
theorem j_dload (E : Cx p s m args meth c D z own cc nL ret) {i : Nat} {x : UInt64} (q : Nat) (hl : ls[q]? = some (i, .double x)) (hd : decode cc pc = .ok (.dload i, 2)) (h : J p l e R s m args below meth c D z P k n Q nL (pc + 2) ls (.double x :: st)) : J p l e R s m args below meth c D z P k n Q nL pc ls st :=
  fun H locs la hG hS hL => lv_dload E.1 E.2.1 hd (lv_at hL q hl) (h H locs la hG hS hL)
theorem j_aload_n (E : Cx p s m args meth c D z own cc nL ret) {i : Fin 4} {x : Nat} (q : Nat) (hl : ls[q]? = some ((i : Nat), .ref x)) (hd : decode cc pc = .ok (.aload_n i, 1)) (h : J p l e R s m args below meth c D z P k n Q nL (pc + 1) ls (.ref x :: st)) : J p l e R s m args below meth c D z P k n Q nL pc ls st :=
  fun H locs la hG hS hL => lv_aload_n E.1 E.2.1 hd rfl (lv_at hL q hl) (h H locs la hG hS hL)
theorem j_aload (E : Cx p s m args meth c D z own cc nL ret) {i : Nat} {x : Nat} (q : Nat) (hl : ls[q]? = some (i, .ref x)) (hd : decode cc pc = .ok (.aload i, 2)) (h : J p l e R s m args below meth c D z P k n Q nL (pc + 2) ls (.ref x :: st)) : J p l e R s m args below meth c D z P k n Q nL pc ls st :=
  fun H locs la hG hS hL => lv_aload E.1 E.2.1 hd (lv_at hL q hl) (h H locs la hG hS hL)
theorem j_istore_n (E : Cx p s m args meth c D z own cc nL ret) {i : Fin 4} {x : Int32} (hn : (i : Nat) < nL) (hl : ((i : Nat), Value.int x) :: ls.filter (fun q => !(q.1 == (i : Nat)) && !(q.1 + 1 == (i : Nat) && q.2.category == 2)) = ls') (hd : decode cc pc = .ok (.istore_n i, 1)) (h : J p l e R s m args below meth c D z P k n Q nL (pc + 1) ls' st) : J p l e R s m args below meth c D z P k n Q nL pc ls (.int x :: st) :=
  fun H locs la hG hS hL => lv_istore_n E.1 E.2.1 hd rfl hL hn hl (fun la hL => h H locs la hG hS hL)
theorem j_istore (E : Cx p s m args meth c D z own cc nL ret) {i : Nat} {x : Int32} (hn : i < nL) (hl : (i, Value.int x) :: ls.filter (fun q => !(q.1 == i) && !(q.1 + 1 == i && q.2.category == 2)) = ls') (hd : decode cc pc = .ok (.istore i, 2)) (h : J p l e R s m args below meth c D z P k n Q nL (pc + 2) ls' st) : J p l e R s m args below meth c D z P k n Q nL pc ls (.int x :: st) :=
  fun H locs la hG hS hL => lv_istore E.1 E.2.1 hd hL hn hl (fun la hL => h H locs la hG hS hL)
theorem j_lstore_n (E : Cx p s m args meth c D z own cc nL ret) {i : Fin 4} {x : Int64} (hn : (i : Nat) + 1 < nL) (hl : ((i : Nat), Value.long x) :: ls.filter (fun q => !(q.1 == (i : Nat)) && (!(q.1 == (i : Nat) + 1) && !(q.1 + 1 == (i : Nat) && q.2.category == 2))) = ls') (hd : decode cc pc = .ok (.lstore_n i, 1)) (h : J p l e R s m args below meth c D z P k n Q nL (pc + 1) ls' st) : J p l e R s m args below meth c D z P k n Q nL pc ls (.long x :: st) :=
  fun H locs la hG hS hL => lv_lstore_n E.1 E.2.1 hd rfl hL hn hl (fun la hL => h H locs la hG hS hL)
theorem j_lstore (E : Cx p s m args meth c D z own cc nL ret) {i : Nat} {x : Int64} (hn : i + 1 < nL) (hl : (i, Value.long x) :: ls.filter (fun q => !(q.1 == i) && (!(q.1 == i + 1) && !(q.1 + 1 == i && q.2.category == 2))) = ls') (hd : decode cc pc = .ok (.lstore i, 2)) (h : J p l e R s m args below meth c D z P k n Q nL (pc + 2) ls' st) : J p l e R s m args below meth c D z P k n Q nL pc ls (.long x :: st) :=
  fun H locs la hG hS hL => lv_lstore E.1 E.2.1 hd hL hn hl (fun la hL => h H locs la hG hS hL)
theorem j_astore_n (E : Cx p s m args meth c D z own cc nL ret) {i : Fin 4} {x : Nat} (hn : (i : Nat) < nL) (hl : ((i : Nat), Value.ref x) :: ls.filter (fun q => !(q.1 == (i : Nat)) && !(q.1 + 1 == (i : Nat) && q.2.category == 2)) = ls') (hd : decode cc pc = .ok (.astore_n i, 1)) (h : J p l e R s m args below meth c D z P k n Q nL (pc + 1) ls' st) : J p l e R s m args below meth c D z P k n Q nL pc ls (.ref x :: st) :=
  fun H locs la hG hS hL => lv_astore_n E.1 E.2.1 hd rfl hL hn hl (fun la hL => h H locs la hG hS hL)
theorem j_astore (E : Cx p s m args meth c D z own cc nL ret) {i : Nat} {x : Nat} (hn : i < nL) (hl : (i, Value.ref x) :: ls.filter (fun q => !(q.1 == i) && !(q.1 + 1 == i && q.2.category == 2)) = ls') (hd : decode cc pc = .ok (.astore i, 2)) (h : J p l e R s m args below meth c D z P k n Q nL (pc + 2) ls' st) : J p l e R s m args below meth c D z P k n Q nL pc ls (.ref x :: st) :=
  fun H locs la hG hS hL => lv_astore E.1 E.2.1 hd hL hn hl (fun la hL => h H locs la hG hS hL)
theorem j_dstore (E : Cx p s m args meth c D z own cc nL ret) {i : Nat} {x : UInt64} (hn : i + 1 < nL) (hl : (i, Value.double x) :: ls.filter (fun q => !(q.1 == i) && (!(q.1 == i + 1) && !(q.1 + 1 == i && q.2.category == 2))) = ls') (hd : decode cc pc = .ok (.dstore i, 2)) (h : J p l e R s m args below meth c D z P k n Q nL (pc + 2) ls' st) : J p l e R s m args below meth c D z P k n Q nL pc ls (.double x :: st) :=
  fun H locs la hG hS hL => lv_dstore E.1 E.2.1 hd hL hn hl (fun la hL => h H locs la hG hS hL)
theorem j_iinc (E : Cx p s m args meth c D z own cc nL ret) {i : Nat} {a : Int} {x : Int32} (q : Nat) (hk : ls[q]? = some (i, .int x)) (hn : i < nL) (v : Int32) (hv : x + Int32.ofInt a = v) (hl : (i, Value.int v) :: ls.filter (fun q => !(q.1 == i) && !(q.1 + 1 == i && q.2.category == 2)) = ls') (hd : decode cc pc = .ok (.iinc i a, 3)) (h : J p l e R s m args below meth c D z P k n Q nL (pc + 3) ls' st) : J p l e R s m args below meth c D z P k n Q nL pc ls st :=
  fun H locs la hG hS hL => lv_iinc E.1 E.2.1 hd hL hk hv hn hl (fun la hL => h H locs la hG hS hL)
theorem j_iadd (E : Cx p s m args meth c D z own cc nL ret) {x y : Int32} (hd : decode cc pc = .ok (.iadd, 1)) (h : J p l e R s m args below meth c D z P k n Q nL (pc + 1) ls (.int (x + y) :: st)) : J p l e R s m args below meth c D z P k n Q nL pc ls (.int y :: .int x :: st) :=
  fun H locs la hG hS hL => lv_iadd E.1 E.2.1 hd (h H locs la hG hS hL)
theorem j_isub (E : Cx p s m args meth c D z own cc nL ret) {x y : Int32} (hd : decode cc pc = .ok (.isub, 1)) (h : J p l e R s m args below meth c D z P k n Q nL (pc + 1) ls (.int (x - y) :: st)) : J p l e R s m args below meth c D z P k n Q nL pc ls (.int y :: .int x :: st) :=
  fun H locs la hG hS hL => lv_isub E.1 E.2.1 hd (h H locs la hG hS hL)
theorem j_imul (E : Cx p s m args meth c D z own cc nL ret) {x y : Int32} (hd : decode cc pc = .ok (.imul, 1)) (h : J p l e R s m args below meth c D z P k n Q nL (pc + 1) ls (.int (x * y) :: st)) : J p l e R s m args below meth c D z P k n Q nL pc ls (.int y :: .int x :: st) :=
  fun H locs la hG hS hL => lv_imul E.1 E.2.1 hd (h H locs la hG hS hL)
theorem j_iand (E : Cx p s m args meth c D z own cc nL ret) {x y : Int32} (hd : decode cc pc = .ok (.iand, 1)) (h : J p l e R s m args below meth c D z P k n Q nL (pc + 1) ls (.int (x &&& y) :: st)) : J p l e R s m args below meth c D z P k n Q nL pc ls (.int y :: .int x :: st) :=
  fun H locs la hG hS hL => lv_iand E.1 E.2.1 hd (h H locs la hG hS hL)
theorem j_ior (E : Cx p s m args meth c D z own cc nL ret) {x y : Int32} (hd : decode cc pc = .ok (.ior, 1)) (h : J p l e R s m args below meth c D z P k n Q nL (pc + 1) ls (.int (x ||| y) :: st)) : J p l e R s m args below meth c D z P k n Q nL pc ls (.int y :: .int x :: st) :=
  fun H locs la hG hS hL => lv_ior E.1 E.2.1 hd (h H locs la hG hS hL)
theorem j_ishl (E : Cx p s m args meth c D z own cc nL ret) {x y : Int32} (hd : decode cc pc = .ok (.ishl, 1)) (h : J p l e R s m args below meth c D z P k n Q nL (pc + 1) ls (.int (x <<< (y &&& 31)) :: st)) : J p l e R s m args below meth c D z P k n Q nL pc ls (.int y :: .int x :: st) :=
  fun H locs la hG hS hL => lv_ishl E.1 E.2.1 hd (h H locs la hG hS hL)
theorem j_ishr (E : Cx p s m args meth c D z own cc nL ret) {x y : Int32} (hd : decode cc pc = .ok (.ishr, 1)) (h : J p l e R s m args below meth c D z P k n Q nL (pc + 1) ls (.int (x >>> (y &&& 31)) :: st)) : J p l e R s m args below meth c D z P k n Q nL pc ls (.int y :: .int x :: st) :=
  fun H locs la hG hS hL => lv_ishr E.1 E.2.1 hd (h H locs la hG hS hL)
theorem j_iushr (E : Cx p s m args meth c D z own cc nL ret) {x y : Int32} (hd : decode cc pc = .ok (.iushr, 1)) (h : J p l e R s m args below meth c D z P k n Q nL (pc + 1) ls (.int ((x.toUInt32 >>> (y.toUInt32 &&& Int32.toUInt32 31)).toInt32) :: st)) : J p l e R s m args below meth c D z P k n Q nL pc ls (.int y :: .int x :: st) :=
  fun H locs la hG hS hL => lv_iushr E.1 E.2.1 hd rfl (h H locs la hG hS hL)
theorem j_idiv (E : Cx p s m args meth c D z own cc nL ret) {x y : Int32} (hne : ¬ y = 0) (hd : decode cc pc = .ok (.idiv, 1)) (h : J p l e R s m args below meth c D z P k n Q nL (pc + 1) ls (.int (x / y) :: st)) : J p l e R s m args below meth c D z P k n Q nL pc ls (.int y :: .int x :: st) :=
  fun H locs la hG hS hL => lv_idiv E.1 E.2.1 hd hne (h H locs la hG hS hL)
theorem j_irem (E : Cx p s m args meth c D z own cc nL ret) {x y : Int32} (hne : ¬ y = 0) (hd : decode cc pc = .ok (.irem, 1)) (h : J p l e R s m args below meth c D z P k n Q nL (pc + 1) ls (.int (x - x / y * y) :: st)) : J p l e R s m args below meth c D z P k n Q nL pc ls (.int y :: .int x :: st) :=
  fun H locs la hG hS hL => lv_irem E.1 E.2.1 hd hne (h H locs la hG hS hL)
theorem j_ineg (E : Cx p s m args meth c D z own cc nL ret) {x : Int32} (hd : decode cc pc = .ok (.ineg, 1)) (h : J p l e R s m args below meth c D z P k n Q nL (pc + 1) ls (.int (-x) :: st)) : J p l e R s m args below meth c D z P k n Q nL pc ls (.int x :: st) :=
  fun H locs la hG hS hL => lv_ineg E.1 E.2.1 hd (h H locs la hG hS hL)
theorem j_ladd (E : Cx p s m args meth c D z own cc nL ret) {x y : Int64} (hd : decode cc pc = .ok (.ladd, 1)) (h : J p l e R s m args below meth c D z P k n Q nL (pc + 1) ls (.long (x + y) :: st)) : J p l e R s m args below meth c D z P k n Q nL pc ls (.long y :: .long x :: st) :=
  fun H locs la hG hS hL => lv_ladd E.1 E.2.1 hd (h H locs la hG hS hL)
theorem j_lsub (E : Cx p s m args meth c D z own cc nL ret) {x y : Int64} (hd : decode cc pc = .ok (.lsub, 1)) (h : J p l e R s m args below meth c D z P k n Q nL (pc + 1) ls (.long (x - y) :: st)) : J p l e R s m args below meth c D z P k n Q nL pc ls (.long y :: .long x :: st) :=
  fun H locs la hG hS hL => lv_lsub E.1 E.2.1 hd (h H locs la hG hS hL)
theorem j_lmul (E : Cx p s m args meth c D z own cc nL ret) {x y : Int64} (hd : decode cc pc = .ok (.lmul, 1)) (h : J p l e R s m args below meth c D z P k n Q nL (pc + 1) ls (.long (x * y) :: st)) : J p l e R s m args below meth c D z P k n Q nL pc ls (.long y :: .long x :: st) :=
  fun H locs la hG hS hL => lv_lmul E.1 E.2.1 hd (h H locs la hG hS hL)
theorem j_lcmp (E : Cx p s m args meth c D z own cc nL ret) {x y : Int64} (hd : decode cc pc = .ok (.lcmp, 1)) (h : J p l e R s m args below meth c D z P k n Q nL (pc + 1) ls (.int (lg_cmp x y) :: st)) : J p l e R s m args below meth c D z P k n Q nL pc ls (.long y :: .long x :: st) :=
  fun H locs la hG hS hL => W.lcmp E.1 E.2.1 hd (h H locs la hG hS hL)
theorem j_i2l (E : Cx p s m args meth c D z own cc nL ret) {x : Int32} (hd : decode cc pc = .ok (.i2l, 1)) (h : J p l e R s m args below meth c D z P k n Q nL (pc + 1) ls (.long x.toInt64 :: st)) : J p l e R s m args below meth c D z P k n Q nL pc ls (.int x :: st) :=
  fun H locs la hG hS hL => lv_i2l E.1 E.2.1 hd rfl (h H locs la hG hS hL)
theorem j_l2i (E : Cx p s m args meth c D z own cc nL ret) {x : Int64} (hd : decode cc pc = .ok (.l2i, 1)) (h : J p l e R s m args below meth c D z P k n Q nL (pc + 1) ls (.int x.toInt32 :: st)) : J p l e R s m args below meth c D z P k n Q nL pc ls (.long x :: st) :=
  fun H locs la hG hS hL => lv_l2i E.1 E.2.1 hd rfl (h H locs la hG hS hL)
theorem j_i2b (E : Cx p s m args meth c D z own cc nL ret) {x : Int32} (hd : decode cc pc = .ok (.i2b, 1)) (h : J p l e R s m args below meth c D z P k n Q nL (pc + 1) ls (.int x.toInt8.toInt32 :: st)) : J p l e R s m args below meth c D z P k n Q nL pc ls (.int x :: st) :=
  fun H locs la hG hS hL => lv_i2b E.1 E.2.1 hd rfl (h H locs la hG hS hL)
theorem j_i2c (E : Cx p s m args meth c D z own cc nL ret) {x : Int32} (hd : decode cc pc = .ok (.i2c, 1)) (h : J p l e R s m args below meth c D z P k n Q nL (pc + 1) ls (.int ((x.toUInt32 % 65536).toInt32) :: st)) : J p l e R s m args below meth c D z P k n Q nL pc ls (.int x :: st) :=
  fun H locs la hG hS hL => lv_i2c E.1 E.2.1 hd rfl (h H locs la hG hS hL)
theorem j_i2f (E : Cx p s m args meth c D z own cc nL ret) {x : Int32} (hd : decode cc pc = .ok (.i2f, 1)) (h : J p l e R s m args below meth c D z P k n Q nL (pc + 1) ls (.float (FP.i2f x) :: st)) : J p l e R s m args below meth c D z P k n Q nL pc ls (.int x :: st) :=
  fun H locs la hG hS hL => lv_i2f E.1 E.2.1 hd (h H locs la hG hS hL)
theorem j_i2d (E : Cx p s m args meth c D z own cc nL ret) {x : Int32} (hd : decode cc pc = .ok (.i2d, 1)) (h : J p l e R s m args below meth c D z P k n Q nL (pc + 1) ls (.double (FP.i2d x) :: st)) : J p l e R s m args below meth c D z P k n Q nL pc ls (.int x :: st) :=
  fun H locs la hG hS hL => lv_i2d E.1 E.2.1 hd (h H locs la hG hS hL)
theorem j_dup (E : Cx p s m args meth c D z own cc nL ret) {a : Value} (ha : a.category = 1) (hd : decode cc pc = .ok (.dup, 1)) (h : J p l e R s m args below meth c D z P k n Q nL (pc + 1) ls (a :: a :: st)) : J p l e R s m args below meth c D z P k n Q nL pc ls (a :: st) :=
  fun H locs la hG hS hL => lv_dup E.1 E.2.1 hd ha (h H locs la hG hS hL)
theorem j_pop (E : Cx p s m args meth c D z own cc nL ret) {a : Value} (ha : a.category = 1) (hd : decode cc pc = .ok (.pop, 1)) (h : J p l e R s m args below meth c D z P k n Q nL (pc + 1) ls st) : J p l e R s m args below meth c D z P k n Q nL pc ls (a :: st) :=
  fun H locs la hG hS hL => lv_pop E.1 E.2.1 hd ha (h H locs la hG hS hL)
theorem j_dup_x1 (E : Cx p s m args meth c D z own cc nL ret) {a b : Value} (ha : a.category = 1) (hb : b.category = 1) (hd : decode cc pc = .ok (.dup_x1, 1)) (h : J p l e R s m args below meth c D z P k n Q nL (pc + 1) ls (a :: b :: a :: st)) : J p l e R s m args below meth c D z P k n Q nL pc ls (a :: b :: st) :=
  fun H locs la hG hS hL => lv_dup_x1 E.1 E.2.1 hd ha hb (h H locs la hG hS hL)
theorem j_dup2 (E : Cx p s m args meth c D z own cc nL ret) {a b : Value} (ha : a.category = 1) (hb : b.category = 1) (hd : decode cc pc = .ok (.dup2, 1)) (h : J p l e R s m args below meth c D z P k n Q nL (pc + 1) ls (a :: b :: a :: b :: st)) : J p l e R s m args below meth c D z P k n Q nL pc ls (a :: b :: st) :=
  fun H locs la hG hS hL => lv_dup2_11 E.1 E.2.1 hd ha hb (h H locs la hG hS hL)
theorem j_if_eq (E : Cx p s m args meth c D z own cc nL ret) {x : Int32} {off : Int} (tgt : Nat) (ht : (pc : Int) + off = (tgt : Int)) (hd : decode cc pc = .ok (.ifCond .eq off, 3)) (kt : x = 0 → J p l e R s m args below meth c D z P k n Q nL tgt ls st) (kf : ¬ x = 0 → J p l e R s m args below meth c D z P k n Q nL (pc + 3) ls st) : J p l e R s m args below meth c D z P k n Q nL pc ls (.int x :: st) :=
  fun H locs la hG hS hL => lv_if_eq E.1 E.2.1 hd ht (fun q => kt q H locs la hG hS hL) (fun q => kf q H locs la hG hS hL)
theorem j_icmp_eq (E : Cx p s m args meth c D z own cc nL ret) {x y : Int32} {off : Int} (tgt : Nat) (ht : (pc : Int) + off = (tgt : Int)) (hd : decode cc pc = .ok (.if_icmp .eq off, 3)) (kt : x = y → J p l e R s m args below meth c D z P k n Q nL tgt ls st) (kf : ¬ x = y → J p l e R s m args below meth c D z P k n Q nL (pc + 3) ls st) : J p l e R s m args below meth c D z P k n Q nL pc ls (.int y :: .int x :: st) :=
  fun H locs la hG hS hL => lv_icmp_eq E.1 E.2.1 hd ht (fun q => kt q H locs la hG hS hL) (fun q => kf q H locs la hG hS hL)
theorem j_if_ne (E : Cx p s m args meth c D z own cc nL ret) {x : Int32} {off : Int} (tgt : Nat) (ht : (pc : Int) + off = (tgt : Int)) (hd : decode cc pc = .ok (.ifCond .ne off, 3)) (kt : ¬ x = 0 → J p l e R s m args below meth c D z P k n Q nL tgt ls st) (kf : x = 0 → J p l e R s m args below meth c D z P k n Q nL (pc + 3) ls st) : J p l e R s m args below meth c D z P k n Q nL pc ls (.int x :: st) :=
  fun H locs la hG hS hL => lv_if_ne E.1 E.2.1 hd ht (fun q => kt q H locs la hG hS hL) (fun q => kf q H locs la hG hS hL)
theorem j_icmp_ne (E : Cx p s m args meth c D z own cc nL ret) {x y : Int32} {off : Int} (tgt : Nat) (ht : (pc : Int) + off = (tgt : Int)) (hd : decode cc pc = .ok (.if_icmp .ne off, 3)) (kt : ¬ x = y → J p l e R s m args below meth c D z P k n Q nL tgt ls st) (kf : x = y → J p l e R s m args below meth c D z P k n Q nL (pc + 3) ls st) : J p l e R s m args below meth c D z P k n Q nL pc ls (.int y :: .int x :: st) :=
  fun H locs la hG hS hL => lv_icmp_ne E.1 E.2.1 hd ht (fun q => kt q H locs la hG hS hL) (fun q => kf q H locs la hG hS hL)
theorem j_if_lt (E : Cx p s m args meth c D z own cc nL ret) {x : Int32} {off : Int} (tgt : Nat) (ht : (pc : Int) + off = (tgt : Int)) (hd : decode cc pc = .ok (.ifCond .lt off, 3)) (kt : x < 0 → J p l e R s m args below meth c D z P k n Q nL tgt ls st) (kf : ¬ x < 0 → J p l e R s m args below meth c D z P k n Q nL (pc + 3) ls st) : J p l e R s m args below meth c D z P k n Q nL pc ls (.int x :: st) :=
  fun H locs la hG hS hL => lv_if_lt E.1 E.2.1 hd ht (fun q => kt q H locs la hG hS hL) (fun q => kf q H locs la hG hS hL)
theorem j_icmp_lt (E : Cx p s m args meth c D z own cc nL ret) {x y : Int32} {off : Int} (tgt : Nat) (ht : (pc : Int) + off = (tgt : Int)) (hd : decode cc pc = .ok (.if_icmp .lt off, 3)) (kt : x < y → J p l e R s m args below meth c D z P k n Q nL tgt ls st) (kf : ¬ x < y → J p l e R s m args below meth c D z P k n Q nL (pc + 3) ls st) : J p l e R s m args below meth c D z P k n Q nL pc ls (.int y :: .int x :: st) :=
  fun H locs la hG hS hL => lv_icmp_lt E.1 E.2.1 hd ht (fun q => kt q H locs la hG hS hL) (fun q => kf q H locs la hG hS hL)
theorem j_if_ge (E : Cx p s m args meth c D z own cc nL ret) {x : Int32} {off : Int} (tgt : Nat) (ht : (pc : Int) + off = (tgt : Int)) (hd : decode cc pc = .ok (.ifCond .ge off, 3)) (kt : 0 ≤ x → J p l e R s m args below meth c D z P k n Q nL tgt ls st) (kf : ¬ 0 ≤ x → J p l e R s m args below meth c D z P k n Q nL (pc + 3) ls st) : J p l e R s m args below meth c D z P k n Q nL pc ls (.int x :: st) :=
  fun H locs la hG hS hL => lv_if_ge E.1 E.2.1 hd ht (fun q => kt q H locs la hG hS hL) (fun q => kf q H locs la hG hS hL)
theorem j_icmp_ge (E : Cx p s m args meth c D z own cc nL ret) {x y : Int32} {off : Int} (tgt : Nat) (ht : (pc : Int) + off = (tgt : Int)) (hd : decode cc pc = .ok (.if_icmp .ge off, 3)) (kt : y ≤ x → J p l e R s m args below meth c D z P k n Q nL tgt ls st) (kf : ¬ y ≤ x → J p l e R s m args below meth c D z P k n Q nL (pc + 3) ls st) : J p l e R s m args below meth c D z P k n Q nL pc ls (.int y :: .int x :: st) :=
  fun H locs la hG hS hL => lv_icmp_ge E.1 E.2.1 hd ht (fun q => kt q H locs la hG hS hL) (fun q => kf q H locs la hG hS hL)
theorem j_if_gt (E : Cx p s m args meth c D z own cc nL ret) {x : Int32} {off : Int} (tgt : Nat) (ht : (pc : Int) + off = (tgt : Int)) (hd : decode cc pc = .ok (.ifCond .gt off, 3)) (kt : 0 < x → J p l e R s m args below meth c D z P k n Q nL tgt ls st) (kf : ¬ 0 < x → J p l e R s m args below meth c D z P k n Q nL (pc + 3) ls st) : J p l e R s m args below meth c D z P k n Q nL pc ls (.int x :: st) :=
  fun H locs la hG hS hL => lv_if_gt E.1 E.2.1 hd ht (fun q => kt q H locs la hG hS hL) (fun q => kf q H locs la hG hS hL)
theorem j_icmp_gt (E : Cx p s m args meth c D z own cc nL ret) {x y : Int32} {off : Int} (tgt : Nat) (ht : (pc : Int) + off = (tgt : Int)) (hd : decode cc pc = .ok (.if_icmp .gt off, 3)) (kt : y < x → J p l e R s m args below meth c D z P k n Q nL tgt ls st) (kf : ¬ y < x → J p l e R s m args below meth c D z P k n Q nL (pc + 3) ls st) : J p l e R s m args below meth c D z P k n Q nL pc ls (.int y :: .int x :: st) :=
  fun H locs la hG hS hL => lv_icmp_gt E.1 E.2.1 hd ht (fun q => kt q H locs la hG hS hL) (fun q => kf q H locs la hG hS hL)
theorem j_if_le (E : Cx p s m args meth c D z own cc nL ret) {x : Int32} {off : Int} (tgt : Nat) (ht : (pc : Int) + off = (tgt : Int)) (hd : decode cc pc = .ok (.ifCond .le off, 3)) (kt : x ≤ 0 → J p l e R s m args below meth c D z P k n Q nL tgt ls st) (kf : ¬ x ≤ 0 → J p l e R s m args below meth c D z P k n Q nL (pc + 3) ls st) : J p l e R s m args below meth c D z P k n Q nL pc ls (.int x :: st) :=
  fun H locs la hG hS hL => lv_if_le E.1 E.2.1 hd ht (fun q => kt q H locs la hG hS hL) (fun q => kf q H locs la hG hS hL)
theorem j_icmp_le (E : Cx p s m args meth c D z own cc nL ret) {x y : Int32} {off : Int} (tgt : Nat) (ht : (pc : Int) + off = (tgt : Int)) (hd : decode cc pc = .ok (.if_icmp .le off, 3)) (kt : x ≤ y → J p l e R s m args below meth c D z P k n Q nL tgt ls st) (kf : ¬ x ≤ y → J p l e R s m args below meth c D z P k n Q nL (pc + 3) ls st) : J p l e R s m args below meth c D z P k n Q nL pc ls (.int y :: .int x :: st) :=
  fun H locs la hG hS hL => lv_icmp_le E.1 E.2.1 hd ht (fun q => kt q H locs la hG hS hL) (fun q => kf q H locs la hG hS hL)
theorem j_goto (E : Cx p s m args meth c D z own cc nL ret) {off : Int} (tgt : Nat) (ht : (pc : Int) + off = (tgt : Int)) (hd : decode cc pc = .ok (.goto off, 3)) (h : J p l e R s m args below meth c D z P k n Q nL tgt ls st) : J p l e R s m args below meth c D z P k n Q nL pc ls st :=
  fun H locs la hG hS hL => lv_goto E.1 E.2.1 hd ht (h H locs la hG hS hL)
theorem j_iret {mc ms : Nat} {ty : FieldType} {v : Int32} (E : Cx p s m args meth c D z own cc nL (some ty)) (hn : narrow ty (.int v) = .int v) (h1 : k ≤ mc) (h2 : n ≤ ms) (hd : decode cc pc = .ok (.ireturn, 1)) : J p l e R s m args below meth c D z P k n (MQ below (QC z (some (.int v)) P) args s mc ms (Az z)) nL pc ls [.int v] :=
  fun H locs la hG hS hL => W.widen h1 h2 (W.zret E.1 E.2.1 E.2.2.2.2.2.2.1 hn (fun t ht hW => ⟨rfl, by rw [ht]; exact hG, hS.F ht⟩) hS.2.2 hd E.2.2.2.2.2.2.2.1)
theorem j_lret {mc ms : Nat}  {v : Int64} (E : Cx p s m args meth c D z own cc nL (some .long)) (h1 : k ≤ mc) (h2 : n ≤ ms) (hd : decode cc pc = .ok (.lreturn, 1)) : J p l e R s m args below meth c D z P k n (MQ below (QC z (some (.long v)) P) args s mc ms (Az z)) nL pc ls [.long v] :=
  fun H locs la hG hS hL => W.widen h1 h2 (W.lret E.1 E.2.1 E.2.2.2.2.2.2.1 (fun t ht hW => ⟨rfl, by rw [ht]; exact hG, hS.F ht⟩) hS.2.2 hd E.2.2.2.2.2.2.2.1)
theorem j_fret {mc ms : Nat}  {v : UInt32} (E : Cx p s m args meth c D z own cc nL (some .float)) (h1 : k ≤ mc) (h2 : n ≤ ms) (hd : decode cc pc = .ok (.freturn, 1)) : J p l e R s m args below meth c D z P k n (MQ below (QC z (some (.float v)) P) args s mc ms (Az z)) nL pc ls [.float v] :=
  fun H locs la hG hS hL => W.widen h1 h2 (W.fret E.1 E.2.1 E.2.2.2.2.2.2.1 (fun t ht hW => ⟨rfl, by rw [ht]; exact hG, hS.F ht⟩) hS.2.2 hd E.2.2.2.2.2.2.2.1)
theorem j_dret {mc ms : Nat}  {v : UInt64} (E : Cx p s m args meth c D z own cc nL (some .double)) (h1 : k ≤ mc) (h2 : n ≤ ms) (hd : decode cc pc = .ok (.dreturn, 1)) : J p l e R s m args below meth c D z P k n (MQ below (QC z (some (.double v)) P) args s mc ms (Az z)) nL pc ls [.double v] :=
  fun H locs la hG hS hL => W.widen h1 h2 (W.dret E.1 E.2.1 E.2.2.2.2.2.2.1 (fun t ht hW => ⟨rfl, by rw [ht]; exact hG, hS.F ht⟩) hS.2.2 hd E.2.2.2.2.2.2.2.1)
theorem j_aret {mc ms a : Nat} {nm : String} (E : Cx p s m args meth c D z own cc nL (some (.object nm))) (h1 : k ≤ mc) (h2 : n ≤ ms) (hd : decode cc pc = .ok (.areturn, 1)) : J p l e R s m args below meth c D z P k n (MQ below (QC z (some (.ref a)) P) args s mc ms (Az z)) nL pc ls [.ref a] :=
  fun H locs la hG hS hL => W.widen h1 h2 (W.aret E.1 E.2.1 E.2.2.2.2.2.2.1 (Or.inl ⟨_, rfl⟩) (Or.inr ⟨_, rfl⟩) (fun t ht hW => ⟨rfl, by rw [ht]; exact hG, hS.F ht⟩) hS.2.2 hd E.2.2.2.2.2.2.2.1)
theorem j_vret {mc ms : Nat} (E : Cx p s m args meth c D z own cc nL none) (h1 : k ≤ mc) (h2 : n ≤ ms) (hd : decode cc pc = .ok (.return_, 1)) : J p l e R s m args below meth c D z P k n (MQ below (QC z none P) args s mc ms (Az z)) nL pc ls [] :=
  fun H locs la hG hS hL => W.widen h1 h2 (W.vret E.1 E.2.1 E.2.2.2.2.2.2.1 (fun t ht hW => ⟨rfl, by rw [ht]; exact hG, hS.F ht⟩) hS.2.2 hd E.2.2.2.2.2.2.2.1)
-- fields and arrays of the class
/-- a class's facts: which of cls it is, its words, its fields' types and names -/
def CF (ci : Nat) (C : String) (T : u_T) (ty : Nat → FieldType) (N : Nat) : Prop := cls[ci]? = some (C, T, N) ∧ (∀ w ∈ u_ws C T N, w ∈ Wall) ∧ (∀ k, k < N → parseFieldDescriptor (T k).2.2.1 = some (ty k)) ∧ (∀ a, a < N → ∀ b, b < N → a ≠ b → (T a).2.1 ≠ (T b).2.1)
theorem at_P {H : Heap} {a : Nat} {e : va_E} (h : va_at (gD D) cls (a, e) H) : va_P (gD D) cls [(a, e)] H := by
  intro k q hk
  match k, hk with
  | 0, hk => cases hk; exact h
  | _ + 1, hk => cases hk
theorem GX.put {X : XT} {H H1 : Heap} {kk j i f : Nat} {v : Int32} (h : GX D z X H) (hok : okX kk j i) (ha : va_at (gD D) cls (z + aX kk j i, entX D z kk j (upd (X kk j i) f v)) H1) (oq : ∀ q : Nat, q ≠ z + aX kk j i → H1[q]? = H[q]?) : GX D z (xs X kk j i f v) H1 := by
  intro k' j' i' hok'
  by_cases hq : k' = kk ∧ j' = j ∧ i' = i
  · obtain ⟨rfl, rfl, rfl⟩ := hq
    rw [xs_key]
    exact ha
  · rw [xs_ne hq]
    refine (h k' j' i' hok').kept (oq _ (fun e => hq ?_))
    exact aX_inj hok' hok (by omega)
theorem GG.putX {Y : YT} {X : XT} {H H1 : Heap} {kk j i f : Nat} {v : Int32} (h : GG D z (X, Y) H) (hok : okX kk j i) (ha : va_at (gD D) cls (z + aX kk j i, entX D z kk j (upd (X kk j i) f v)) H1) (oq : ∀ q : Nat, q ≠ z + aX kk j i → H1[q]? = H[q]?) : GG D z (xs X kk j i f v, Y) H1 :=
  ⟨h.1.put hok ha oq, h.2.1.mv fun q _ h2 => oq q fun e => h2 (by have := ok_lt hok; omega), size_keep h.2.2 (oq _ (by have := ok_lt hok; omega))⟩
theorem GG.X {X : XT} {Y : YT} {H : Heap} {kk j i : Nat} (h : GG D z (X, Y) H) (hok : okX kk j i) : va_at (gD D) cls (z + aX kk j i, entX D z kk j (X kk j i)) H := h.1 kk j i hok
variable {X : XT} {Y : YT}
theorem j_get {kk j i ci C T ty N idx f fs v} (E : Cx p s m args meth c D z own cc nL ret) (hok : okX kk j i) (F : CF ci C T ty N) (w : Cond.fieldLink own idx C (T f).2.1 (T f).2.2.1 ∈ Wall) (hf : f < N) (h0 : (T f).1 = C) (he : entX D z kk j (X kk j i) = .inr (ci, fs)) (hv : fs[f]? = some v) (hd : decode cc pc = .ok (.getfield idx, 3)) (h : J p l e R s m args below meth c D z (GG D z (X, Y)) k n Q nL (pc + 3) ls (v :: st)) : J p l e R s m args below meth c D z (GG D z (X, Y)) k n Q nL pc ls (.ref (z + aX kk j i) :: st) :=
  fun H locs la hG hS hL => va_get (ci := ci) (C := C) (T := T) (N := N) E.1 E.2.1 E.2.2.2.2.1 F.2.1 E.2.2.2.1 E.2.2.2.2.2.1.K (at_P (he ▸ hG.X hok)) 0 rfl F.1 f hf (E.2.2.2.2.1 _ w) (fun _ q => h0 ▸ q) hv hd (h H locs la hG hS hL)
theorem j_getN {kk j i ci C T ty N idx f fs v host} (E : Cx p s m args meth c D z own cc nL ret) (hok : okX kk j i) (F : CF ci C T ty N) (w : Cond.fieldLinkNest own idx C (T f).2.1 (T f).2.2.1 host ∈ NestW) (hf : f < N) (h0 : (T f).1 = C) (he : entX D z kk j (X kk j i) = .inr (ci, fs)) (hv : fs[f]? = some v) (hd : decode cc pc = .ok (.getfield idx, 3)) (h : J p l e R s m args below meth c D z (GG D z (X, Y)) k n Q nL (pc + 3) ls (v :: st)) : J p l e R s m args below meth c D z (GG D z (X, Y)) k n Q nL pc ls (.ref (z + aX kk j i) :: st) :=
  fun H locs la hG hS hL => va_getN (ci := ci) (C := C) (T := T) (N := N) E.1 E.2.1 E.2.2.2.2.1 F.2.1 E.2.2.2.1 E.2.2.2.2.2.1.K (at_P (he ▸ hG.X hok)) 0 rfl F.1 f hf (va_Nw.use rfl (E.2.2.2.2.2.1.N w)) (fun _ q => h0 ▸ q) hv hd (h H locs la hG hS hL)
theorem at_put {H H' : Heap} {a ci N f : Nat} {C : String} {T : u_T} {fs : List Value} {v : Value} (hc : cls[ci]? = some (C, T, N)) (h : va_at (gD D) cls (a, .inr (ci, fs)) H) (hap : ∀ x y, x < N → y < N → x ≠ y → (gD D).2 ci x ≠ (gD D).2 ci y) (hf : f < N) (hl : f < fs.length) {cell : Cell} (hcell : H[a]? = some cell) (e1 : H'[a]? = some (cell.setSlot ((gD D).2 ci f) v)) : va_at (gD D) cls (a, .inr (ci, fs.set f v)) H' := by
  obtain ⟨r, h1, cell', q1, q2, q3, q4⟩ := h
  have hr : r = (C, T, N) := Option.some.inj (h1.symm.trans hc)
  subst hr
  rw [hcell] at q1
  cases q1
  exact ⟨_, hc, t_OB.to (V := updV (vp_V fs) f v) ⟨_, e1, q2, q3, t_set q4 hap hf v⟩ (fun j _ => vp_updV_set hl v j)⟩
/-- putfield of an int cell of the world: what the machine's row needs, and what it gives -/
theorem put_of {H : Heap} {locs : List Loc} {la : Array Slot} {a ci N f idx : Nat} {C : String} {T : u_T} {ty : Nat → FieldType} {fs : List Value} {v : Value} (E : Cx p s m args meth c D z own cc nL ret) (F : CF ci C T ty N) (w : Cond.fieldLink own idx C (T f).2.1 (T f).2.2.1 ∈ Wall) (hf : f < N) (h0 : (T f).1 = C) (hfin : (T f).2.2.2 = false) (hn : narrow (ty f) v = v) (hfit : fits (ty f) v = true) (hl : f < fs.length) (hat : va_at (gD D) cls (a, .inr (ci, fs)) H) (hS : va_S (Az z) s.heap H locs) (hz : z ≤ a) (hd : decode cc pc = .ok (.putfield idx, 3))
    (kk : ∀ (H1 : Heap) (locs1 : List Loc), va_at (gD D) cls (a, .inr (ci, fs.set f v)) H1 → (∀ q : Nat, q ≠ a → H1[q]? = H[q]?) → va_S (Az z) s.heap H1 locs1 → W p l e R s m args below meth c H1 locs1 k n Q (F0 m (pc + 3) la st)) : W p l e R s m args below meth c H locs k n Q (F0 m pc la (v :: .ref a :: st)) := by
  obtain ⟨hx, hb, hml, hown, hts, hB, -⟩ := E
  obtain ⟨hc, hin, hty, hnm⟩ := F
  have hK := hB.K
  have hap := va_apart (own := own) hts hin ty hty hnm hK hc
  obtain ⟨r, h1, cell, q1, q2, q3, q4⟩ := id hat
  have hr : r = (C, T, N) := Option.some.inj (h1.symm.trans hc)
  subst hr
  obtain ⟨hSl, hfc, kC, hkC, hkind⟩ := hK.1 ci _ hc
  obtain ⟨cf, kf, fi, fd, hi, hsl⟩ := hSl f hf
  have hlay := hts _ (hin _ (u_in_lay hf))
  unfold u_lay at hlay
  rw [if_neg (by rw [hfin]; decide)] at hlay
  have hst := (u_facts hfc hkC (u_lays hts hin hf) hi).1
  have h6 := u_store hfc hkC hkind hlay hi (hty f hf) hn hfit
  refine W.putK hx hb (f := fd) ⟨hown, hts _ w, ⟨_, _, _, h0 ▸ hi⟩, hst⟩ (by rw [q2]; exact h6) q1 q3 (by rw [hsl]; exact k2_hasslot (q4 f hf)) rfl rfl hd fun H' e1 e2 e3 => ?_
  rw [hsl] at e1 ⊢
  exact kk H' _ (at_put hc hat hap hf hl q1 e1) e3 (hS.put e2 e3 hz)
theorem putN_of {H : Heap} {locs : List Loc} {la : Array Slot} {a ci N f idx : Nat} {C host : String} {T : u_T} {ty : Nat → FieldType} {fs : List Value} {v : Value} (E : Cx p s m args meth c D z own cc nL ret) (F : CF ci C T ty N) (w : Cond.fieldLinkNest own idx C (T f).2.1 (T f).2.2.1 host ∈ NestW) (hf : f < N) (h0 : (T f).1 = C) (hfin : (T f).2.2.2 = false) (hn : narrow (ty f) v = v) (hfit : fits (ty f) v = true) (hl : f < fs.length) (hat : va_at (gD D) cls (a, .inr (ci, fs)) H) (hS : va_S (Az z) s.heap H locs) (hz : z ≤ a) (hd : decode cc pc = .ok (.putfield idx, 3))
    (kk : ∀ (H1 : Heap) (locs1 : List Loc), va_at (gD D) cls (a, .inr (ci, fs.set f v)) H1 → (∀ q : Nat, q ≠ a → H1[q]? = H[q]?) → va_S (Az z) s.heap H1 locs1 → W p l e R s m args below meth c H1 locs1 k n Q (F0 m (pc + 3) la st)) : W p l e R s m args below meth c H locs k n Q (F0 m pc la (v :: .ref a :: st)) := by
  obtain ⟨hx, hb, hml, hown, hts, hB, -⟩ := E
  obtain ⟨hc, hin, hty, hnm⟩ := F
  have hK := hB.K
  have hap := va_apart (own := own) hts hin ty hty hnm hK hc
  obtain ⟨r, h1, cell, q1, q2, q3, q4⟩ := id hat
  have hr : r = (C, T, N) := Option.some.inj (h1.symm.trans hc)
  subst hr
  obtain ⟨hSl, hfc, kC, hkC, hkind⟩ := hK.1 ci _ hc
  obtain ⟨cf, kf, fi, fd, hi, hsl⟩ := hSl f hf
  have hlay := hts _ (hin _ (u_in_lay hf))
  unfold u_lay at hlay
  rw [if_neg (by rw [hfin]; decide)] at hlay
  have hst := (u_facts hfc hkC (u_lays hts hin hf) hi).1
  have h6 := u_store hfc hkC hkind hlay hi (hty f hf) hn hfit
  refine va_WputK hx hb (f := fd) hown (va_Nw.use rfl (hB.N w)) (h0 ▸ hi) hst (by rw [q2]; exact h6) q1 q3 (by rw [hsl]; exact k2_hasslot (q4 f hf)) rfl rfl hd fun H' e1 e2 e3 => ?_
  rw [hsl] at e1 ⊢
  exact kk H' _ (at_put hc hat hap hf hl q1 e1) e3 (hS.put e2 e3 hz)
theorem fit_i (v : Int32) : narrow .int (.int v) = .int v ∧ fits .int (.int v) = true := ⟨rfl, rfl⟩
theorem j_put {kk j i ci C T ty N idx f fs v X'} (E : Cx p s m args meth c D z own cc nL ret) (hok : okX kk j i) (F : CF ci C T ty N) (w : Cond.fieldLink own idx C (T f).2.1 (T f).2.2.1 ∈ Wall) (hf : f < N) (h0 : (T f).1 = C ∧ (T f).2.2.2 = false) (hn : narrow (ty f) (.int v) = .int v ∧ fits (ty f) (.int v) = true) (he : entX D z kk j (X kk j i) = .inr (ci, fs)) (he' : entX D z kk j (upd (X kk j i) f v) = .inr (ci, fs.set f (.int v))) (hl : f < fs.length) (hX : X' = xs X kk j i f v) (hd : decode cc pc = .ok (.putfield idx, 3)) (h : J p l e R s m args below meth c D z (GG D z (X', Y)) k n Q nL (pc + 3) ls st) : J p l e R s m args below meth c D z (GG D z (X, Y)) k n Q nL pc ls (.int v :: .ref (z + aX kk j i) :: st) := by
  subst hX
  intro H locs la hG hS hL
  exact put_of E F w hf h0.1 h0.2 hn.1 hn.2 hl (he ▸ hG.X hok) hS (Nat.le_add_right _ _) hd fun H1 locs1 hat oq hS1 => h H1 locs1 la (hG.putX hok (he'.symm ▸ hat) oq) hS1 hL
theorem j_putN {kk j i ci C T ty N idx f fs v X' host} (E : Cx p s m args meth c D z own cc nL ret) (hok : okX kk j i) (F : CF ci C T ty N) (w : Cond.fieldLinkNest own idx C (T f).2.1 (T f).2.2.1 host ∈ NestW) (hf : f < N) (h0 : (T f).1 = C ∧ (T f).2.2.2 = false) (hn : narrow (ty f) (.int v) = .int v ∧ fits (ty f) (.int v) = true) (he : entX D z kk j (X kk j i) = .inr (ci, fs)) (he' : entX D z kk j (upd (X kk j i) f v) = .inr (ci, fs.set f (.int v))) (hl : f < fs.length) (hX : X' = xs X kk j i f v) (hd : decode cc pc = .ok (.putfield idx, 3)) (h : J p l e R s m args below meth c D z (GG D z (X', Y)) k n Q nL (pc + 3) ls st) : J p l e R s m args below meth c D z (GG D z (X, Y)) k n Q nL pc ls (.int v :: .ref (z + aX kk j i) :: st) := by
  subst hX
  intro H locs la hG hS hL
  exact putN_of E F w hf h0.1 h0.2 hn.1 hn.2 hl (he ▸ hG.X hok) hS (Nat.le_add_right _ _) hd fun H1 locs1 hat oq hS1 => h H1 locs1 la (hG.putX hok (he'.symm ▸ hat) oq) hS1 hL
theorem in_cl {q : Int32} {N : Nat} (h : vp_in q N) : q.toNatClampNeg < N := Nat.not_le.mp fun x => h (Or.inr x)
theorem at_E {H : Heap} {a : Nat} {e e' : va_E} (he : e = e') (h : va_at (gD D) cls (a, e) H) : va_P (gD D) cls [(a, e')] H := by
  subst he
  exact at_P h
theorem j_iald {kk j i N q} (E : Cx p s m args meth c D z own cc nL ret) (hok : okX kk j i) (he : entX D z kk j (X kk j i) = aint D 0 N (X kk j i)) (hin : vp_in q N) (t : Nat) (ht : q.toNatClampNeg = t) (hd : decode cc pc = .ok (.iaload, 1)) (h : J p l e R s m args below meth c D z (GG D z (X, Y)) k n Q nL (pc + 1) ls (.int (X kk j i t) :: st)) : J p l e R s m args below meth c D z (GG D z (X, Y)) k n Q nL pc ls (.int q :: .ref (z + aX kk j i) :: st) := by
  subst ht
  exact fun H locs la hG hS hL => va_iald (tys := tysD D) (cA := D.2.2.1 0) (n := N) (f := X kk j i) E.1 E.2.1 E.2.2.2.2.2.1.K (at_E he (hG.X hok)) 0 0 rfl rfl hin hd (h H locs la hG hS hL)
theorem j_bald {kk j i N q} (E : Cx p s m args meth c D z own cc nL ret) (hok : okX kk j i) (he : entX D z kk j (X kk j i) = aint D 1 N (X kk j i)) (hin : vp_in q N) (t : Nat) (ht : q.toNatClampNeg = t) (hd : decode cc pc = .ok (.baload, 1)) (h : J p l e R s m args below meth c D z (GG D z (X, Y)) k n Q nL (pc + 1) ls (.int (X kk j i t) :: st)) : J p l e R s m args below meth c D z (GG D z (X, Y)) k n Q nL pc ls (.int q :: .ref (z + aX kk j i) :: st) := by
  subst ht
  exact fun H locs la hG hS hL => va_bald (tys := tysD D) (cA := D.2.2.1 1) (n := N) (f := X kk j i) E.1 E.2.1 E.2.2.2.2.2.1.K (at_E he (hG.X hok)) 0 1 rfl rfl hin hd (h H locs la hG hS hL)
theorem j_zald {kk j i N q} (E : Cx p s m args meth c D z own cc nL ret) (hok : okX kk j i) (he : entX D z kk j (X kk j i) = aint D 3 N (X kk j i)) (hin : vp_in q N) (t : Nat) (ht : q.toNatClampNeg = t) (hd : decode cc pc = .ok (.baload, 1)) (h : J p l e R s m args below meth c D z (GG D z (X, Y)) k n Q nL (pc + 1) ls (.int (X kk j i t) :: st)) : J p l e R s m args below meth c D z (GG D z (X, Y)) k n Q nL pc ls (.int q :: .ref (z + aX kk j i) :: st) := by
  subst ht
  exact fun H locs la hG hS hL => va_zald (tys := tysD D) (cA := D.2.2.1 3) (n := N) (f := X kk j i) E.1 E.2.1 E.2.2.2.2.2.1.K (at_E he (hG.X hok)) 0 3 rfl rfl hin hd (h H locs la hG hS hL)
theorem j_aald {kk j i t N C q} {f : Nat → Nat} (E : Cx p s m args meth c D z own cc nL ret) (hok : okX kk j i) (he : entX D z kk j (X kk j i) = aref D t N f) (ht : (tysD D)[t]? = some (D.2.2.1 t, .object C)) (hin : vp_in q N) (hd : decode cc pc = .ok (.aaload, 1)) (h : J p l e R s m args below meth c D z (GG D z (X, Y)) k n Q nL (pc + 1) ls (.ref (f q.toNatClampNeg) :: st)) : J p l e R s m args below meth c D z (GG D z (X, Y)) k n Q nL pc ls (.int q :: .ref (z + aX kk j i) :: st) :=
  fun H locs la hG hS hL => va_aldq (tys := tysD D) (C := C) (cA := D.2.2.1 t) (n := N) (f := fun q => some (f q)) E.1 E.2.1 E.2.2.2.2.2.1.K (at_E he (hG.X hok)) 0 t rfl ht hin hd (h H locs la hG hS hL)
/-- a store into an int array, whichever row of the machine gives it -/
theorem arr_upd {cA : ClassId} {N : Nat} {f : Nat → Int32} {q : Nat} {v : Int32} : (vp_cell cA (N, .inl f)).setSlot q (.int v) = vp_cell cA (N, .inl (upd f q v)) := by
  rw [vp_cell_i, vp_cell_i, arrV_store]
  congr 2
  funext q'
  by_cases hq : q' = q
  · subst hq
    simp [updV, upd]
  · simp [updV, upd, hq]
theorem j_iast {kk j i N q v X'} (E : Cx p s m args meth c D z own cc nL ret) (hok : okX kk j i) (he : ∀ x, entX D z kk j x = aint D 0 N x) (hin : vp_in q N) (t : Nat) (ht : q.toNatClampNeg = t) (hX : X' = xs X kk j i t v) (hd : decode cc pc = .ok (.iastore, 1)) (h : J p l e R s m args below meth c D z (GG D z (X', Y)) k n Q nL (pc + 1) ls st) : J p l e R s m args below meth c D z (GG D z (X, Y)) k n Q nL pc ls (.int v :: .int q :: .ref (z + aX kk j i) :: st) := by
  subst ht
  subst hX
  intro H locs la hG hS hL
  have hat := hG.X hok
  rw [he] at hat
  refine W.iast E.1 E.2.1 hat ((E.2.2.2.2.2.1.K.2 0 _ rfl).1 N (fun j0 => .int (X kk j i j0))) (fun q => by cases q) (by show ¬ (q < 0 ∨ (arrV _ _ _).slots.size ≤ _); rw [arrV_size]; exact hin) rfl rfl hd fun H1 e1 e2 oq => ?_
  refine h H1 _ la (hG.putX hok ?_ oq) (hS.put e2 oq (Nat.le_add_right _ _)) hL
  rw [he]
  exact e1.trans (congrArg some arr_upd)
theorem j_bast {kk j i N q v X'} (E : Cx p s m args meth c D z own cc nL ret) (hok : okX kk j i) (he : ∀ x, entX D z kk j x = aint D 1 N x) (hin : vp_in q N) (t : Nat) (ht : q.toNatClampNeg = t) (hX : X' = xs X kk j i t v.toInt8.toInt32) (hd : decode cc pc = .ok (.bastore, 1)) (h : J p l e R s m args below meth c D z (GG D z (X', Y)) k n Q nL (pc + 1) ls st) : J p l e R s m args below meth c D z (GG D z (X, Y)) k n Q nL pc ls (.int v :: .int q :: .ref (z + aX kk j i) :: st) := by
  subst ht
  subst hX
  intro H locs la hG hS hL
  have hat := hG.X hok
  rw [he] at hat
  refine W.bast E.1 E.2.1 hat ((E.2.2.2.2.2.1.K.2 1 _ rfl).1 N (fun j0 => .int (X kk j i j0))) (fun q => by cases q) (by show ¬ (q < 0 ∨ (arrV _ _ _).slots.size ≤ _); rw [arrV_size]; exact hin) rfl rfl hd fun H1 e1 e2 oq => ?_
  refine h H1 _ la (hG.putX hok ?_ oq) (hS.put e2 oq (Nat.le_add_right _ _)) hL
  rw [he]
  exact e1.trans (congrArg some arr_upd)
theorem j_zast {kk j i N q v X'} (E : Cx p s m args meth c D z own cc nL ret) (hok : okX kk j i) (he : ∀ x, entX D z kk j x = aint D 3 N x) (hin : vp_in q N) (t : Nat) (ht : q.toNatClampNeg = t) (hn : narrow .boolean (.int v) = .int v) (hX : X' = xs X kk j i t v) (hd : decode cc pc = .ok (.bastore, 1)) (h : J p l e R s m args below meth c D z (GG D z (X', Y)) k n Q nL (pc + 1) ls st) : J p l e R s m args below meth c D z (GG D z (X, Y)) k n Q nL pc ls (.int v :: .int q :: .ref (z + aX kk j i) :: st) := by
  subst ht
  subst hX
  intro H locs la hG hS hL
  have hat := hG.X hok
  rw [he] at hat
  refine W.zast E.1 E.2.1 hat ((E.2.2.2.2.2.1.K.2 3 _ rfl).1 N (fun j0 => .int (X kk j i j0))) (fun q => by cases q) (by show ¬ (q < 0 ∨ (arrV _ _ _).slots.size ≤ _); rw [arrV_size]; exact hin) rfl rfl hd fun H1 e1 e2 oq => ?_
  refine h H1 _ la (hG.putX hok ?_ oq) (hS.put e2 oq (Nat.le_add_right _ _)) hL
  rw [he]
  rw [hn] at e1
  exact e1.trans (congrArg some arr_upd)
end JV
section JM
variable {p : Program} {l : Launch} {e : Env} {R : Room} {s : State} {m : MethodId} {args : Array Value} {below : List Frame} {meth : Method} {c : Code} {D : DD} {z : Nat} {own : String} {cc : ByteArray} {nL : Nat} {ret : Option FieldType} {P P' : Heap → Prop} {k n : Nat} {Q : State → Prop} {pc : Nat} {ls ls' : List (Nat × Value)} {st st0 : List Value} {X : XT}
-- calls
/-- the cell at b is an object of class C -/
def RC (D : DD) (P : Heap → Prop) (C : String) (b : Nat) : Prop := ∀ H, P H → ∃ (ci : Nat) (q : vw_C) (fs : List Value), cls[ci]? = some q ∧ q.1 = C ∧ va_at (gD D) cls (b, .inr (ci, fs)) H
theorem rcX {Y : YT} {kk j i ci : Nat} {C : String} {T : u_T} {ty : Nat → FieldType} {N : Nat} {fs : List Value} (hok : okX kk j i) (F : CF ci C T ty N) (he : entX D z kk j (X kk j i) = .inr (ci, fs)) : RC D (GG D z (X, Y)) C (z + aX kk j i) := fun H hG => ⟨ci, _, fs, F.1, rfl, he ▸ hG.X hok⟩
/-- a method that is called by a name: its words -/
def MV (y : MethodName) (code : ByteArray) (maxL : Nat) (rt : Option FieldType) (C : String) (n0 : Nat) : Prop := Cond.instanceMethod y ∈ Wall ∧ Cond.selects C y y ∈ Wall ∧ Cond.initialized C ∈ Wall ∧ Cond.code y code maxL rt ∈ Wall ∧ y.cls = C ∧ y.cls ≠ "java/lang/invoke/MethodHandle" ∧ y.cls ≠ "java/lang/invoke/VarHandle" ∧ (parseMethodDescriptor y.desc).map (fun d => d.parameters.length) = some n0
def MS (y : MethodName) (code : ByteArray) (maxL : Nat) (rt : Option FieldType) (C : String) (n0 : Nat) : Prop := Cond.static y ∈ Wall ∧ Cond.initialized C ∈ Wall ∧ Cond.code y code maxL rt ∈ Wall ∧ y.cls = C ∧ y.cls ≠ "java/lang/invoke/MethodHandle" ∧ y.cls ≠ "java/lang/invoke/VarHandle" ∧ (parseMethodDescriptor y.desc).map (fun d => d.parameters.length) = some n0
theorem gw_code {y : MethodName} {code : ByteArray} {maxL : Nat} {rt : Option FieldType} (h : Cond.code y code maxL rt ∈ Wall) : GoodIn Wall (Cond.code y code maxL rt :: Wall) := by
  intro w hw
  rcases List.mem_cons.mp hw with rfl | hw
  · exact ⟨h, wall_good _ h⟩
  · exact ⟨hw, wall_good _ hw⟩
theorem blind (a : List Value) (P : Heap → Prop) : FrameBlind (va_Pc a (fun U => P U.heap ∧ BK D z U ∧ z ≤ U.heap.size)) := by
  intro a' U g mk h
  obtain ⟨h1, h2, h3, h4⟩ := h
  exact ⟨h1, h2, h3.same rfl rfl, h4⟩
theorem j_run {mc ms : Nat} {v : Option Value} {st1 : List Value} (hst1 : v.toList ++ st = st1) (hr : ∀ (H : Heap) (locs : List Loc) (la : Array Slot), P H → va_S (Az z) s.heap H locs → lv_has la nL ls → ∃ a, va_Run p l e R s m args below meth c H locs k n mc ms (F0 m pc la st0) st (QC z v P' a) (Az z)) (h : J p l e R s m args below meth c D z P' (k + mc) (n + ms) Q nL (pc + 3) ls st1) : J p l e R s m args below meth c D z P k n Q nL pc ls st0 := by
  subst hst1
  intro H locs la hG hS hL T hT X
  obtain ⟨a, hr⟩ := hr H locs la hG hS hL
  obtain ⟨v', st₀, t, T', L, h0, X', hLf, e1, e2, ⟨hv, hG', hz, hk⟩, stp⟩ := hr T hT X
  cases hv
  rw [h0] at hz hk
  obtain ⟨t2, a1, b1⟩ := h T'.heap (locs ++ L) la (by rw [e1]; exact hG') ⟨Nat.le_trans hS.1 (by rw [e1]; exact hz), fun q h1 h2 => by rw [e1, hk q (Nat.lt_of_lt_of_le h1 hS.1) h2]; exact hS.2.1 q h1 h2, fun q hq => by
      rcases List.mem_append.mp hq with h | h
      · exact hS.2.2 q h
      · exact hLf q h⟩ hL T' rfl X'
  exact ⟨t2, stp t2 a1, b1⟩
/-- the background at a callee's start -/
theorem bk_at {H : Heap} {locs : List Loc} {U : State} (h : BK D z s) (hW : s.WarmedH U.vm) (hS : va_S (Az z) s.heap H locs) (hU : U.heap = H) : BK D z U := h.go hW fun a h1 h2 => by rw [hU]; exact hS.2.1 a h1 h2
theorem j_invV {y : MethodName} {code : ByteArray} {maxL n0 idx b : Nat} {rt : Option FieldType} {rm : Room} {As : List Value} {v : Option Value} {C : String} (st : List Value) (st1 : List Value) (E : Cx p s m args meth c D z own cc nL ret) (hM : CC l y code maxL rt rm D z (.ref b :: As) P v P') (w1 : Cond.methodLink own idx y ∈ Wall) (w : MV y code maxL rt C n0) (hn : As.length = n0) (hR : rm.frames + 1 ≤ R.frames ∧ 8 + (maxL + 11) + rm.locals ≤ R.locals) (hrec : RC D P C b) (hst : st0 = As.reverse ++ .ref b :: st) (hst1 : v.toList ++ st = st1) (hcat : (st.map fun v => v.category).sum ≤ 8) (hf : k + rm.cells ≤ R.cells ∧ n + rm.slots ≤ R.slots) (hd : decode cc pc = .ok (.invokevirtual idx, 3)) (h : J p l e R s m args below meth c D z P' (k + rm.cells) (n + rm.slots) Q nL (pc + 3) ls st1) : J p l e R s m args below meth c D z P k n Q nL pc ls st0 := by
  refine j_run hst1 (fun H locs la hG hS hL => ⟨_, va_runV (Ts := Wall) (As := As) (rest := st) ⟨E.1, E.2.1, E.2.2.1, E.2.2.2.1, E.2.2.2.2.1⟩ hM (cwV n0 E.2.2.2.2.1 ?_ rfl rfl rfl ⟨w.2.2.2.2.1, w.2.2.2.2.2⟩ hR) ⟨blind _ _, ?_, fun U hU hW => ⟨rfl, by rw [hU]; exact hG, bk_at E.2.2.2.2.2.1 hW hS hU, by rw [hU]; exact Nat.le_trans E.2.2.2.2.2.2.2.2 hS.1⟩⟩ rfl hn hL.1 hst (lv_room (rest := st0) hcat) hd hf⟩) h
  · intro q hq
    have hgood : ∀ q, q ∈ Wall → q ∈ Wall ∧ ((q.onTables && q.keeps) = true ∨ ∃ ty, q = .arrayClass ty) := fun q hq => ⟨hq, wall_good _ hq⟩
    rcases List.mem_append.mp hq with hq | hq
    · simp only [List.mem_cons, List.not_mem_nil, or_false] at hq
      rcases hq with rfl | rfl | rfl | rfl
      · exact hgood _ w1
      · exact hgood _ w.1
      · exact hgood _ w.2.1
      · exact hgood _ w.2.2.1
    · exact gw_code w.2.2.2.1 q hq
  · obtain ⟨ci, q, fs, h1, h2, h3⟩ := hrec H hG
    have := va_recv (q0 := 0) E.2.2.2.2.2.1.K (at_P h3) h1 rfl
    rw [h2] at this
    exact this
theorem j_invS {y : MethodName} {code : ByteArray} {maxL n0 idx : Nat} {rt : Option FieldType} {rm : Room} {As : List Value} {v : Option Value} (st : List Value) (st1 : List Value) (E : Cx p s m args meth c D z own cc nL ret) (hM : CC l y code maxL rt rm D z As P v P') (w1 : Cond.methodLink own idx y ∈ Wall) (w : MS y code maxL rt own n0) (hn : As.length = n0) (hR : rm.frames + 1 ≤ R.frames ∧ 8 + (maxL + 11) + rm.locals ≤ R.locals) (hst : st0 = As.reverse ++ st) (hst1 : v.toList ++ st = st1) (hcat : (st.map fun v => v.category).sum ≤ 8) (hf : k + rm.cells ≤ R.cells ∧ n + rm.slots ≤ R.slots) (hd : decode cc pc = .ok (.invokestatic idx, 3)) (h : J p l e R s m args below meth c D z P' (k + rm.cells) (n + rm.slots) Q nL (pc + 3) ls st1) : J p l e R s m args below meth c D z P k n Q nL pc ls st0 := by
  refine j_run hst1 (fun H locs la hG hS hL => ⟨_, va_runS (Ts := Wall) (As := As) (rest := st) ⟨E.1, E.2.1, E.2.2.1, E.2.2.2.1, E.2.2.2.2.1⟩ hM (cwS n0 E.2.2.2.2.1 ?_ rfl rfl rfl ⟨w.2.2.2.1, w.2.2.2.2⟩ hR) ⟨blind _ _, fun U hU hW => ⟨rfl, by rw [hU]; exact hG, bk_at E.2.2.2.2.2.1 hW hS hU, by rw [hU]; exact Nat.le_trans E.2.2.2.2.2.2.2.2 hS.1⟩⟩ rfl hn hL.1 hst (lv_room (rest := st0) hcat) hd hf⟩) h
  intro q hq
  have hgood : ∀ q, q ∈ Wall → q ∈ Wall ∧ ((q.onTables && q.keeps) = true ∨ ∃ ty, q = .arrayClass ty) := fun q hq => ⟨hq, wall_good _ hq⟩
  rcases List.mem_append.mp hq with hq | hq
  · simp only [List.mem_cons, List.not_mem_nil, or_false] at hq
    rcases hq with rfl | rfl | rfl
    · exact hgood _ w1
    · exact hgood _ w.1
    · exact hgood _ w.2.1
  · exact gw_code w.2.2.1 q hq
theorem j_max {x y : Int32} {idx : Nat} (st : List Value) (E : Cx p s m args meth c D z own cc nL ret) (w1 : Cond.methodLink own idx Lib.Math.max.name ∈ Wall) (w2 : Cond.static Lib.Math.max.name ∈ Wall) (w3 : Cond.initialized "java/lang/Math" ∈ Wall) (w4 : Cond.code Lib.Math.max.name Lib.Math.max.code 2 (some .int) ∈ Wall) (hfr : 1 ≤ R.frames) (hlo : (st.map fun v => v.category).sum + 13 ≤ R.locals) (hk : k ≤ R.cells) (hn : n ≤ R.slots) (hd : decode cc pc = .ok (.invokestatic idx, 3)) (h : J p l e R s m args below meth c D z P k n Q nL (pc + 3) ls (.int (if x < y then y else x) :: st)) : J p l e R s m args below meth c D z P k n Q nL pc ls (.int y :: .int x :: st) :=
  fun H locs la hG hS hL => va_mmax E.1 E.2.1 (E.2.2.1.trans hL.1.symm) E.2.2.2.1 (E.2.2.2.2.1 _ w1) (E.2.2.2.2.1 _ w2) (E.2.2.2.2.1 _ w3) (E.2.2.2.2.1 _ w4) hfr hlo hk hn hd (h H locs la hG hS hL)
theorem j_min {x y : Int32} {idx : Nat} (st : List Value) (E : Cx p s m args meth c D z own cc nL ret) (w1 : Cond.methodLink own idx Lib.Math.min.name ∈ Wall) (w2 : Cond.static Lib.Math.min.name ∈ Wall) (w3 : Cond.initialized "java/lang/Math" ∈ Wall) (w4 : Cond.code Lib.Math.min.name Lib.Math.min.code 2 (some .int) ∈ Wall) (hfr : 1 ≤ R.frames) (hlo : (st.map fun v => v.category).sum + 13 ≤ R.locals) (hk : k ≤ R.cells) (hn : n ≤ R.slots) (hd : decode cc pc = .ok (.invokestatic idx, 3)) (h : J p l e R s m args below meth c D z P k n Q nL (pc + 3) ls (.int (if y < x then y else x) :: st)) : J p l e R s m args below meth c D z P k n Q nL pc ls (.int y :: .int x :: st) :=
  fun H locs la hG hS hL => va_mmin E.1 E.2.1 (E.2.2.1.trans hL.1.symm) E.2.2.2.1 (E.2.2.2.2.1 _ w1) (E.2.2.2.2.1 _ w2) (E.2.2.2.2.1 _ w3) (E.2.2.2.2.1 _ w4) hfr hlo hk hn hd (h H locs la hG hS hL)
theorem j_name {v w : Int32} (h : w = v) (hJ : J p l e R s m args below meth c D z P k n Q nL pc ls (.int w :: st)) : J p l e R s m args below meth c D z P k n Q nL pc ls (.int v :: st) := h ▸ hJ
theorem j_namel {v w : Int64} (h : w = v) (hJ : J p l e R s m args below meth c D z P k n Q nL pc ls (.long w :: st)) : J p l e R s m args below meth c D z P k n Q nL pc ls (.long v :: st) := h ▸ hJ
end JM
section JS
variable {p : Program} {l : Launch} {e : Env} {R : Room} {s : State} {m : MethodId} {args : Array Value} {below : List Frame} {meth : Method} {c : Code} {D : DD} {z : Nat} {own : String} {cc : ByteArray} {nL : Nat} {ret : Option FieldType} {P P' : Heap → Prop} {k n : Nat} {Q : State → Prop} {pc : Nat} {ls ls' : List (Nat × Value)} {st st0 : List Value} {X X' : XT} {Y : YT}
-- String constants
theorem BK.St {U : State} (h : BK D z U) : vk_S 31 strN strB D.2.2.2.1 D.2.2.2.2.1 (Az z) U U.heap := h.2.2.2.2.1
theorem BK.Cs {U : State} (h : BK D z U) : va_Z "java/lang/String" "COMPACT_STRINGS" "Z" (.int 1) (Az z) U U.heap := h.2.2.2.2.2.2.2.1
theorem BK.Pf {U : State} (h : BK D z U) : va_Zq "jdk/internal/util/Preconditions" "SIOOBE_FORMATTER" "Ljava/util/function/BiFunction;" (Az z) U U.heap := h.2.2.2.2.2.2.2.2.1
theorem j_ldcS {i t : Nat} {tx : String} (E : Cx p s m args meth c D z own cc nL ret) (h1 : (own, i, tx) ∈ strL) (h2 : (own, i, t) ∈ strC) (hd : decode cc pc = .ok (.ldc i, 2)) (h : J p l e R s m args below meth c D z P k n Q nL (pc + 2) ls (.ref (D.2.2.2.1 t) :: st)) : J p l e R s m args below meth c D z P k n Q nL pc ls st := by
  intro H locs la hG hS hL
  have hB := E.2.2.2.2.2.1
  refine va_ldcS E.1 E.2.1 E.2.2.2.1 (hB.2.2.1 _ h1) hd ?_
  rw [hB.2.2.2.1 _ h2]
  exact h H locs la hG hS hL
theorem j_getSv {t idx : Nat} (E : Cx p s m args meth c D z own cc nL ret) (ht : t < 31) (w : Cond.fieldLink own idx RJ0 "value" "[B" ∈ Wall) (hd : decode cc pc = .ok (.getfield idx, 3)) (h : J p l e R s m args below meth c D z P k n Q nL (pc + 3) ls (.ref (D.2.2.2.2.1 t) :: st)) : J p l e R s m args below meth c D z P k n Q nL pc ls (.ref (D.2.2.2.1 t) :: st) :=
  fun H locs la hG hS hL => vk_getf E.1 E.2.1 ((E.2.2.2.2.2.1.St.1 t ht).2.2.1) hS E.2.2.2.1 (E.2.2.2.2.1 _ w) (fun _ q => q) hd (h H locs la hG hS hL)
theorem j_getSc {t idx : Nat} (E : Cx p s m args meth c D z own cc nL ret) (ht : t < 31) (w : Cond.fieldLink own idx RJ0 "coder" "B" ∈ Wall) (hd : decode cc pc = .ok (.getfield idx, 3)) (h : J p l e R s m args below meth c D z P k n Q nL (pc + 3) ls (.int 0 :: st)) : J p l e R s m args below meth c D z P k n Q nL pc ls (.ref (D.2.2.2.1 t) :: st) :=
  fun H locs la hG hS hL => vk_getf E.1 E.2.1 ((E.2.2.2.2.2.1.St.1 t ht).2.1) hS E.2.2.2.1 (E.2.2.2.2.1 _ w) (fun _ q => q) hd (h H locs la hG hS hL)
theorem j_slen {t : Nat} {v : Int32} (E : Cx p s m args meth c D z own cc nL ret) (ht : t < 31) (hv : Int32.ofNat (strN.getD t 0) = v) (hd : decode cc pc = .ok (.arraylength, 1)) (h : J p l e R s m args below meth c D z P k n Q nL (pc + 1) ls (.int v :: st)) : J p l e R s m args below meth c D z P k n Q nL pc ls (.ref (D.2.2.2.2.1 t) :: st) :=
  fun H locs la hG hS hL => va_tlen E.1 E.2.1 ((E.2.2.2.2.2.1.St.1 t ht).2.2.2) hS hv hd (h H locs la hG hS hL)
theorem j_sbald {t : Nat} {i : Int32} (E : Cx p s m args meth c D z own cc nL ret) (ht : t < 31) (hin : vp_in i (strN.getD t 0)) (hd : decode cc pc = .ok (.baload, 1)) (h : J p l e R s m args below meth c D z P k n Q nL (pc + 1) ls (.int ((strB.getD t []).getD i.toNatClampNeg 0) :: st)) : J p l e R s m args below meth c D z P k n Q nL pc ls (.int i :: .ref (D.2.2.2.2.1 t) :: st) :=
  fun H locs la hG hS hL => va_tb E.1 E.2.1 ((E.2.2.2.2.2.1.St.1 t ht).2.2.2) hS hin rfl hd (h H locs la hG hS hL)
theorem j_gets {C nm ds : String} {v : Value} {idx : Nat} (E : Cx p s m args meth c D z own cc nL ret) (hZ : va_Z C nm ds v (Az z) s s.heap) (w : Cond.fieldLink own idx C nm ds ∈ Wall) (hd : decode cc pc = .ok (.getstatic idx, 3)) (h : J p l e R s m args below meth c D z P k n Q nL (pc + 3) ls (v :: st)) : J p l e R s m args below meth c D z P k n Q nL pc ls st :=
  fun H locs la hG hS hL => va_gets E.1 E.2.1 hZ hS E.2.2.2.1 (E.2.2.2.2.1 _ w) (fun _ q => q) hd (h H locs la hG hS hL)
theorem va_tyz (q : Int32) : narrow .boolean (.int q) = .int (q &&& 1) := rfl
theorem j_run2 {mc ms : Nat} {v : Option Value} {st1 : List Value} (hst1 : v.toList ++ st = st1) (hr : ∀ (H : Heap) (locs : List Loc) (la : Array Slot), P H → va_S (Az z) s.heap H locs → lv_has la nL ls → ∃ a, va_Run p l e R s m args below meth c H locs k n mc ms (F0 m pc la st0) st (QC z v P' a) (Az z)) (h : J p l e R s m args below meth c D z P' (k + mc) (n + ms) Q nL (pc + 3) ls st1) : J p l e R s m args below meth c D z P k n Q nL pc ls st0 := j_run hst1 hr h
theorem j_invVs {y : MethodName} {code : ByteArray} {maxL n0 idx t : Nat} {rt : Option FieldType} {rm : Room} {As : List Value} {v : Option Value} (st : List Value) (st1 : List Value) (E : Cx p s m args meth c D z own cc nL ret) (ht : t < 31) (hM : CC l y code maxL rt rm D z (.ref (D.2.2.2.1 t) :: As) P v P') (w1 : Cond.methodLink own idx y ∈ Wall) (w : MV y code maxL rt RJ0 n0) (hn : As.length = n0) (hR : rm.frames + 1 ≤ R.frames ∧ 8 + (maxL + 11) + rm.locals ≤ R.locals) (hst : st0 = As.reverse ++ .ref (D.2.2.2.1 t) :: st) (hst1 : v.toList ++ st = st1) (hcat : (st.map fun v => v.category).sum ≤ 8) (hf : k + rm.cells ≤ R.cells ∧ n + rm.slots ≤ R.slots) (hd : decode cc pc = .ok (.invokevirtual idx, 3)) (h : J p l e R s m args below meth c D z P' (k + rm.cells) (n + rm.slots) Q nL (pc + 3) ls st1) : J p l e R s m args below meth c D z P k n Q nL pc ls st0 := by
  refine j_run hst1 (fun H locs la hG hS hL => ⟨_, va_runV (Ts := Wall) (As := As) (rest := st) ⟨E.1, E.2.1, E.2.2.1, E.2.2.2.1, E.2.2.2.2.1⟩ hM (cwV n0 E.2.2.2.2.1 ?_ rfl rfl rfl ⟨w.2.2.2.2.1, w.2.2.2.2.2⟩ hR) ⟨blind _ _, vk_recv E.2.2.2.2.2.1.St ht hS, fun U hU hW => ⟨rfl, by rw [hU]; exact hG, bk_at E.2.2.2.2.2.1 hW hS hU, by rw [hU]; exact Nat.le_trans E.2.2.2.2.2.2.2.2 hS.1⟩⟩ rfl hn hL.1 hst (lv_room (rest := st0) hcat) hd hf⟩) h
  intro q hq
  have hgood : ∀ q, q ∈ Wall → q ∈ Wall ∧ ((q.onTables && q.keeps) = true ∨ ∃ ty, q = .arrayClass ty) := fun q hq => ⟨hq, wall_good _ hq⟩
  rcases List.mem_append.mp hq with hq | hq
  · simp only [List.mem_cons, List.not_mem_nil, or_false] at hq
    rcases hq with rfl | rfl | rfl | rfl
    · exact hgood _ w1
    · exact hgood _ w.1
    · exact hgood _ w.2.1
    · exact hgood _ w.2.2.1
  · exact gw_code w.2.2.2.1 q hq
/-- a static method of another class -/
theorem j_invT {y : MethodName} {code : ByteArray} {maxL n0 idx : Nat} {rt : Option FieldType} {rm : Room} {As : List Value} {v : Option Value} {C : String} (st : List Value) (st1 : List Value) (E : Cx p s m args meth c D z own cc nL ret) (hM : CC l y code maxL rt rm D z As P v P') (w1 : Cond.methodLink own idx y ∈ Wall) (w : MS y code maxL rt C n0) (hn : As.length = n0) (hR : rm.frames + 1 ≤ R.frames ∧ 8 + (maxL + 11) + rm.locals ≤ R.locals) (hst : st0 = As.reverse ++ st) (hst1 : v.toList ++ st = st1) (hcat : (st.map fun v => v.category).sum ≤ 8) (hf : k + rm.cells ≤ R.cells ∧ n + rm.slots ≤ R.slots) (hd : decode cc pc = .ok (.invokestatic idx, 3)) (h : J p l e R s m args below meth c D z P' (k + rm.cells) (n + rm.slots) Q nL (pc + 3) ls st1) : J p l e R s m args below meth c D z P k n Q nL pc ls st0 := by
  have hci := w.2.2.2.1
  subst hci
  refine j_run hst1 (fun H locs la hG hS hL => ⟨_, va_runS (Ts := Wall) (As := As) (rest := st) ⟨E.1, E.2.1, E.2.2.1, E.2.2.2.1, E.2.2.2.2.1⟩ hM ⟨callB_of n0 E.2.2.2.2.1 (gw_code w.2.2.1) rfl rfl rfl (E.2.2.2.2.1 _ w.2.1) (E.2.2.2.2.1 _ w1) w.2.2.2.2 hR, E.2.2.2.2.1 _ w.1⟩ ⟨blind _ _, fun U hU hW => ⟨rfl, by rw [hU]; exact hG, bk_at E.2.2.2.2.2.1 hW hS hU, by rw [hU]; exact Nat.le_trans E.2.2.2.2.2.2.2.2 hS.1⟩⟩ rfl hn hL.1 hst (lv_room (rest := st0) hcat) hd hf⟩) h
theorem j_fdiv {x y : UInt32} (E : Cx p s m args meth c D z own cc nL ret) (hne : vf_n32 (FP.fdiv x y)) (hd : decode cc pc = .ok (.fdiv, 1)) (h : J p l e R s m args below meth c D z P k n Q nL (pc + 1) ls (.float (FP.fdiv x y) :: st)) : J p l e R s m args below meth c D z P k n Q nL pc ls (.float y :: .float x :: st) :=
  fun H locs la hG hS hL => lv_fdiv E.1 E.2.1 hd hne (h H locs la hG hS hL)
theorem j_ddiv {x y : UInt64} (E : Cx p s m args meth c D z own cc nL ret) (hne : vf_n64 (FP.ddiv x y)) (hd : decode cc pc = .ok (.ddiv, 1)) (h : J p l e R s m args below meth c D z P k n Q nL (pc + 1) ls (.double (FP.ddiv x y) :: st)) : J p l e R s m args below meth c D z P k n Q nL pc ls (.double y :: .double x :: st) :=
  fun H locs la hG hS hL => lv_ddiv E.1 E.2.1 hd hne (h H locs la hG hS hL)
/-- an int array copied whole into another one -/
def xcp (X : XT) (kk j1 j N : Nat) : XT := fun k' j' i' f' => if k' = kk ∧ j' = j ∧ i' = 0 ∧ f' < N then X kk j1 0 f' else X k' j' i' f'
theorem xcp_key (X : XT) (kk j1 j N : Nat) : xcp X kk j1 j N kk j 0 = va_cpy (X kk j1 0) (X kk j 0) 0 0 N := by
  funext f'
  by_cases h : f' < N
  · simp [xcp, va_cpy, h]
  · simp [xcp, va_cpy, h]
theorem xcp_ne {X : XT} {kk j1 j N k' j' i' : Nat} (h : ¬ (k' = kk ∧ j' = j ∧ i' = 0)) : xcp X kk j1 j N k' j' i' = X k' j' i' := by
  funext f'
  unfold xcp
  rw [if_neg]
  exact fun q => h ⟨q.1, q.2.1, q.2.2.1⟩
theorem GG.cpX {H H1 : Heap} {kk j1 j N : Nat} (h : GG D z (X, Y) H) (hok : okX kk j 0) (ha : va_at (gD D) cls (z + aX kk j 0, entX D z kk j (va_cpy (X kk j1 0) (X kk j 0) 0 0 N)) H1) (oq : ∀ q : Nat, q ≠ z + aX kk j 0 → H1[q]? = H[q]?) : GG D z (xcp X kk j1 j N, Y) H1 := by
  refine ⟨fun k' j' i' hok' => ?_, h.2.1.mv fun q _ h2 => oq q fun e => h2 (by have := ok_lt hok; omega), size_keep h.2.2 (oq _ (by have := ok_lt hok; omega))⟩
  by_cases hq : k' = kk ∧ j' = j ∧ i' = 0
  · obtain ⟨rfl, rfl, rfl⟩ := hq
    show va_at _ _ (_, entX D z k' j' (xcp X k' j1 j' N k' j' 0)) H1
    rw [xcp_key]
    exact ha
  · show va_at _ _ (_, entX D z k' j' (xcp X kk j1 j N k' j' i')) H1
    rw [xcp_ne hq]
    refine (h.1 k' j' i' hok').kept (oq _ (fun e => hq ?_))
    exact aX_inj hok' hok (by omega)
theorem j_acopy {kk j1 j N idx : Nat} {v : Int32} (E : Cx p s m args meth c D z own cc nL ret) (hok1 : okX kk j1 0) (hok : okX kk j 0) (hne : ¬ j1 = j) (he : ∀ j x, entX D z kk j x = aint D 0 N x) (hv : v.toNatClampNeg = N) (hv0 : ¬ v < 0 ∧ v.toInt = N) (w1 : Cond.methodLink own idx arraycopyName ∈ Wall) (w2 : Cond.native arraycopyName ∈ Wall) (w3 : Cond.static arraycopyName ∈ Wall) (w4 : Cond.initialized "java/lang/System" ∈ Wall) (hfr : 1 ≤ R.frames) (hlo : (st.map fun v => v.category).sum + (nativeFrameWords "java/lang/System" "arraycopy" 5 + 11) ≤ R.locals) (hX : X' = xcp X kk j1 j N) (hd : decode cc pc = .ok (.invokestatic idx, 3)) (h : J p l e R s m args below meth c D z (GG D z (X', Y)) k n Q nL (pc + 3) ls st) : J p l e R s m args below meth c D z (GG D z (X, Y)) k n Q nL pc ls (.int v :: .int 0 :: .ref (z + aX kk j 0) :: .int 0 :: .ref (z + aX kk j1 0) :: st) := by
  subst hX
  intro H locs la hG hS hL T hT Xs
  have h0 := hG.X hok1
  have h1 := hG.X hok
  rw [he] at h0 h1
  have h0 : H[z + aX kk j1 0]? = some (vp_cell (D.2.2.1 0) (N, .inl (X kk j1 0))) := h0
  have h1 : H[z + aX kk j 0]? = some (vp_cell (D.2.2.1 0) (N, .inl (X kk j 0))) := h1
  obtain ⟨-, k0, hk0, cm0, hkk0⟩ := (E.2.2.2.2.2.1.K.2 0 _ rfl).1 N (fun q => .int (X kk j1 0 q))
  obtain ⟨-, k1, hk1, cm1, hkk1⟩ := (E.2.2.2.2.2.1.K.2 0 _ rfl).1 N (fun q => .int (X kk j 0 q))
  have hB := E.2.2.2.2.1
  obtain ⟨vm', X', step⟩ := Xs.arraycopy E.1 E.2.2.2.1 (hB _ w1) (hB _ w2) (hB _ w3) (hB _ w4) (src := z + aX kk j1 0) (dst := z + aX kk j 0) (cs := vp_cell (D.2.2.1 0) (N, .inl (X kk j1 0))) (cd := vp_cell (D.2.2.1 0) (N, .inl (X kk j 0))) (srcPos := 0) (destPos := 0) (n := v) (by rw [hT]; exact h0) (by rw [hT]; exact h1) (fun _ h => by cases h) (fun _ h => by cases h) (fun h => by cases h) (fun h => by cases h) hk0 hk1 hkk0 hkk1 rfl (by decide) (by decide) hv0.1
    (by rw [hv0.2]; show ¬ _ > ((arrV (D.2.2.1 0) N (fun q => .int (X kk j1 0 q))).slots.size : Int); rw [arrV_size]; show ¬ (0 + (N : Int) > (N : Int)); omega)
    (by rw [hv0.2]; show ¬ _ > ((arrV (D.2.2.1 0) N (fun q => .int (X kk j 0 q))).slots.size : Int); rw [arrV_size]; show ¬ (0 + (N : Int) > (N : Int)); omega)
    (fun vm₁ _ i hi => by
      rw [hv] at hi
      have e : (vp_cell (D.2.2.1 0) (N, .inl (X kk j1 0))).slots.getD ((0 : Int32).toNatClampNeg + i) .null = .int (X kk j1 0 i) := by
        show (arrV (D.2.2.1 0) N (fun q => .int (X kk j1 0 q))).slots.getD (0 + i) _ = _
        rw [Nat.zero_add, Array.getD_eq_getD_getElem?, arrV_read _ _ hi]
        rfl
      refine ⟨?_, ?_⟩
      · rw [e]
        exact rfl
      · rw [e]
        exact trivial)
    (g := F0 m pc la (.int v :: .int 0 :: .ref (z + aX kk j 0) :: .int 0 :: .ref (z + aX kk j1 0) :: st)) rfl (by rw [E.2.2.1]; exact hL.1) (rest := st) rfl (by rw [E.2.1]; exact hd) hfr (by show 2 * 0 + _ + _ ≤ _; omega)
  have h4 : (0 : Int32).toNatClampNeg + v.toNatClampNeg ≤ N := by rw [hv]; show 0 + N ≤ N; omega
  have e1 : copied (vp_cell (D.2.2.1 0) (N, .inl (X kk j1 0))) (vp_cell (D.2.2.1 0) (N, .inl (X kk j 0))) 0 0 v = vp_cell (D.2.2.1 0) (N, .inl (va_cpy (X kk j1 0) (X kk j 0) (0 : Int32).toNatClampNeg (0 : Int32).toNatClampNeg v.toNatClampNeg)) := va_copied (fun z => .int z) (D.2.2.1 0) (D.2.2.1 0) (X kk j1 0) (X kk j 0) h4
  rw [hv] at e1
  have e1 : copied (vp_cell (D.2.2.1 0) (N, .inl (X kk j1 0))) (vp_cell (D.2.2.1 0) (N, .inl (X kk j 0))) 0 0 v = vp_cell (D.2.2.1 0) (N, .inl (va_cpy (X kk j1 0) (X kk j 0) 0 0 N)) := e1
  rw [e1] at X' step
  have hl : z + aX kk j 0 < H.size := (Array.getElem?_eq_some_iff.mp h1).1
  have oq : ∀ q : Nat, q ≠ z + aX kk j 0 → (H.setIfInBounds (z + aX kk j 0) (vp_cell (D.2.2.1 0) (N, .inl (va_cpy (X kk j1 0) (X kk j 0) 0 0 N))))[q]? = H[q]? := fun q hq => by simp [Array.getElem?_setIfInBounds, Ne.symm hq]
  obtain ⟨t, a1, b1⟩ := h (H.setIfInBounds (z + aX kk j 0) (vp_cell (D.2.2.1 0) (N, .inl (va_cpy (X kk j1 0) (X kk j 0) 0 0 N)))) _ la (hG.cpX hok (by rw [he]; show (H.setIfInBounds _ _)[_]? = some _; simp [Array.getElem?_setIfInBounds, hl]) oq) ⟨by simp; exact hS.1, fun q g1 g2 => by
      rw [oq q (fun e => g2 (by rw [e]; exact Nat.le_add_right _ _))]
      exact hS.2.1 q g1 g2, fun q hq => by
      rcases List.mem_append.mp hq with h | h
      · exact hS.2.2 q h
      · obtain ⟨x, -, rfl⟩ := List.mem_map.mp h
        exact Nat.le_add_right _ _⟩ hL ((T.setVm vm').setCell (z + aX kk j 0) _) (by rw [← hT]; rfl) X'
  exact ⟨t, step t a1, b1⟩
end JS

