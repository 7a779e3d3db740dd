/-! constructors: PL, a heap that is known by a list of cells, and their calls -/
def PL (D : DD) (A : Nat) (ws : va_W) (H0 : Heap) (t : Nat) (H : Heap) : Prop := H.size = A ∧ H0.size ≤ A ∧ va_P (gD D) cls ws H ∧ (ws.map (·.1)).Pairwise (· < ·) ∧ (∀ x ∈ ws, x.1 = t ∨ H0.size ≤ x.1) ∧ ∀ q : Nat, q < H0.size → q ≠ t → H[q]? = H0[q]?
section PLs
variable {D : DD} {A t : Nat} {ws : va_W} {H0 H H1 : Heap}
theorem PL.start {e : va_E} (h1 : H0.size = A) (h2 : va_at (gD D) cls (t, e) H0) : PL D A [(t, e)] H0 t H0 := by
  refine ⟨h1, Nat.le_of_eq h1, at_P h2, by simp, fun x hx => ?_, fun _ _ _ => rfl⟩
  rcases List.mem_singleton.mp hx with rfl
  exact Or.inl rfl
theorem PL.at (h : PL D A ws H0 t H) (i : Nat) {a : Nat} {e : va_E} (hi : ws[i]? = some (a, e)) : va_at (gD D) cls (a, e) H := h.2.2.1 i _ hi
theorem PL.all (h : PL D A ws H0 t H) : ∀ x ∈ ws, x.1 < A := by
  intro x hx
  obtain ⟨i, hi⟩ := List.getElem?_of_mem hx
  have := (h.2.2.1 i x hi).lt
  rw [h.1] at this
  exact this
theorem PL.new {e : va_E} (h : PL D A ws H0 t H) (e1 : H1.size = A + 1) (e2 : ∀ q : Nat, q < A → H1[q]? = H[q]?) (e3 : va_at (gD D) cls (A, e) H1) : PL D (A + 1) (ws ++ [(A, e)]) H0 t H1 := by
  have hall := h.all
  obtain ⟨h1, h2, h3, h4, h5, h6⟩ := h
  refine ⟨e1, Nat.le_succ_of_le h2, va_P.app (h3.kept fun k q hq => e2 _ (hall q (List.mem_of_getElem? hq))) (at_P e3), ?_, ?_, fun q g1 g2 => (e2 q (Nat.lt_of_lt_of_le g1 h2)).trans (h6 q g1 g2)⟩
  · rw [List.map_append, List.pairwise_append]
    refine ⟨h4, by simp, ?_⟩
    intro a ha b hb
    obtain ⟨x, hx, rfl⟩ := List.mem_map.mp ha
    simp at hb
    subst hb
    exact hall x hx
  · intro x hx
    rcases List.mem_append.mp hx with hx | hx
    · exact h5 x hx
    · rcases List.mem_singleton.mp hx with rfl
      exact Or.inr h2
theorem PL.put {a : Nat} {e0 e : va_E} (h : PL D A ws H0 t H) (i : Nat) (hi : ws[i]? = some (a, e0)) (e1 : H1.size = H.size) (e2 : ∀ q : Nat, q ≠ a → H1[q]? = H[q]?) (e3 : va_at (gD D) cls (a, e) H1) : PL D A (ws.set i (a, e)) H0 t H1 := by
  obtain ⟨h1, h2, h3, h4, h5, h6⟩ := h
  have hl := (List.getElem?_eq_some_iff.mp hi).1
  have hmap : (ws.set i (a, e)).map (·.1) = ws.map (·.1) := by
    apply List.ext_getElem?
    intro k
    rw [List.getElem?_map, List.getElem?_map, List.getElem?_set]
    by_cases hk : i = k
    · subst hk
      rw [if_pos rfl, if_pos hl, hi]
      rfl
    · rw [if_neg hk]
  refine ⟨e1.trans h1, h2, fun k q hk => ?_, by rw [hmap]; exact h4, fun x hx => ?_, fun q g1 g2 => ?_⟩
  · by_cases hki : k = i
    · subst hki
      rw [List.getElem?_set_self hl] at hk
      cases hk
      exact e3
    · rw [List.getElem?_set_ne (Ne.symm hki)] at hk
      refine (h3 k q hk).kept (e2 _ fun he => ?_)
      have hlk := (List.getElem?_eq_some_iff.mp hk).1
      have m1 : (ws.map (·.1))[k]? = some q.1 := by rw [List.getElem?_map, hk]; rfl
      have m2 : (ws.map (·.1))[i]? = some a := by rw [List.getElem?_map, hi]; rfl
      obtain ⟨l1, m1⟩ := List.getElem?_eq_some_iff.mp m1
      obtain ⟨l2, m2⟩ := List.getElem?_eq_some_iff.mp m2
      have hp := List.pairwise_iff_getElem.mp h4
      rcases Nat.lt_or_gt_of_ne hki with g | g
      · have := hp k i l1 l2 g
        rw [m1, m2] at this
        omega
      · have := hp i k l2 l1 g
        rw [m1, m2] at this
        omega
  · have : x.1 ∈ (ws.set i (a, e)).map (·.1) := List.mem_map.mpr ⟨x, hx, rfl⟩
    rw [hmap] at this
    obtain ⟨y, hy, hxy⟩ := List.mem_map.mp this
    rw [← hxy]
    exact h5 y hy
  · refine (e2 q fun he => ?_).trans (h6 q g1 g2)
    have := h5 _ (List.mem_of_getElem? hi)
    simp at this
    omega
/-- behind a constructor's call on the cell A that was made last -/
theorem PL.sub {e e' : va_E} {w2 : va_W} {A1 : Nat} (h : PL D (A + 1) (ws ++ [(A, e)]) H0 t H) (h2 : PL D A1 ((A, e') :: w2) H A H1) : PL D A1 (ws ++ (A, e') :: w2) H0 t H1 := by
  have hall : ∀ x ∈ ws, x.1 < A := by
    intro x hx
    have := List.pairwise_append.mp (by rw [← List.map_append]; exact h.2.2.2.1 : (ws.map (·.1) ++ [(A, e)].map (·.1)).Pairwise (· < ·))
    exact this.2.2 _ (List.mem_map.mpr ⟨x, hx, rfl⟩) A (by simp)
  obtain ⟨h1, g2, h3, h4, h5, h6⟩ := h
  obtain ⟨k1, k2, k3, k4, k5, k6⟩ := h2
  have hA0 : H0.size ≤ A ∨ t = A := by
    have := h5 (A, e) (List.mem_append_right _ List.mem_cons_self)
    simp at this
    omega
  refine ⟨k1, by omega, va_P.app (fun k q hk => ?_) k3, ?_, ?_, ?_⟩
  · have hk' : (ws ++ [(A, e)])[k]? = some q := by
      rw [List.getElem?_append_left (List.getElem?_eq_some_iff.mp hk).1]
      exact hk
    have hlt := hall q (List.mem_of_getElem? hk)
    exact (h3 k q hk').kept (k6 _ (by omega) (by omega))
  · rw [List.map_append, List.pairwise_append]
    refine ⟨(List.pairwise_append.mp (by rw [← List.map_append]; exact h4 : (ws.map (·.1) ++ [(A, e)].map (·.1)).Pairwise (· < ·))).1, k4, ?_⟩
    intro a ha b hb
    obtain ⟨x, hx, rfl⟩ := List.mem_map.mp ha
    have hx' := hall x hx
    obtain ⟨y, hy, rfl⟩ := List.mem_map.mp hb
    rcases k5 y hy with g | g <;> omega
  · intro x hx
    rcases List.mem_append.mp hx with hx | hx
    · exact h5 x (List.mem_append_left _ hx)
    · rcases k5 x hx with g | g
      · rcases hA0 with q | q
        · exact Or.inr (by omega)
        · exact Or.inl (by omega)
      · exact Or.inr (by omega)
  · intro q g1 g3
    rcases hA0 with q2 | q2
    · exact (k6 q (by omega) (by omega)).trans (h6 q g1 g3)
    · exact (k6 q (by omega) (by omega)).trans (h6 q g1 g3)
end PLs
section JC
variable {p : Program} {l : Launch} {e : Env} {R : Room} {s : State} {m : MethodId} {args : Array Value} {below : List Frame} {meth : Method} {c : Code} {D : DD} {z : Nat} {own : String} {cc : ByteArray} {nL : Nat} {ret : Option FieldType} {P P' : Heap → Prop} {k n : Nat} {Q : State → Prop} {pc : Nat} {ls ls' : List (Nat × Value)} {st st0 : List Value}
/-- a constructor's words -/
def MI (y : MethodName) (code : ByteArray) (maxL : Nat) (n0 : Nat) : Prop := Cond.instanceMethod y ∈ Wall ∧ Cond.initialized y.cls ∈ Wall ∧ Cond.code y code maxL none ∈ Wall ∧ y.name = "<init>" ∧ y.cls ≠ "java/lang/invoke/MethodHandle" ∧ y.cls ≠ "java/lang/invoke/VarHandle" ∧ (parseMethodDescriptor y.desc).map (fun d => d.parameters.length) = some n0
theorem j_invI {y : MethodName} {code : ByteArray} {maxL n0 idx b : Nat} {rm : Room} {As : List Value} {P2 : Heap → Heap → Prop} (st : List Value) (E : Cx p s m args meth c D z own cc nL ret) (hM : ∀ H, P H → CC l y code maxL none rm D z (.ref b :: As) (fun H' => H' = H) none (P2 H)) (hP : ∀ H H1, P H → P2 H H1 → P' H1) (w1 : Cond.methodLink own idx y ∈ Wall) (w : MI y code maxL n0) (hn : As.length = n0) (hR : rm.frames + 1 ≤ R.frames ∧ 8 + (maxL + 11) + rm.locals ≤ R.locals) (hst : st0 = As.reverse ++ .ref b :: st) (hcat : (st.map fun v => v.category).sum ≤ 8) (hf : k + rm.cells ≤ R.cells ∧ n + rm.slots ≤ R.slots) (hd : decode cc pc = .ok (.invokespecial idx, 3)) (h : J p l e R s m args below meth c D z P' (k + rm.cells) (n + rm.slots) Q nL (pc + 3) ls st) : J p l e R s m args below meth c D z P k n Q nL pc ls st0 := by
  refine j_fix fun H0 hP0 => ?_
  refine j_run (v := none) (P' := P2 H0) (st := st) rfl (fun H locs la hG hS hL => ⟨_, va_runI (Ts := Wall) (As := As) (rest := st) ⟨E.1, E.2.1, E.2.2.1, E.2.2.2.1, E.2.2.2.2.1⟩ (hM H0 hP0) (cwI n0 E.2.2.2.2.1 (gw_code w.2.2.1) rfl rfl rfl (E.2.2.2.2.1 _ w.2.1) (E.2.2.2.2.1 _ w1) (E.2.2.2.2.1 _ w.1) w.2.2.2.1 w.2.2.2.2 hR) ⟨blind (.ref b :: As) (fun H' => H' = H0), fun U hU hW => ⟨rfl, hU.trans hG, bk_at E.2.2.2.2.2.1 hW hS hU, by rw [hU]; exact Nat.le_trans E.2.2.2.2.2.2.2.2 hS.1⟩⟩ rfl hn hL.1 hst (lv_room (rest := st0) hcat) hd hf⟩) ?_
  exact j_wk (fun H1 h1 => hP H0 H1 hP0 h1) h
theorem j_invIN {y : MethodName} {code : ByteArray} {maxL n0 idx b : Nat} {rm : Room} {As : List Value} {host : String} {P2 : Heap → Heap → Prop} (st : List Value) (E : Cx p s m args meth c D z own cc nL ret) (hM : ∀ H, P H → CC l y code maxL none rm D z (.ref b :: As) (fun H' => H' = H) none (P2 H)) (hP : ∀ H H1, P H → P2 H H1 → P' H1) (w1 : Cond.methodLinkNest own idx y host ∈ NestW) (w : MI y code maxL n0) (hn : As.length = n0) (hR : rm.frames + 1 ≤ R.frames ∧ 8 + (maxL + 11) + rm.locals ≤ R.locals) (hst : st0 = As.reverse ++ .ref b :: st) (hcat : (st.map fun v => v.category).sum ≤ 8) (hf : k + rm.cells ≤ R.cells ∧ n + rm.slots ≤ R.slots) (hd : decode cc pc = .ok (.invokespecial idx, 3)) (h : J p l e R s m args below meth c D z P' (k + rm.cells) (n + rm.slots) Q nL (pc + 3) ls st) : J p l e R s m args below meth c D z P k n Q nL pc ls st0 := by
  refine j_fix fun H0 hP0 => ?_
  refine j_run (v := none) (P' := P2 H0) (st := st) rfl (fun H locs la hG hS hL => ⟨_, va_runIN (Ts := Wall) (As := As) (rest := st) ⟨E.1, E.2.1, E.2.2.1, E.2.2.2.1, E.2.2.2.2.1⟩ (hM H0 hP0) ⟨va_cnB n0 E.2.2.2.2.1 (gw_code w.2.2.1) rfl rfl rfl (E.2.2.2.2.2.1.N w1) (E.2.2.2.2.1 _ w.2.1) w.2.2.2.2 hR, w.2.2.2.1, E.2.2.2.2.1 _ w.1⟩ ⟨blind (.ref b :: As) (fun H' => H' = H0), fun U hU hW => ⟨rfl, hU.trans hG, bk_at E.2.2.2.2.2.1 hW hS hU, by rw [hU]; exact Nat.le_trans E.2.2.2.2.2.2.2.2 hS.1⟩⟩ rfl hn hL.1 hst (lv_room (rest := st0) hcat) hd hf⟩) ?_
  exact j_wk (fun H1 h1 => hP H0 H1 hP0 h1) h
/-- a constructor's contract: its body, with the name at hand -/
theorem ci_of {y : MethodName} {code : ByteArray} {maxL : Nat} {rm : Room} {a : List Value} {v : Option Value} (hy : plainName y.cls = true) (hnm : y.name = "<init>") (hsz : (lg_sl a).length ≤ maxL) (hl : lv_args 0 a = ls)
    (body : ∀ (p : Program) (e : Env) (s : State) (m : MethodId) (args : Array Value) (below : List Frame) (meth : Method) (c : Code), Cx p s m args meth c D z y.cls code maxL ret → meth.name = "<init>" → J p l e rm s m args below meth c D z P 0 0 (MQ below (QC z v P') args s rm.cells rm.slots (Az z)) maxL 0 ls []) : CC l y code maxL ret rm D z a P v P' := by
  refine Met.ofW (cc := code) (maxL := maxL) (ret := ret) hy rfl ?_
  intro p e s m args below meth c s₁ B hml hv
  obtain ⟨rfl, hG, hB, hz⟩ := hv
  have hts := atoms_spec (ws := Cond.code y code maxL ret :: Wall) B.pre
  have hown : s.vm.findClass y.cls = some m.cls := findClass_of_methodNamed B.named
  have hE := lv_entry a hsz
  rw [hl] at hE
  have := body p e s m a.toArray below meth c ⟨B.exec, B.bytes, hml, hown, fun w h => hts w (List.mem_cons_of_mem _ h), hB, B.returns, B.notSynchronized, hz⟩ ((name_of_methodNamed B.named B.method).1.trans hnm) s.heap [] _ hG va_S.rf hE
  rw [lg_entry_eq]
  exact this
end JC
