/-! the builder: new, append, toString, over the world with a text T -/
section JO
variable {p : Program} {l : Launch} {e : Env} {R : Room} {s : State} {m : MethodId} {args : Array Value} {below : List Frame} {meth : Method} {c : Code} {D : DD} {z : Nat} {own : String} {cc : ByteArray} {nL : Nat} {ret : Option FieldType} {P P' : Heap → Prop} {k n : Nat} {Q : State → Prop} {pc : Nat} {ls ls' : List (Nat × Value)} {st st0 : List Value}
set_option maxRecDepth 20000 in
/-- a method that overrides the one that the call names -/
theorem j_invO {x y : MethodName} {code code0 : ByteArray} {maxL maxL0 n0 idx b : Nat} {rt rt0 : Option FieldType} {rm : Room} {As : List Value} {v : Option Value} {C : String} (st : List Value) (st1 : List Value) (E : Cx p s m args meth c D z own cc nL ret) (hM : CC l y code maxL rt rm D z (.ref b :: As) P v P') (w1 : Cond.methodLink own idx x ∈ Wall) (w : MU x code0 maxL0 rt0 n0) (hsel : Cond.selects C x y ∈ Wall) (wi : Cond.instanceMethod y ∈ Wall) (wn : Cond.initialized y.cls ∈ Wall) (wc : Cond.code y code maxL rt ∈ Wall) (hn : As.length = n0) (hR : rm.frames + 1 ≤ R.frames ∧ 8 + (maxL + 11) + rm.locals ≤ R.locals) (hrec : RC D P C b) (hst : st0 = As.reverse ++ .ref b :: st) (hst1 : v.toList ++ st = st1) (hcat : (st.map fun v => v.category).sum ≤ 8) (hf : k + rm.cells ≤ R.cells ∧ n + rm.slots ≤ R.slots) (hd : decode cc pc = .ok (.invokevirtual idx, 3)) (h : J p l e R s m args below meth c D z P' (k + rm.cells) (n + rm.slots) Q nL (pc + 3) ls st1) : J p l e R s m args below meth c D z P k n Q nL pc ls st0 := by
  have ok : ∀ q, q ∈ Wall → q.before args s = true := E.2.2.2.2.1
  refine j_run hst1 (fun H locs la hG hS hL => ⟨_, va_runU (Ts := Wall) (As := As) (rest := st) (C := C) (owner := x.cls) (x := x) (n := n0) ⟨E.1, E.2.1, E.2.2.1, E.2.2.2.1, E.2.2.2.2.1⟩ hM ⟨⟨rfl, rfl, hR.1, hR.2, pay_in E.2.2.2.2.1 (gw_code wc), List.mem_cons_self⟩, ok _ wc, ok _ wn, ⟨w.2.2.2.2.2.1, w.2.2.2.2.2.2.1⟩, fun sig q => ?_, ok _ w1, ok _ w.1, va_Decl.of (ok _ w.2.1) (ok _ w.2.2.2.1), ok _ hsel, ok _ wi⟩ ⟨blind _ _, ?_, fun U hU hW => ⟨rfl, by rw [hU]; exact hG, bk_at E.2.2.2.2.2.1 hW hS hU, by rw [hU]; exact Nat.le_trans E.2.2.2.2.2.2.2.2 hS.1⟩⟩ rfl hn hL.1 hst (lv_room (rest := st0) hcat) hd hf⟩) h
  · have := w.2.2.2.2.2.2.2
    rw [q] at this
    exact (Option.some.inj this).symm
  · obtain ⟨ci, q, fs, h1, h2, h3⟩ := hrec H hG
    have := va_recv (q0 := 0) E.2.2.2.2.2.1.K (at_P h3) h1 rfl
    rw [h2] at this
    exact this
set_option maxRecDepth 20000 in
/-- a clone of an array of bytes -/
theorem jp_clone {a N A : Nat} {f : Nat → Int32} (E : Cx p s m args meth c D z own cc nL ret) (w1 : Cond.methodLink own 310 ⟨"[B", "clone", "()Ljava/lang/Object;"⟩ ∈ Wall) (w2 : Cond.sameMethod "[B" "java/lang/Object" "clone" "()Ljava/lang/Object;" ∈ Wall) (w3 : Cond.native ⟨"java/lang/Object", "clone", "()Ljava/lang/Object;"⟩ ∈ Wall) (w4 : Cond.instanceMethod ⟨"java/lang/Object", "clone", "()Ljava/lang/Object;"⟩ ∈ Wall) (w5 : Cond.selects "[B" ⟨"[B", "clone", "()Ljava/lang/Object;"⟩ ⟨"java/lang/Object", "clone", "()Ljava/lang/Object;"⟩ ∈ Wall) (w6 : Cond.castable "[B" "java/lang/Cloneable" ∈ NestW) (hat : ∀ H, P H → va_at (gD D) cls (a, aint D 1 N f) H) (hsz : ∀ H, P H → H.size = A) (hf : sb_Fit f) (hfr : 1 ≤ R.frames) (hlo : (st.map fun v => v.category).sum + 14 ≤ R.locals) (hk : k + 1 ≤ R.cells) (hs : n + N ≤ R.slots) (hP : ∀ H H1, P H → (∀ q : Nat, q < A → H1[q]? = H[q]?) → va_at (gD D) cls (A, aint D 1 N f) H1 → P' H1) (hd : decode cc pc = .ok (.invokevirtual 310, 3)) (h : J p l e R s m args below meth c D z P' (k + 1) (n + N) Q nL (pc + 3) ls (.ref A :: st)) : J p l e R s m args below meth c D z P k n Q nL pc ls (.ref a :: st) := by
  intro H locs la hG hS hL T hT Xs
  have hA := hsz H hG
  subst hA
  have hB := E.2.2.2.2.1
  have hK := E.2.2.2.2.2.1.K
  have hc0 : H[a]? = some (vp_cell (D.2.2.1 1) (N, .inl f)) := hat H hG
  have hcellT : T.heap[a]? = some (vp_cell (D.2.2.1 1) (N, .inl f)) := by rw [hT]; exact hc0
  have hsz0 : (vp_cell (D.2.2.1 1) (N, .inl f)).slots.size = N := arrV_size _ _ _
  have hcellE : ({ cls := (vp_cell (D.2.2.1 1) (N, .inl f)).cls, slots := (vp_cell (D.2.2.1 1) (N, .inl f)).slots } : Cell) = vp_cell (D.2.2.1 1) (N, .inl f) := rfl
  obtain ⟨c0, t0', f1, f2, f3⟩ := Cond.castable_spec (va_Nw.use (A := args) rfl (E.2.2.2.2.2.1.N w6))
  have hnm : s.vm.findClass "[B" = some (D.2.2.1 1) := va_nm_byte (hK.2 1 _ rfl).2
  cases hnm.symm.trans f1
  obtain ⟨-, kA, hkA, comp, hkind⟩ := State.isArrayOf_alike Xs.warmed.alike ((hK.2 1 _ rfl).1 0 (fun _ => .null))
  obtain ⟨-, kS, hkS, compS, hkindS⟩ := (hK.2 1 _ rfl).1 0 (fun _ => .null)
  obtain ⟨vm', X', st9⟩ := Xs.cloneArray E.1 E.2.2.2.1 (hB _ w1) (hB _ w2) (hB _ w3) (hB _ w4) (hB _ w5) (a := a) (cell := vp_cell (D.2.2.1 1) (N, .inl f)) hcellT (fun k h => by cases h) (fun h => by cases h) hnm f2 f3
    (fun i v hv => by
      have hk' : T.vm.classes[(vp_cell (D.2.2.1 1) (N, .inl f)).cls]? = some kA := hkA
      have h9 : fits .byte v = true := va_fit (ty := .byte) (fun i _ => hf i) i v hv
      simpa [State.fitsSlot, State.slotType?, hk', hkind] using h9)
    (g := F0 m pc la (.ref a :: st)) rfl (by rw [E.2.2.1]; exact hL.1) rfl (by rw [E.2.1]; exact hd) hfr (by show 2 * 0 + _ + 14 ≤ _; omega) hk (by rw [hsz0]; exact hs) (hloader := Vm.clonesLoader_of_array hkS hkindS)
  rw [hcellE, hsz0] at X'
  generalize hH1 : H.push (vp_cell (D.2.2.1 1) (N, .inl f)) = H1
  have z1 : H1.size = H.size + 1 := by rw [← hH1, Array.size_push]
  have e1 : H1[H.size]? = some (vp_cell (D.2.2.1 1) (N, .inl f)) := by rw [← hH1, Array.getElem?_push_size]
  have o1 : ∀ q : Nat, q < H.size → H1[q]? = H[q]? := fun q hq => by rw [← hH1, Array.getElem?_push, if_neg (Nat.ne_of_lt hq)]
  obtain ⟨t, b1, b2⟩ := h H1 locs la (hP H H1 hG o1 e1) ⟨Nat.le_trans hS.1 (by omega), fun y h1 h2 => (o1 y (Nat.lt_of_lt_of_le h1 hS.1)).trans (hS.2.1 y h1 h2), hS.2.2⟩ hL ((T.setVm vm').pushCell (vp_cell (D.2.2.1 1) (N, .inl f))) (by rw [← hH1, ← hT]; rfl) X'
  refine ⟨t, st9 t ?_, b2⟩
  rw [hcellE, hT]
  exact b1
set_option maxRecDepth 20000 in
theorem jp_castB {a N : Nat} {f : Nat → Int32} {idx : Nat} (E : Cx p s m args meth c D z own cc nL ret) (w : Cond.classLink own idx "[B" ∈ Wall) (hat : ∀ H, P H → va_at (gD D) cls (a, aint D 1 N f) H) (hd : decode cc pc = .ok (.checkcast idx, 3)) (h : J p l e R s m args below meth c D z P k n Q nL (pc + 3) ls (.ref a :: st)) : J p l e R s m args below meth c D z P k n Q nL pc ls (.ref a :: st) :=
  fun H locs la hG hS hL => va_castA E.1 E.2.1 E.2.2.2.1 (E.2.2.2.2.1 _ w) (at_P (hat H hG)) 0 rfl (va_nm_byte (E.2.2.2.2.2.1.K.2 1 _ rfl).2) hd (h H locs la hG hS hL)
end JO
/-- the world with a builder at u that holds the text T -/
def TB (T : List Int32) (n : Nat) (b : Nat → Int32) : Prop := T.length ≤ n ∧ n ≤ 65536 ∧ sb_Fit b ∧ ∀ q, q < T.length → b q = T.getD q 0
def SBW (D : DD) (z B u : Nat) (X : XT) (Y : YT) (T : List Int32) (H : Heap) : Prop := ∃ x : Nat × Nat × (Nat → Int32) × Int32, PB D z B u X Y x.1 x.2.1 x.2.2.1 x.2.2.2 (nI T.length) H ∧ TB T x.2.1 x.2.2.1
def decL (w : Nat) : List Int32 := (List.range (sb_dg w)).map fun i => nI (sb_dec w i)
set_option maxRecDepth 20000 in
theorem getD_app_lo {a b : List Int32} {q : Nat} (h : q < a.length) : (a ++ b).getD q 0 = a.getD q 0 := by
  rw [List.getD_eq_getElem?_getD, List.getD_eq_getElem?_getD, List.getElem?_append_left h]
set_option maxRecDepth 20000 in
theorem getD_app_hi {a b : List Int32} {q : Nat} : (a ++ b).getD (a.length + q) 0 = b.getD q 0 := by
  rw [List.getD_eq_getElem?_getD, List.getD_eq_getElem?_getD, List.getElem?_append_right (Nat.le_add_right _ _), Nat.add_sub_cancel_left]
set_option maxRecDepth 20000 in
theorem decL_len (w : Nat) : (decL w).length = sb_dg w := by simp [decL]
set_option maxRecDepth 20000 in
theorem decL_get {w i : Nat} (h : i < sb_dg w) : (decL w).getD i 0 = nI (sb_dec w i) := by
  rw [List.getD_eq_getElem?_getD]
  simp [decL, h]
set_option maxRecDepth 20000 in
theorem TB.app {T S : List Int32} {n n' : Nat} {b b' : Nat → Int32} (h : TB T n b) (h1 : T.length + S.length ≤ n') (h2 : n' ≤ 65536) (h3 : sb_Fit b') (h4 : ∀ j, j < T.length → b' j = b j) (h5 : ∀ i, i < S.length → b' (T.length + i) = S.getD i 0) : TB (T ++ S) n' b' := by
  refine ⟨by rw [List.length_append]; exact h1, h2, h3, fun q hq => ?_⟩
  rw [List.length_append] at hq
  by_cases c : q < T.length
  · rw [getD_app_lo c, h4 q c, h.2.2.2 q c]
  · have : q = T.length + (q - T.length) := by omega
    rw [this, getD_app_hi]
    exact h5 _ (by omega)
set_option maxRecDepth 20000 in
theorem str_len {t : Nat} (ht : t < 31) : (strB.getD t []).length = strN.getD t 0 := (str_ok t ht).2.1
section SBC
variable {l : Launch} {D : DD} {z B u : Nat} {X : XT} {Y : YT} {a n : Nat} {b : Nat → Int32} {m1 cnt : Int32} {P P' : Heap → Prop} {T : List Int32}
set_option maxRecDepth 20000 in
theorem rcW : RC D (SBW D z B u X Y T) RJ4 u := fun H h => by
  obtain ⟨x, h, -⟩ := h
  exact ⟨13, _, _, rfl, rfl, h.obj⟩
set_option maxRecDepth 20000 in
/-- append of a constant -/
theorem c_LA_K {t : Nat} (ht : t < 31) (hq : T.length + strN.getD t 0 ≤ 600) : CC l yJ4_append_15ec4 cJ4_append_15ec4 2 (some (.object "java/lang/StringBuilder")) (rmk 6 1 1200) D z [.ref u, .ref (D.2.2.2.1 t)] (SBW D z B u X Y T) (some (.ref u)) (SBW D z B u X Y (T ++ strB.getD t [])) := by
  refine cc_of pn_J4 (le_ rfl) (ls := [(0, .ref u), (1, .ref (D.2.2.2.1 t))]) rfl ?_
  intro p e s m args below meth c E
  refine j_ex (fun H h => h) fun x => ?_
  obtain ⟨a, n, b, m1⟩ := x
  refine j_pre (A := TB T n b) (fun H h => h.2) fun hT => ?_
  refine j_wk (P' := PB D z B u X Y a n b m1 (nI T.length)) (fun H h => h.1) ?_
  refine j_pre (fun H h => h.gu) fun hgu => ?_
  refine j_aload_n E 0 rfl dJ4_append_15ec4_0 ?_
  refine j_aload_n E 1 rfl dJ4_append_15ec4_1 ?_
  refine j_invSU [] [.ref u] E (c_apK ht hgu hT.1 hT.2.1 hq hT.2.2.1) ml_J4_29 mu_J5_append_cf1ce su_J4 rfl ⟨le_ rfl, le_ rfl⟩ rcB rfl rfl (le_ rfl) ⟨le_ rfl, le_ rfl⟩ dJ4_append_15ec4_2 ?_
  refine j_pop E rfl dJ4_append_15ec4_5 ?_
  refine j_aload_n E 0 rfl dJ4_append_15ec4_6 ?_
  refine j_wk (P' := SBW D z B u X Y (T ++ strB.getD t [])) (fun H h => ?_) ?_
  · obtain ⟨⟨a', n', b'⟩, g1, g2, g3, g4, g5, g6⟩ := h
    refine ⟨(a', n', b', m1), ?_, hT.app (by rw [str_len ht]; exact g2) g3 g4 g5 (fun i hi => by rw [str_len ht] at hi; exact g6 i hi)⟩
    rw [List.length_append, str_len ht]
    exact g1
  · exact j_aret E (le_ rfl) (le_ rfl) dJ4_append_15ec4_7
set_option maxRecDepth 20000 in
/-- append of a number -/
theorem c_LA_I {w : Nat} (hw : w < 100000) (hq : T.length + 5 ≤ 600) : CC l yJ4_append_bf812 cJ4_append_bf812 2 (some (.object "java/lang/StringBuilder")) (rmk 6 1 1200) D z [.ref u, .int (nI w)] (SBW D z B u X Y T) (some (.ref u)) (SBW D z B u X Y (T ++ decL w)) := by
  refine cc_of pn_J4 (le_ rfl) (ls := [(0, .ref u), (1, .int (nI w))]) rfl ?_
  intro p e s m args below meth c E
  refine j_ex (fun H h => h) fun x => ?_
  obtain ⟨a, n, b, m1⟩ := x
  refine j_pre (A := TB T n b) (fun H h => h.2) fun hT => ?_
  refine j_wk (P' := PB D z B u X Y a n b m1 (nI T.length)) (fun H h => h.1) ?_
  refine j_pre (fun H h => h.gu) fun hgu => ?_
  refine j_aload_n E 0 rfl dJ4_append_bf812_0 ?_
  refine j_iload_n E 1 rfl dJ4_append_bf812_1 ?_
  refine j_invSU [] [.ref u] E (c_SB5_int hT.1 hT.2.1 hq hT.2.2.1 hgu hw) ml_J4_53 mu_J5_append_c97b9 su_J4 rfl ⟨le_ rfl, le_ rfl⟩ rcB rfl rfl (le_ rfl) ⟨le_ rfl, le_ rfl⟩ dJ4_append_bf812_2 ?_
  refine j_pop E rfl dJ4_append_bf812_5 ?_
  refine j_aload_n E 0 rfl dJ4_append_bf812_6 ?_
  refine j_wk (P' := SBW D z B u X Y (T ++ decL w)) (fun H h => ?_) ?_
  · obtain ⟨⟨a', n', b'⟩, g1, g2, g3, g4, g5, g6⟩ := h
    refine ⟨(a', n', b', m1), ?_, hT.app (by rw [decL_len]; exact g2) g3 g4 g5 (fun i hi => ?_)⟩
    · rw [List.length_append, decL_len]
      exact g1
    · rw [decL_len] at hi
      rw [decL_get hi]
      exact (g6 i hi).trans (sb_b7 _ (by unfold sb_dec; omega))
  · exact j_aret E (le_ rfl) (le_ rfl) dJ4_append_bf812_7
end SBC
set_option maxRecDepth 20000 in
theorem ci_J5u {l : Launch} {D : DD} {z u A : Nat} {H0 : Heap} (hzu : z ≤ u) (hsz : H0.size = A) (h0 : va_at (gD D) cls (u, .inr (13, [.null, .int 0, .int 0, .int 0])) H0) : CC l yJ5_init_d00df cJ5_init_d00df 2 none (rmk 2 1 16) D z [.ref (u), .int 16] (fun H => H = H0) none (PL D (A + 1) [(u, .inr (13, [.ref (A), .int 0, .int 0, .int 0])), (A, .inl (D.2.2.1 1, 16, .inl (fun _ => 0)))] H0 (u)) := by
  refine ci_of pn_J5 rfl (le_ rfl) (ls := [(0, .ref (u)), (1, .int 16)]) rfl ?_
  intro p e s m args below meth c E hi2
  refine j_wk (P' := PL D (A) [(u, .inr (13, [.null, .int 0, .int 0, .int 0]))] H0 (u)) (fun H h => by subst h; exact PL.start hsz h0) ?_
  refine j_aload_n E 0 rfl dJ5_init_d00df_0 ?_
  refine jp_objInit E ml_J5_3 im_Lib_objectInit cd_Lib_objectInit (le_ rfl) (le_ rfl) dJ5_init_d00df_1 ?_
  refine j_gets E E.2.2.2.2.2.1.Cs fl_J5_18 dJ5_init_d00df_4 ?_
  refine j_if_eq E 25 (by decide) dJ5_init_d00df_7 (fun q => absurd q (by decide)) (fun _ => ?_)
  refine j_aload_n E 0 rfl dJ5_init_d00df_10 ?_
  refine j_iload_n E 1 rfl dJ5_init_d00df_11 ?_
  refine jp_newa (A := A) (t := 1) (a0 := (16, .inl (fun _ => 0))) (P' := PL D (A + 1) [(u, .inr (13, [.null, .int 0, .int 0, .int 0])), (A, .inl (D.2.2.1 1, 16, .inl (fun _ => 0)))] H0 (u)) E ar_byte rfl rfl (fun _ h => h) (fun _ => rfl) (fun H h => h.1) (by decide) tn_16 (le_ rfl) (le_ rfl) (le_ rfl) (fun H H1 h e1 e2 e3 => h.new e1 e2 e3) dJ5_init_d00df_12 ?_
  refine jp_put (f := 0) (P' := PL D (A + 1) [(u, .inr (13, [.ref (A), .int 0, .int 0, .int 0])), (A, .inl (D.2.2.1 1, 16, .inl (fun _ => 0)))] H0 (u)) E hzu (fun H h => h.at 0 rfl) cf_J4 fl_J5_15 (lt_ rfl) ⟨rfl, rfl⟩ ⟨rfl, rfl⟩ (lt_ rfl) (fun H H1 h e1 e2 e3 => h.put 0 rfl e1 e2 e3) dJ5_init_d00df_14 ?_
  refine j_aload_n E 0 rfl dJ5_init_d00df_17 ?_
  refine j_iconst E 0 ic_0 dJ5_init_d00df_18 ?_
  refine jp_put (f := 1) (P' := PL D (A + 1) [(u, .inr (13, [.ref (A), .int 0, .int 0, .int 0])), (A, .inl (D.2.2.1 1, 16, .inl (fun _ => 0)))] H0 (u)) E hzu (fun H h => h.at 0 rfl) cf_J4 fl_J5_22 (lt_ rfl) ⟨rfl, rfl⟩ ⟨rfl, rfl⟩ (lt_ rfl) (fun H H1 h e1 e2 e3 => h.put 0 rfl e1 e2 e3) dJ5_init_d00df_19 ?_
  refine j_goto E 38 (by decide) dJ5_init_d00df_22 ?_
  exact j_vret E (le_ rfl) (le_ rfl) dJ5_init_d00df_38
set_option maxRecDepth 20000 in
theorem ci_J4u {l : Launch} {D : DD} {z u A : Nat} {H0 : Heap} (hzu : z ≤ u) (hsz : H0.size = A) (h0 : va_at (gD D) cls (u, .inr (13, [.null, .int 0, .int 0, .int 0])) H0) : CC l yJ4_init_da8c8 cJ4_init_da8c8 1 none (rmk 3 1 16) D z [.ref (u)] (fun H => H = H0) none (PL D (A + 1) [(u, .inr (13, [.ref (A), .int 0, .int 0, .int 0])), (A, .inl (D.2.2.1 1, 16, .inl (fun _ => 0)))] H0 (u)) := by
  refine ci_of pn_J4 rfl (le_ rfl) (ls := [(0, .ref (u))]) rfl ?_
  intro p e s m args below meth c E hi2
  refine j_aload_n E 0 rfl dJ4_init_da8c8_0 ?_
  refine j_bipush E 16 bp_16 dJ4_init_da8c8_1 ?_
  refine j_invI (As := [.int 16]) (rm := rmk 2 1 16) (P2 := fun H => PL D (A + 1) [(u, .inr (13, [.ref (A), .int 0, .int 0, .int 0])), (A, .inl (D.2.2.1 1, 16, .inl (fun _ => 0)))] H (u)) (P' := PL D (A + 1) [(u, .inr (13, [.ref (A), .int 0, .int 0, .int 0])), (A, .inl (D.2.2.1 1, 16, .inl (fun _ => 0)))] H0 (u)) [] E (fun H h => by subst h; exact ci_J5u hzu hsz h0) (fun H H1 h h2 => by subst h; exact h2) ml_J4_1 mi_J5 rfl ⟨le_ rfl, le_ rfl⟩ rfl (le_ rfl) ⟨le_ rfl, le_ rfl⟩ dJ4_init_da8c8_3 ?_
  exact j_vret E (le_ rfl) (le_ rfl) dJ4_init_da8c8_6
