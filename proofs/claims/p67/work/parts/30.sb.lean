/-! StringBuilder as the JDK's code, over the world: ensureCapacityInternal, append, setLength, length, charAt -/
section JQ
variable {p : Program} {l : Launch} {e : Env} {R : Room} {s : State} {m : MethodId} {args : Array Value} {below : List Frame} {meth : Method} {c : Code} {D : DD} {z : Nat} {own : String} {cc : ByteArray} {nL : Nat} {ret : Option FieldType} {P P' : Heap → Prop} {k n : Nat} {Q : State → Prop} {pc : Nat} {ls ls' : List (Nat × Value)} {st st0 : List Value}
theorem j_ex {α : Type} {F : α → Heap → Prop} (hF : ∀ H, P H → ∃ x, F x H) (h : ∀ x, J p l e R s m args below meth c D z (F x) k n Q nL pc ls st) : J p l e R s m args below meth c D z P k n Q nL pc ls st := fun H locs la hG hS hL => by
  obtain ⟨x, hx⟩ := hF H hG
  exact h x H locs la hx hS hL
theorem j_pre {A : Prop} (hA : ∀ H, P H → A) (h : A → J p l e R s m args below meth c D z P k n Q nL pc ls st) : J p l e R s m args below meth c D z P k n Q nL pc ls st := fun H locs la hG hS hL => h (hA H hG) H locs la hG hS hL
theorem jp_len {a t : Nat} {ty : FieldType} {x : vp_A} {v : Int32} (E : Cx p s m args meth c D z own cc nL ret) (hat : ∀ H, P H → va_at (gD D) cls (a, .inl (D.2.2.1 t, x)) H) (ht : (tysD D)[t]? = some (D.2.2.1 t, ty)) (hv : Int32.ofNat x.1 = v) (hd : decode cc pc = .ok (.arraylength, 1)) (h : J p l e R s m args below meth c D z P k n Q nL (pc + 1) ls (.int v :: st)) : J p l e R s m args below meth c D z P k n Q nL pc ls (.ref a :: st) :=
  fun H locs la hG hS hL => va_alen (tys := tysD D) E.1 E.2.1 E.2.2.2.2.2.1.K (at_P (hat H hG)) 0 t rfl ht hv hd (h H locs la hG hS hL)
theorem jp_bald {a N : Nat} {f : Nat → Int32} {q v : Int32} (E : Cx p s m args meth c D z own cc nL ret) (hat : ∀ H, P H → va_at (gD D) cls (a, aint D 1 N f) H) (hin : vp_in q N) (hv : f q.toNatClampNeg = v) (hd : decode cc pc = .ok (.baload, 1)) (h : J p l e R s m args below meth c D z P k n Q nL (pc + 1) ls (.int v :: st)) : J p l e R s m args below meth c D z P k n Q nL pc ls (.int q :: .ref a :: st) := by
  subst hv
  exact fun H locs la hG hS hL => va_bald (tys := tysD D) (cA := D.2.2.1 1) (n := N) (f := f) E.1 E.2.1 E.2.2.2.2.2.1.K (at_P (hat H hG)) 0 1 rfl rfl hin hd (h H locs la hG hS hL)
theorem jp_bast {a N : Nat} {f : Nat → Int32} {q v : Int32} (E : Cx p s m args meth c D z own cc nL ret) (hz : z ≤ a) (hat : ∀ H, P H → va_at (gD D) cls (a, aint D 1 N f) H) (hin : vp_in q N) (i : Nat) (hi : q.toNatClampNeg = i) (hP : ∀ H H1, P H → (∀ q : Nat, q ≠ a → H1[q]? = H[q]?) → va_at (gD D) cls (a, aint D 1 N (upd f i v.toInt8.toInt32)) H1 → P' H1) (hd : decode cc pc = .ok (.bastore, 1)) (h : J p l e R s m args below meth c D z P' k n Q nL (pc + 1) ls st) : J p l e R s m args below meth c D z P k n Q nL pc ls (.int v :: .int q :: .ref a :: st) := by
  subst hi
  intro H locs la hG hS hL
  have hat := hat H hG
  refine W.bast E.1 E.2.1 hat ((E.2.2.2.2.2.1.K.2 1 _ rfl).1 N (fun j0 => .int (f j0))) (fun q => by cases q) (by show ¬ (q < 0 ∨ (arrV _ _ _).slots.size ≤ _); rw [arrV_size]; exact hin) rfl rfl hd fun H1 e1 e2 oq => ?_
  exact h H1 _ la (hP H H1 hG oq (e1.trans (congrArg some arr_upd))) (hS.put e2 oq hz) hL
theorem jp_tb {t N : Nat} {f : Nat → Value} {i : Int32} {v : Value} (E : Cx p s m args meth c D z own cc nL ret) (hT : va_T .byte t N f (Az z) s s.heap) (hin : vp_in i N) (hv : f i.toNatClampNeg = v) (hd : decode cc pc = .ok (.baload, 1)) (h : J p l e R s m args below meth c D z P k n Q nL (pc + 1) ls (v :: st)) : J p l e R s m args below meth c D z P k n Q nL pc ls (.int i :: .ref t :: st) :=
  fun H locs la hG hS hL => va_tb E.1 E.2.1 hT hS hin hv hd (h H locs la hG hS hL)
/-- the first N bytes of one array into another -/
theorem jp_acopyB {src dst N0 N1 N idx : Nat} {f g : Nat → Int32} {v : Int32} (E : Cx p s m args meth c D z own cc nL ret) (hz : z ≤ dst) (hs : ∀ H, P H → va_at (gD D) cls (src, aint D 1 N0 f) H) (hdst : ∀ H, P H → va_at (gD D) cls (dst, aint D 1 N1 g) H) (hv : v.toNatClampNeg = N) (hv0 : ¬ v < 0 ∧ v.toInt = N) (h0 : N ≤ N0) (h1 : N ≤ N1) (hfit : ∀ i, fits .byte (.int (f i)) = true) (w1 : Cond.methodLink own idx arraycopyName ∈ Wall) (w2 : Cond.native arraycopyName ∈ Wall) (w3 : Cond.static arraycopyName ∈ Wall) (w4 : Cond.initialized "java/lang/System" ∈ Wall) (hfr : 1 ≤ R.frames) (hlo : (st.map fun v => v.category).sum + (nativeFrameWords "java/lang/System" "arraycopy" 5 + 11) ≤ R.locals) (hP : ∀ H H1, P H → (∀ q : Nat, q ≠ dst → H1[q]? = H[q]?) → va_at (gD D) cls (dst, aint D 1 N1 (va_cpy f g 0 0 N)) H1 → P' H1) (hd : decode cc pc = .ok (.invokestatic idx, 3)) (h : J p l e R s m args below meth c D z P' k n Q nL (pc + 3) ls st) : J p l e R s m args below meth c D z P k n Q nL pc ls (.int v :: .int 0 :: .ref dst :: .int 0 :: .ref src :: st) := by
  intro H locs la hG hS hL T hT Xs
  have h0' : H[src]? = some (vp_cell (D.2.2.1 1) (N0, .inl f)) := hs H hG
  have h1' : H[dst]? = some (vp_cell (D.2.2.1 1) (N1, .inl g)) := hdst H hG
  obtain ⟨-, k0, hk0, cm0, hkk0⟩ := (E.2.2.2.2.2.1.K.2 1 _ rfl).1 N0 (fun q => .int (f q))
  obtain ⟨-, k1, hk1, cm1, hkk1⟩ := (E.2.2.2.2.2.1.K.2 1 _ rfl).1 N1 (fun q => .int (g q))
  have hB := E.2.2.2.2.1
  obtain ⟨vm', X', step⟩ := Xs.arraycopy E.1 E.2.2.2.1 (hB _ w1) (hB _ w2) (hB _ w3) (hB _ w4) (src := src) (dst := dst) (cs := vp_cell (D.2.2.1 1) (N0, .inl f)) (cd := vp_cell (D.2.2.1 1) (N1, .inl g)) (srcPos := 0) (destPos := 0) (n := v) (by rw [hT]; exact h0') (by rw [hT]; exact h1') (fun _ h => by cases h) (fun _ h => by cases h) (fun h => by cases h) (fun h => by cases h) hk0 hk1 hkk0 hkk1 rfl (by decide) (by decide) hv0.1
    (by rw [hv0.2]; show ¬ _ > ((arrV (D.2.2.1 1) N0 (fun q => .int (f q))).slots.size : Int); rw [arrV_size]; show ¬ (0 + (N : Int) > (N0 : Int)); omega)
    (by rw [hv0.2]; show ¬ _ > ((arrV (D.2.2.1 1) N1 (fun q => .int (g q))).slots.size : Int); rw [arrV_size]; show ¬ (0 + (N : Int) > (N1 : Int)); omega)
    (fun vm₁ _ i hi => by
      rw [hv] at hi
      have e : (vp_cell (D.2.2.1 1) (N0, .inl f)).slots.getD ((0 : Int32).toNatClampNeg + i) .null = .int (f i) := by
        show (arrV (D.2.2.1 1) N0 (fun q => .int (f q))).slots.getD (0 + i) _ = _
        rw [Nat.zero_add, Array.getD_eq_getD_getElem?, arrV_read _ _ (by omega)]
        rfl
      refine ⟨?_, ?_⟩
      · rw [e]
        exact hfit i
      · rw [e]
        exact trivial)
    (g := F0 m pc la (.int v :: .int 0 :: .ref dst :: .int 0 :: .ref src :: st)) rfl (by rw [E.2.2.1]; exact hL.1) (rest := st) rfl (by rw [E.2.1]; exact hd) hfr (by show 2 * 0 + _ + _ ≤ _; omega)
  have h4 : (0 : Int32).toNatClampNeg + v.toNatClampNeg ≤ N0 := by rw [hv]; show 0 + N ≤ N0; omega
  have e1 : copied (vp_cell (D.2.2.1 1) (N0, .inl f)) (vp_cell (D.2.2.1 1) (N1, .inl g)) 0 0 v = vp_cell (D.2.2.1 1) (N1, .inl (va_cpy f g (0 : Int32).toNatClampNeg (0 : Int32).toNatClampNeg v.toNatClampNeg)) := va_copied (fun z => .int z) (D.2.2.1 1) (D.2.2.1 1) f g h4
  rw [hv] at e1
  have e1 : copied (vp_cell (D.2.2.1 1) (N0, .inl f)) (vp_cell (D.2.2.1 1) (N1, .inl g)) 0 0 v = vp_cell (D.2.2.1 1) (N1, .inl (va_cpy f g 0 0 N)) := e1
  rw [e1] at X' step
  have hl : dst < H.size := (Array.getElem?_eq_some_iff.mp h1').1
  have oq : ∀ q : Nat, q ≠ dst → (H.setIfInBounds dst (vp_cell (D.2.2.1 1) (N1, .inl (va_cpy f g 0 0 N))))[q]? = H[q]? := fun q hq => by simp [Array.getElem?_setIfInBounds, Ne.symm hq]
  obtain ⟨t, a1, b1⟩ := h (H.setIfInBounds dst (vp_cell (D.2.2.1 1) (N1, .inl (va_cpy f g 0 0 N)))) _ la (hP H _ hG oq (by show (H.setIfInBounds _ _)[_]? = some _; simp [Array.getElem?_setIfInBounds, hl])) ⟨by simp; exact hS.1, fun q g1 g2 => by
      rw [oq q (fun e => g2 (by rw [e]; exact hz))]
      exact hS.2.1 q g1 g2, fun q hq => by
      rcases List.mem_append.mp hq with h | h
      · exact hS.2.2 q h
      · obtain ⟨x, -, rfl⟩ := List.mem_map.mp h
        exact hz⟩ hL ((T.setVm vm').setCell dst _) (by rw [← hT]; rfl) X'
  exact ⟨t, step t a1, b1⟩
theorem jp_aret {mc ms a : Nat} {ty : FieldType} (E : Cx p s m args meth c D z own cc nL (some (.array ty))) (h1 : k ≤ mc) (h2 : n ≤ ms) (hd : decode cc pc = .ok (.areturn, 1)) : J p l e R s m args below meth c D z P k n (MQ below (QC z (some (.ref a)) P) args s mc ms (Az z)) nL pc ls [.ref a] :=
  fun H locs la hG hS hL => W.widen h1 h2 (W.aret E.1 E.2.1 E.2.2.2.2.2.2.1 (Or.inr ⟨_, rfl⟩) (Or.inr ⟨_, rfl⟩) (fun t ht hW => ⟨rfl, by rw [ht]; exact hG, hS.F ht⟩) hS.2.2 hd E.2.2.2.2.2.2.2.1)
end JQ
theorem GX.kept {D : DD} {z : Nat} {X : XT} {H H1 : Heap} (h : GX D z X H) (oq : ∀ q : Nat, q < z + 528 → H1[q]? = H[q]?) : GX D z X H1 := fun k j i hok => (h k j i hok).kept (oq _ (by have := ok_lt hok; show z + aX k j i < z + 528; omega))
/-- what a caller holds, kept while the class's cells, the builder and all cells from B on change -/
def FRC (z u B : Nat) (Y : YT) (H : Heap) : Prop := ∀ H' : Heap, (∀ q : Nat, q < B → q ≠ u → q < H.size → ¬ (z ≤ q ∧ q < z + 530) → H'[q]? = H[q]?) → Y H'
theorem FRC.mv {z u B : Nat} {Y : YT} {H H1 : Heap} (h : FRC z u B Y H) (oq : ∀ q : Nat, q < B → q ≠ u → q < H.size → ¬ (z ≤ q ∧ q < z + 530) → H1[q]? = H[q]?) : FRC z u B Y H1 := by
  intro H' hq
  refine h H' fun q h0 hu h1 h2 => ?_
  have e := oq q h0 hu h1 h2
  exact (hq q h0 hu (size_keep h1 e) h2).trans e
theorem FRC.now {z u B : Nat} {Y : YT} {H : Heap} (h : FRC z u B Y H) : Y H := h H fun _ _ _ _ _ => rfl
/-- the world with a builder's cells in hand: the object at u, the bytes b at a, n of them -/
def PB (D : DD) (z B u : Nat) (X : XT) (Y : YT) (a n : Nat) (b : Nat → Int32) (m1 cnt : Int32) (H : Heap) : Prop := (B ≤ a ∧ z + 530 ≤ u ∧ z + 530 ≤ a ∧ a ≠ u) ∧ GX D z X H ∧ FRC z u B Y H ∧ z + 529 < H.size ∧ va_at (gD D) cls (u, .inr (13, [.ref a, .int 0, .int m1, .int cnt])) H ∧ va_at (gD D) cls (a, aint D 1 n b) H
section SB0
variable {D : DD} {z B u : Nat} {X : XT} {Y : YT} {a n : Nat} {b : Nat → Int32} {m1 cnt : Int32} {H H1 : Heap}
theorem PB.obj (h : PB D z B u X Y a n b m1 cnt H) : va_at (gD D) cls (u, .inr (13, [.ref a, .int 0, .int m1, .int cnt])) H := h.2.2.2.2.1
theorem PB.arr (h : PB D z B u X Y a n b m1 cnt H) : va_at (gD D) cls (a, aint D 1 n b) H := h.2.2.2.2.2
theorem PB.ge (h : PB D z B u X Y a n b m1 cnt H) : z ≤ a := by have := h.1; omega
theorem PB.gu (h : PB D z B u X Y a n b m1 cnt H) : z ≤ u := by have := h.1; omega
theorem PB.put {a' n' : Nat} {b' : Nat → Int32} {m1' cnt' : Int32} (h : PB D z B u X Y a n b m1 cnt H) (ha : B ≤ a' ∧ z + 530 ≤ a' ∧ a' ≠ u) (harr : va_at (gD D) cls (a', aint D 1 n' b') H) (oq : ∀ q : Nat, q ≠ u → H1[q]? = H[q]?) (ho : va_at (gD D) cls (u, .inr (13, [.ref a', .int 0, .int m1', .int cnt'])) H1) : PB D z B u X Y a' n' b' m1' cnt' H1 := by
  obtain ⟨g1, h1, h2, h3, g2, g3⟩ := h
  exact ⟨⟨ha.1, g1.2.1, ha.2.1, ha.2.2⟩, h1.kept (fun q hq => oq q (by omega)), h2.mv (fun q _ hu _ _ => oq q hu), size_keep h3 (oq _ (by omega)), ho, harr.kept (oq _ ha.2.2)⟩
theorem PB.bst {b' : Nat → Int32} (h : PB D z B u X Y a n b m1 cnt H) (oq : ∀ q : Nat, q ≠ a → H1[q]? = H[q]?) (harr : va_at (gD D) cls (a, aint D 1 n b') H1) : PB D z B u X Y a n b' m1 cnt H1 := by
  obtain ⟨g1, h1, h2, h3, g2, g3⟩ := h
  exact ⟨g1, h1.kept (fun q hq => oq q (by omega)), h2.mv (fun q hB _ _ _ => oq q (by omega)), size_keep h3 (oq _ (by omega)), g2.kept (oq _ (fun e => g1.2.2.2 e.symm)), harr⟩
theorem PB.old {A : Nat} (h : PB D z B u X Y a n b m1 cnt H) (hA : H.size = A) (oq : ∀ q : Nat, q < A → H1[q]? = H[q]?) : PB D z B u X Y a n b m1 cnt H1 := by
  have l1 : u < H.size := h.obj.lt
  have l2 : a < H.size := h.arr.lt
  obtain ⟨g1, h1, h2, h3, g2, g3⟩ := h
  refine ⟨g1, h1.kept (fun q hq => oq q (by omega)), h2.mv (fun q _ _ hl _ => oq q (by omega)), size_keep h3 (oq _ (by omega)), g2.kept (oq _ (by show u < A; omega)), g3.kept (oq _ (by show a < A; omega))⟩
theorem rcB : RC D (PB D z B u X Y a n b m1 cnt) RJ4 u := fun H h => ⟨13, _, _, rfl, rfl, h.obj⟩
end SB0
section SB1
variable {l : Launch} {D : DD} {z B u : Nat} {X : XT} {Y : YT} {a n : Nat} {b : Nat → Int32} {m1 cnt : Int32} {P P' : Heap → Prop}
theorem c_SB_newLength {x y w r : Int32} (hr : x + (if y < w then w else y) = r) (h0 : ¬ r ≤ 0) (h1 : ¬ 2147483639 < r) : CC l yJ8_newLength_cabcc cJ8_newLength_cabcc 4 (some .int) (rmk 2 0 0) D z [.int x, .int y, .int w] P (some (.int r)) P := by
  refine cc_of pn_J8 (le_ rfl) (ls := [(0, .int x), (1, .int y), (2, .int w)]) rfl ?_
  intro p e s m args below meth c E
  refine j_iload_n E 0 rfl dJ8_newLength_cabcc_0 ?_
  refine j_iload_n E 1 rfl dJ8_newLength_cabcc_1 ?_
  refine j_iload_n E 2 rfl dJ8_newLength_cabcc_2 ?_
  refine j_max [.int x] E ml_J8_194 st_Lib_Math_max_name in_J9 cd_Lib_Math_max_name (le_ rfl) (le_ rfl) (le_ rfl) (le_ rfl) dJ8_newLength_cabcc_3 ?_
  refine j_iadd E dJ8_newLength_cabcc_6 ?_
  refine j_name (w := r) hr.symm ?_
  refine j_istore_n (ls' := [(3, .int r), (0, .int x), (1, .int y), (2, .int w)]) E (lt_ rfl) rfl dJ8_newLength_cabcc_7 ?_
  refine j_iconst E 0 ic_0 dJ8_newLength_cabcc_8 ?_
  refine j_iload_n E 0 rfl dJ8_newLength_cabcc_9 ?_
  refine j_icmp_ge E 21 (by decide) dJ8_newLength_cabcc_10 (fun q => absurd q h0) (fun _ => ?_)
  refine j_iload_n E 0 rfl dJ8_newLength_cabcc_13 ?_
  refine j_ldc E ct_J8_200 dJ8_newLength_cabcc_14 ?_
  refine j_icmp_gt E 21 (by decide) dJ8_newLength_cabcc_16 (fun q => absurd q h1) (fun _ => ?_)
  refine j_iload_n E 0 rfl dJ8_newLength_cabcc_19 ?_
  exact j_iret E rfl (le_ rfl) (le_ rfl) dJ8_newLength_cabcc_20
theorem c_SB_isLatin1 : CC l yJ5_isLatin1_aae02 cJ5_isLatin1_aae02 1 (some .boolean) (rmk 1 0 0) D z [.ref (u)] (PB D z B u X Y a n b m1 cnt) (some (.int 1)) (PB D z B u X Y a n b m1 cnt) := by
  refine cc_of pn_J5 (le_ rfl) (ls := [(0, .ref (u))]) rfl ?_
  intro p e s m args below meth c E
  refine j_gets E E.2.2.2.2.2.1.Cs fl_J5_18 dJ5_isLatin1_aae02_0 ?_
  refine j_if_eq E 17 (by decide) dJ5_isLatin1_aae02_3 (fun q => absurd q (by decide)) (fun _ => ?_)
  refine j_aload_n E 0 rfl dJ5_isLatin1_aae02_6 ?_
  refine jp_get (f := 1) E (fun H h => h.obj) cf_J4 fl_J5_22 (lt_ rfl) rfl rfl dJ5_isLatin1_aae02_7 ?_
  refine j_if_ne E 17 (by decide) dJ5_isLatin1_aae02_10 (fun q => absurd rfl q) (fun _ => ?_)
  refine j_iconst E 1 ic_1 dJ5_isLatin1_aae02_13 ?_
  refine j_goto E 18 (by decide) dJ5_isLatin1_aae02_14 ?_
  exact j_iret E rfl (le_ rfl) (le_ rfl) dJ5_isLatin1_aae02_18
theorem ms_J7_copyOf_9075b : MS yJ7_copyOf_9075b cJ7_copyOf_9075b 3 (some (.array .byte)) RJ7 2 := ⟨st_J7_copyOf_9075b, in_J7, cd_J7_copyOf_9075b, rfl, by decide +kernel, by decide +kernel, by decide +kernel⟩
/-- Arrays.copyOf of bytes, to a greater length -/
theorem c_SB_copyOf {n' A : Nat} (hz : z ≤ A) (hat : ∀ H, P H → va_at (gD D) cls (a, aint D 1 n b) H) (hsz : ∀ H, P H → H.size = A) (hne : n < n') (hn' : n' ≤ 65536) (hf : sb_Fit b) (hP : ∀ H H1, P H → (∀ q : Nat, q < A → H1[q]? = H[q]?) → va_at (gD D) cls (A, aint D 1 n' (va_cpy b (fun _ => 0) 0 0 n)) H1 → P' H1) : CC l yJ7_copyOf_9075b cJ7_copyOf_9075b 3 (some (.array .byte)) (rmk 2 1 n') D z [.ref a, .int (nI n')] P (some (.ref A)) P' := by
  refine cc_of pn_J7 (le_ rfl) (ls := [(0, .ref a), (1, .int (nI n'))]) rfl ?_
  intro p e s m args below meth c E
  refine j_iload_n E 1 rfl dJ7_copyOf_9075b_0 ?_
  refine j_aload_n E 0 rfl dJ7_copyOf_9075b_1 ?_
  refine jp_len (t := 1) (v := nI n) E hat rfl rfl dJ7_copyOf_9075b_2 ?_
  refine j_icmp_ne E 14 (by decide) dJ7_copyOf_9075b_3 (fun _ => ?_) (fun q => absurd ((nI_eq (by omega) (by omega)).mp q) (by omega))
  refine j_iload_n E 1 rfl dJ7_copyOf_9075b_14 ?_
  refine jp_newa (A := A) (N' := n') (t := 1) (a0 := (n', .inl (fun _ => 0))) (P' := fun H1 => ∃ H, P H ∧ (∀ q : Nat, q < A → H1[q]? = H[q]?) ∧ va_at (gD D) cls (A, aint D 1 n' (fun _ => 0)) H1) E ar_byte rfl rfl (fun _ h => h) (fun _ => rfl) hsz (nI_pos (by omega)) (nI_clamp (by omega)) (by show n' * 1 ≤ _; omega) (le_ rfl) (by show 0 + n' ≤ n'; omega) (fun H H1 h e1 e2 e3 => ⟨H, h, e2, e3⟩) dJ7_copyOf_9075b_15 ?_
  refine j_astore_n (ls' := [(2, .ref A), (0, .ref a), (1, .int (nI n'))]) E (lt_ rfl) rfl dJ7_copyOf_9075b_17 ?_
  have hat1 : ∀ H1, (∃ H, P H ∧ (∀ q : Nat, q < A → H1[q]? = H[q]?) ∧ va_at (gD D) cls (A, aint D 1 n' (fun _ => 0)) H1) → va_at (gD D) cls (a, aint D 1 n b) H1 := by
    intro H1 ⟨H, h1, h2, h3⟩
    have hl : a < H.size := (hat H h1).lt
    exact (hat H h1).kept (h2 _ (by show a < A; have := hsz H h1; omega))
  refine j_aload_n E 1 rfl dJ7_copyOf_9075b_18 ?_
  refine j_iconst E 0 ic_0 dJ7_copyOf_9075b_19 ?_
  refine j_aload_n E 0 rfl dJ7_copyOf_9075b_20 ?_
  refine j_iconst E 0 ic_0 dJ7_copyOf_9075b_21 ?_
  refine j_aload_n E 1 rfl dJ7_copyOf_9075b_22 ?_
  refine jp_len (t := 1) (v := nI n) E hat1 rfl rfl dJ7_copyOf_9075b_23 ?_
  refine j_iload_n E 2 rfl dJ7_copyOf_9075b_24 ?_
  refine j_min [.int 0, .ref A, .int 0, .ref a] E ml_J7_304 st_Lib_Math_min_name in_J9 cd_Lib_Math_min_name (le_ rfl) (le_ rfl) (by show 0 + 1 ≤ 1; omega) (by show 0 + n' ≤ n'; omega) dJ7_copyOf_9075b_25 ?_
  refine j_name (w := nI n) (if_neg (nI_nlt (by omega) (by omega))).symm ?_
  refine jp_acopyB (N := n) (P' := P') E hz hat1 (fun H1 ⟨H, h1, h2, h3⟩ => h3) (nI_clamp (by omega)) ⟨nI_pos (by omega), nI_toInt (by omega)⟩ (Nat.le_refl _) (by omega) hf ml_J7_150 na_arraycopyName st_arraycopyName in_J10 (le_ rfl) (le_ rfl) (fun H1 H2 ⟨H, h1, h2, h3⟩ g1 g2 => hP H H2 h1 (fun q hq => (g1 q (by omega)).trans (h2 q hq)) g2) dJ7_copyOf_9075b_28 ?_
  refine j_aload_n E 0 rfl dJ7_copyOf_9075b_31 ?_
  exact jp_aret E (by show 0 + 1 ≤ 1; omega) (by show 0 + n' ≤ n'; omega) dJ7_copyOf_9075b_32
theorem c_SB_newCapacity {q : Nat} (hq : n < q) (hn : n ≤ 65536) (h61 : q ≤ 600) (hobj : ∀ H, P H → va_at (gD D) cls (u, .inr (13, [.ref a, .int 0, .int m1, .int cnt])) H) (hat : ∀ H, P H → va_at (gD D) cls (a, aint D 1 n b) H) : CC l yJ5_newCapacity_0f7a4 cJ5_newCapacity_0f7a4 6 (some .int) (rmk 3 0 0) D z [.ref (u), .int (nI q)] P (some (.int (nI (sb_cap q n)))) P := by
  have hc : sb_cap q n = n + (if q - n < n + 2 then n + 2 else q - n) := by
    unfold sb_cap
    rw [if_neg (by omega)]
    split <;> split <;> omega
  have hg := sb_cap_ge q n
  have hl : sb_cap q n ≤ 1200 := by rw [hc]; split <;> omega
  have e3 : nI n + (if nI (q - n) < nI (n + 2) then nI (n + 2) else nI (q - n)) = nI (sb_cap q n) := by
    rw [hc]
    by_cases h2 : q - n < n + 2
    · rw [if_pos h2, if_pos (nI_lt h2 (by omega))]
      exact nI_add n (n + 2)
    · rw [if_neg h2, if_neg (nI_nlt (by omega) (by omega))]
      exact nI_add n (q - n)
  refine cc_of pn_J5 (le_ rfl) (ls := [(0, .ref (u)), (1, .int (nI q))]) rfl ?_
  intro p e s m args below meth c E
  refine j_aload_n E 0 rfl dJ5_newCapacity_0f7a4_0 ?_
  refine jp_get (f := 0) E hobj cf_J4 fl_J5_15 (lt_ rfl) rfl rfl dJ5_newCapacity_0f7a4_1 ?_
  refine jp_len (t := 1) (v := nI n) E hat rfl rfl dJ5_newCapacity_0f7a4_4 ?_
  refine j_istore_n (ls' := [(2, .int (nI n)), (0, .ref (u)), (1, .int (nI q))]) E (lt_ rfl) rfl dJ5_newCapacity_0f7a4_5 ?_
  refine j_iload_n E 2 rfl dJ5_newCapacity_0f7a4_6 ?_
  refine j_aload_n E 1 rfl dJ5_newCapacity_0f7a4_7 ?_
  refine jp_get (f := 1) E hobj cf_J4 fl_J5_22 (lt_ rfl) rfl rfl dJ5_newCapacity_0f7a4_8 ?_
  refine j_ishl E dJ5_newCapacity_0f7a4_11 ?_
  refine j_name (w := nI q) (sb_shl0 (nI q)).symm ?_
  refine j_istore_n (ls' := [(3, .int (nI q)), (2, .int (nI n)), (0, .ref (u)), (1, .int (nI q))]) E (lt_ rfl) rfl dJ5_newCapacity_0f7a4_12 ?_
  refine j_iload_n E 0 rfl dJ5_newCapacity_0f7a4_13 ?_
  refine j_iload_n E 1 rfl dJ5_newCapacity_0f7a4_14 ?_
  refine j_isub E dJ5_newCapacity_0f7a4_15 ?_
  refine j_name (w := nI (q - n)) (pk_sub (by omega)).symm ?_
  refine j_istore (ls' := [(4, .int (nI (q - n))), (3, .int (nI q)), (2, .int (nI n)), (0, .ref (u)), (1, .int (nI q))]) E (lt_ rfl) rfl dJ5_newCapacity_0f7a4_16 ?_
  refine j_iload_n E 2 rfl dJ5_newCapacity_0f7a4_18 ?_
  refine j_iload E 0 rfl dJ5_newCapacity_0f7a4_19 ?_
  refine j_iload_n E 2 rfl dJ5_newCapacity_0f7a4_21 ?_
  refine j_iconst E 2 ic_2 dJ5_newCapacity_0f7a4_22 ?_
  refine j_aload_n E 3 rfl dJ5_newCapacity_0f7a4_23 ?_
  refine jp_get (f := 1) E hobj cf_J4 fl_J5_22 (lt_ rfl) rfl rfl dJ5_newCapacity_0f7a4_24 ?_
  refine j_ishl E dJ5_newCapacity_0f7a4_27 ?_
  refine j_name (w := nI 2) (sb_shl0 (nI 2)).symm ?_
  refine j_iadd E dJ5_newCapacity_0f7a4_28 ?_
  refine j_name (w := nI (n + 2)) (nI_add n 2).symm ?_
  refine j_invT [] [.int (nI (sb_cap q n))] E (c_SB_newLength e3 (nI_nle (by omega) (by omega)) (nI_nlt (a := 2147483639) (b := sb_cap q n) (by omega) (by decide))) ml_J5_114 ms_J8_newLength_cabcc rfl ⟨le_ rfl, le_ rfl⟩ rfl rfl (le_ rfl) ⟨le_ rfl, le_ rfl⟩ dJ5_newCapacity_0f7a4_29 ?_
  refine j_istore (ls' := [(5, .int (nI (sb_cap q n))), (4, .int (nI (q - n))), (3, .int (nI q)), (2, .int (nI n)), (0, .ref (u)), (1, .int (nI q))]) E (lt_ rfl) rfl dJ5_newCapacity_0f7a4_32 ?_
  refine j_iload E 0 rfl dJ5_newCapacity_0f7a4_34 ?_
  refine j_ldc E ct_J5_39 dJ5_newCapacity_0f7a4_36 ?_
  refine j_icmp_ne E 51 (by decide) dJ5_newCapacity_0f7a4_38 (fun _ => ?_) (fun q9 => absurd ((nI_eq (a := sb_cap q n) (b := 2147483647) (by omega) (by decide)).mp q9) (by omega))
  refine j_iload E 0 rfl dJ5_newCapacity_0f7a4_51 ?_
  refine j_aload_n E 4 rfl dJ5_newCapacity_0f7a4_53 ?_
  refine jp_get (f := 1) E hobj cf_J4 fl_J5_22 (lt_ rfl) rfl rfl dJ5_newCapacity_0f7a4_54 ?_
  refine j_ishr E dJ5_newCapacity_0f7a4_57 ?_
  refine j_name (w := nI (sb_cap q n)) (sb_shr0 _).symm ?_
  exact j_iret E rfl (le_ rfl) (le_ rfl) dJ5_newCapacity_0f7a4_58
/-- behind ensureCapacityInternal -/
def PE (D : DD) (z B u : Nat) (X : XT) (Y : YT) (n q : Nat) (b : Nat → Int32) (m1 cnt : Int32) (H : Heap) : Prop := ∃ x : Nat × Nat × (Nat → Int32), PB D z B u X Y x.1 x.2.1 x.2.2 m1 cnt H ∧ n ≤ x.2.1 ∧ q ≤ x.2.1 ∧ x.2.1 ≤ 65536 ∧ sb_Fit x.2.2 ∧ ∀ i, i < n → x.2.2 i = b i
theorem c_SB_ensure {q : Nat} (h61 : q ≤ 600) (hn : n ≤ 65536) (hf : sb_Fit b) : CC l yJ5_ensureCapacityInternal_d00df cJ5_ensureCapacityInternal_d00df 3 none (rmk 4 1 1200) D z [.ref (u), .int (nI q)] (PB D z B u X Y a n b m1 cnt) none (PE D z B u X Y n q b m1 cnt) := by
  refine cc_of pn_J5 (le_ rfl) (ls := [(0, .ref (u)), (1, .int (nI q))]) rfl ?_
  intro p e s m args below meth c E
  refine j_aload_n E 0 rfl dJ5_ensureCapacityInternal_d00df_0 ?_
  refine jp_get (f := 0) E (fun H h => h.obj) cf_J4 fl_J5_15 (lt_ rfl) rfl rfl dJ5_ensureCapacityInternal_d00df_1 ?_
  refine jp_len (t := 1) (v := nI n) E (fun H h => h.arr) rfl rfl dJ5_ensureCapacityInternal_d00df_4 ?_
  refine j_aload_n E 0 rfl dJ5_ensureCapacityInternal_d00df_5 ?_
  refine jp_get (f := 1) E (fun H h => h.obj) cf_J4 fl_J5_22 (lt_ rfl) rfl rfl dJ5_ensureCapacityInternal_d00df_6 ?_
  refine j_ishr E dJ5_ensureCapacityInternal_d00df_9 ?_
  refine j_name (w := nI n) (sb_shr0 _).symm ?_
  refine j_istore_n (ls' := [(2, .int (nI n)), (0, .ref (u)), (1, .int (nI q))]) E (lt_ rfl) rfl dJ5_ensureCapacityInternal_d00df_10 ?_
  refine j_iload_n E 2 rfl dJ5_ensureCapacityInternal_d00df_11 ?_
  refine j_iload_n E 0 rfl dJ5_ensureCapacityInternal_d00df_12 ?_
  refine j_isub E dJ5_ensureCapacityInternal_d00df_13 ?_
  have e1 : (nI q - nI n).toInt = (q : Int) - n := pk_sub_toInt (by omega) (by omega)
  refine j_if_le E 38 (by decide) dJ5_ensureCapacityInternal_d00df_14 (fun hc => ?_) (fun hc => ?_)
  · rw [Int32.le_iff_toInt_le, e1, Int32.toInt_zero] at hc
    refine j_wk (P' := PE D z B u X Y n q b m1 cnt) (fun H h => ⟨(a, n, b), h, Nat.le_refl _, by show q ≤ n; omega, hn, hf, fun _ _ => rfl⟩) ?_
    exact j_vret E (le_ rfl) (le_ rfl) dJ5_ensureCapacityInternal_d00df_38
  · rw [Int32.le_iff_toInt_le, e1, Int32.toInt_zero] at hc
    have hlt : n < q := by omega
    have hg := sb_cap_ge q n
    have hl : sb_cap q n ≤ 1200 := by
      unfold sb_cap
      rw [if_neg (by omega)]
      split <;> omega
    refine j_ex (F := fun A H => PB D z B u X Y a n b m1 cnt H ∧ H.size = A) (fun H h => ⟨H.size, h, rfl⟩) fun A => ?_
    refine j_pre (A := B ≤ A ∧ z + 530 ≤ A ∧ A ≠ u) (fun H h => by
      have l1 : u < H.size := h.1.obj.lt
      have l2 : a < H.size := h.1.arr.lt
      have g1 := h.1.1
      have := h.2
      omega) fun hA => ?_
    refine j_pre (fun H h => h.1.gu) fun hgu => ?_
    refine j_aload_n E 1 rfl dJ5_ensureCapacityInternal_d00df_17 ?_
    refine j_aload_n E 1 rfl dJ5_ensureCapacityInternal_d00df_18 ?_
    refine jp_get (f := 0) E (fun H h => h.1.obj) cf_J4 fl_J5_15 (lt_ rfl) rfl rfl dJ5_ensureCapacityInternal_d00df_19 ?_
    refine j_aload_n E 1 rfl dJ5_ensureCapacityInternal_d00df_22 ?_
    refine j_iload_n E 2 rfl dJ5_ensureCapacityInternal_d00df_23 ?_
    refine j_invU [.ref a, .ref (u)] [.int (nI (sb_cap q n)), .ref a, .ref (u)] E (c_SB_newCapacity hlt hn h61 (fun H h => h.1.obj) (fun H h => h.1.arr)) ml_J5_104 mu_J5_newCapacity_0f7a4 (E.2.2.2.2.1 _ wx_1) rfl ⟨le_ rfl, le_ rfl⟩ (fun H h => rcB H h.1) rfl rfl (le_ rfl) ⟨le_ rfl, le_ rfl⟩ dJ5_ensureCapacityInternal_d00df_24 ?_
    refine j_aload_n E 1 rfl dJ5_ensureCapacityInternal_d00df_27 ?_
    refine jp_get (f := 1) E (fun H h => h.1.obj) cf_J4 fl_J5_22 (lt_ rfl) rfl rfl dJ5_ensureCapacityInternal_d00df_28 ?_
    refine j_ishl E dJ5_ensureCapacityInternal_d00df_31 ?_
    refine j_name (w := nI (sb_cap q n)) (sb_shl0 _).symm ?_
    refine j_invT (P' := fun H => PB D z B u X Y a n b m1 cnt H ∧ va_at (gD D) cls (A, aint D 1 (sb_cap q n) (va_cpy b (fun _ => 0) 0 0 n)) H) [.ref (u)] [.ref A, .ref (u)] E (c_SB_copyOf (A := A) (by omega) (fun H h => h.1.arr) (fun H h => h.2) (by omega) (by omega) hf (fun H H1 h g1 g2 => ⟨h.1.old h.2 g1, g2⟩)) ml_J5_108 ms_J7_copyOf_9075b rfl ⟨le_ rfl, le_ rfl⟩ rfl rfl (le_ rfl) ⟨le_ rfl, by show 0 + 0 + sb_cap q n ≤ 1200; omega⟩ dJ5_ensureCapacityInternal_d00df_32 ?_
    refine jp_put (f := 0) (P' := PE D z B u X Y n q b m1 cnt) E hgu (fun H h => h.1.obj) cf_J4 fl_J5_15 (lt_ rfl) ⟨rfl, rfl⟩ ⟨rfl, rfl⟩ (lt_ rfl) (fun H H1 h e1 e2 e3 => ⟨(A, sb_cap q n, va_cpy b (fun _ => 0) 0 0 n), h.1.put hA h.2 e2 e3, by show n ≤ sb_cap q n; omega, hg, by show sb_cap q n ≤ 65536; omega, sb_fitC hf sb_fit0, fun i hi => by show va_cpy b (fun _ => 0) 0 0 n i = b i; exact sb_cpy0 hi⟩) dJ5_ensureCapacityInternal_d00df_35 ?_
    exact j_vret E (le_ rfl) (by show 0 + 0 + sb_cap q n ≤ 1200; omega) dJ5_ensureCapacityInternal_d00df_38
end SB1
