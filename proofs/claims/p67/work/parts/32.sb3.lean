/-! STRINGS THAT THE RUN MAKES; the builder's append of texts, its making, toString -/
set_option maxRecDepth 20000 in
theorem uw_J0 : ∀ w ∈ u_ws RJ0 TJ0 4, w ∈ Wall := by decide +kernel
set_option maxRecDepth 20000 in
theorem cf_J0 : CF 14 RJ0 TJ0 tyJ0 4 := ⟨rfl, uw_J0, tyJ0_ok, nmJ0⟩
set_option maxRecDepth 20000 in
theorem df_J0 : ∀ j, j < 4 → defaultValue (tyJ0 j) = vp_V [.null, .int 0, .int 0, .int 0] j := by
  intro j hj
  match j, hj with
  | 0, _ => rfl
  | 1, _ => rfl
  | 2, _ => rfl
  | 3, _ => rfl
  | q + 4, h => omega
/-- a String at w, its bytes at v -/
def SO (D : DD) (w v : Nat) (T : List Int32) (f : Nat → Int32) (H : Heap) : Prop := va_at (gD D) cls (w, .inr (14, [.ref v, .int 0, .int 0, .int 0])) H ∧ va_at (gD D) cls (v, aint D 1 T.length f) H
abbrev OKT (T : List Int32) : Prop := T.length ≤ 600 ∧ ∀ v ∈ T, v = nI v.toNatClampNeg ∧ v.toNatClampNeg < 128
set_option maxRecDepth 20000 in
theorem okt_get {T : List Int32} (h : OKT T) {q : Nat} (hq : q < T.length) : ∃ c, c < 128 ∧ T.getD q 0 = nI c := ⟨_, (h.2 _ (getD_mem hq)).2, (h.2 _ (getD_mem hq)).1⟩
def OKS (T : List Int32) (f : Nat → Int32) : Prop := OKT T ∧ sb_Fit f ∧ ∀ q, q < T.length → f q = T.getD q 0
set_option maxRecDepth 20000 in
theorem cpy_hi {f g : Nat → Int32} {w n i : Nat} (hi : i < n) : va_cpy f g 0 w n (w + i) = f i := (pk_cpy_in (by omega) (by omega)).trans (congrArg f (show 0 + (w + i - w) = i by omega))
set_option maxRecDepth 20000 in
theorem b7 : ∀ c, c < 128 → ((nI c &&& 255).toUInt32 % 65536).toInt32 = nI c ∧ narrow .char (.int (nI c)) = .int (nI c) := by decide +kernel
section HS
variable {p : Program} {l : Launch} {e : Env} {R : Room} {s : State} {m : MethodId} {args : Array Value} {below : List Frame} {meth : Method} {c : Code} {D : DD} {z : Nat} {own : String} {cc : ByteArray} {nL : Nat} {ret : Option FieldType} {P P' : Heap → Prop} {k n : Nat} {Q : State → Prop} {pc : Nat} {ls ls' : List (Nat × Value)} {st st0 : List Value} {wd vd : Nat} {T : List Int32} {fd : Nat → Int32}
set_option maxRecDepth 20000 in
theorem rcH (hT : ∀ H, P H → SO D wd vd T fd H) : RC D P RJ0 wd := fun H h => ⟨14, _, _, rfl, rfl, (hT H h).1⟩
set_option maxRecDepth 20000 in
theorem j_ifnn {x : Nat} (E : Cx p s m args meth c D z own cc nL ret) {off : Int} (tgt : Nat) (ht : (pc : Int) + off = (tgt : Int)) (hd : decode cc pc = .ok (.ifnonnull off, 3)) (h : J p l e R s m args below meth c D z P k n Q nL tgt ls st) : J p l e R s m args below meth c D z P k n Q nL pc ls (.ref x :: st) :=
  fun H locs la hG hS hL => lv_ifnonnull E.1 E.2.1 hd ht (h H locs la hG hS hL)
set_option maxRecDepth 20000 in
theorem j_anull (E : Cx p s m args meth c D z own cc nL ret) (hd : decode cc pc = .ok (.aconst_null, 1)) (h : J p l e R s m args below meth c D z P k n Q nL (pc + 1) ls (.null :: st)) : J p l e R s m args below meth c D z P k n Q nL pc ls st :=
  fun H locs la hG hS hL => lv_null E.1 E.2.1 hd (h H locs la hG hS hL)
set_option maxRecDepth 20000 in
/-- bytes of a source, however it is known, into an array of the world, from its place dp on -/
theorem jp_acopyG {src dst N N1 idx dp : Nat} {f g : Nat → Int32} {v w : Int32} (E : Cx p s m args meth c D z own cc nL ret) (hz : z ≤ dst) (hs : ∀ (H : Heap) (locs : List Loc), P H → va_S (Az z) s.heap H locs → ∃ scr : Cell, H[src]? = some scr ∧ s.isArrayOf scr .byte ∧ scr.vm ≠ .unknown ∧ N ≤ scr.slots.size ∧ ∀ j : Nat, j < N → scr.slots[j]? = some (.int (f j))) (hdst : ∀ H, P H → va_at (gD D) cls (dst, aint D 1 N1 g) H) (hv : v.toNatClampNeg = N) (hv0 : ¬ v < 0 ∧ v.toInt = N) (hw : w.toNatClampNeg = dp) (hw0 : ¬ w < 0 ∧ w.toInt = dp) (h1 : dp + N ≤ N1) (hfit : ∀ i, i < N → fits .byte (.int (f i)) = true) (w1 : Cond.methodLink own idx arraycopyName ∈ Wall) (w2 : Cond.native arraycopyName ∈ Wall) (w3 : Cond.static arraycopyName ∈ Wall) (w4 : Cond.initialized "java/lang/System" ∈ Wall) (hfr : 1 ≤ R.frames) (hlo : (st.map fun v => v.category).sum + (nativeFrameWords "java/lang/System" "arraycopy" 5 + 11) ≤ R.locals) (hP : ∀ H H1, P H → (∀ q : Nat, q ≠ dst → H1[q]? = H[q]?) → va_at (gD D) cls (dst, aint D 1 N1 (va_cpy f g 0 dp N)) H1 → P' H1) (hd : decode cc pc = .ok (.invokestatic idx, 3)) (h : J p l e R s m args below meth c D z P' k n Q nL (pc + 3) ls st) : J p l e R s m args below meth c D z P k n Q nL pc ls (.int v :: .int w :: .ref dst :: .int 0 :: .ref src :: st) := by
  intro H locs la hG hS hL T hT Xs
  obtain ⟨scr, s1, ⟨s6, k0, hk0, cm0, hkk0⟩, s3, s4, s5⟩ := hs H locs hG hS
  have h1' : H[dst]? = some (vp_cell (D.2.2.1 1) (N1, .inl g)) := hdst H hG
  obtain ⟨-, k1, hk1, cm1, hkk1⟩ := (E.2.2.2.2.2.1.K.2 1 _ rfl).1 N1 (fun q => .int (g q))
  have hB := E.2.2.2.2.1
  obtain ⟨vm', X', step⟩ := Xs.arraycopy E.1 E.2.2.2.1 (hB _ w1) (hB _ w2) (hB _ w3) (hB _ w4) (src := src) (dst := dst) (cs := scr) (cd := vp_cell (D.2.2.1 1) (N1, .inl g)) (srcPos := 0) (destPos := w) (n := v) (by rw [hT]; exact s1) (by rw [hT]; exact h1') s6 (fun _ h => by cases h) s3 (fun h => by cases h) hk0 hk1 hkk0 hkk1 (by simp [refKind]) (by decide) hw0.1 hv0.1
    (by rw [hv0.2]; show ¬ (0 : Int) + _ > _; omega)
    (by rw [hv0.2, hw0.2]; show ¬ _ > ((arrV (D.2.2.1 1) N1 (fun q => .int (g q))).slots.size : Int); rw [arrV_size]; omega)
    (fun vm₁ _ i hi => by
      rw [hv] at hi
      have e : scr.slots.getD ((0 : Int32).toNatClampNeg + i) .null = .int (f i) := by
        show scr.slots.getD (0 + i) _ = _
        rw [Nat.zero_add, Array.getD_eq_getD_getElem?, s5 _ hi]
        rfl
      refine ⟨?_, ?_⟩
      · rw [e]
        exact hfit i hi
      · rw [e]
        exact trivial)
    (g := F0 m pc la (.int v :: .int w :: .ref dst :: .int 0 :: .ref src :: st)) rfl (by rw [E.2.2.1]; exact hL.1) (rest := st) rfl (by rw [E.2.1]; exact hd) hfr (by show 2 * 0 + _ + _ ≤ _; omega)
  have h4 : (0 : Int32).toNatClampNeg + v.toNatClampNeg ≤ N := by rw [hv]; show 0 + N ≤ N; omega
  have e1 : copied scr (vp_cell (D.2.2.1 1) (N1, .inl g)) 0 w v = vp_cell (D.2.2.1 1) (N1, .inl (va_cpy f g (0 : Int32).toNatClampNeg w.toNatClampNeg v.toNatClampNeg)) := va_copiedX (fun z => .int z) scr (D.2.2.1 1) f g s5 h4
  rw [hv, hw] at e1
  have e1 : copied scr (vp_cell (D.2.2.1 1) (N1, .inl g)) 0 w v = vp_cell (D.2.2.1 1) (N1, .inl (va_cpy f g 0 dp N)) := e1
  rw [e1] at X' step
  have hl : dst < H.size := (Array.getElem?_eq_some_iff.mp h1').1
  have oq : ∀ q : Nat, q ≠ dst → (H.setIfInBounds dst (vp_cell (D.2.2.1 1) (N1, .inl (va_cpy f g 0 dp N))))[q]? = H[q]? := fun q hq => by simp [Array.getElem?_setIfInBounds, Ne.symm hq]
  obtain ⟨t, a1, b1⟩ := h (H.setIfInBounds dst (vp_cell (D.2.2.1 1) (N1, .inl (va_cpy f g 0 dp N)))) _ la (hP H _ hG oq (by show (H.setIfInBounds _ _)[_]? = some _; simp [Array.getElem?_setIfInBounds, hl])) ⟨by simp; exact hS.1, fun q g1 g2 => by
      rw [oq q (fun e => g2 (by rw [e]; exact hz))]
      exact hS.2.1 q g1 g2, fun q hq => by
      rcases List.mem_append.mp hq with h | h
      · exact hS.2.2 q h
      · obtain ⟨x, -, rfl⟩ := List.mem_map.mp h
        exact hz⟩ hL ((T.setVm vm').setCell dst _) (by rw [← hT]; rfl) X'
  exact ⟨t, step t a1, b1⟩
set_option maxRecDepth 20000 in
/-- the source: a String constant's bytes -/
theorem src_K {t : Nat} (E : Cx p s m args meth c D z own cc nL ret) (ht : t < 31) (H : Heap) (locs : List Loc) (hS : va_S (Az z) s.heap H locs) : ∃ scr : Cell, H[D.2.2.2.2.1 t]? = some scr ∧ s.isArrayOf scr .byte ∧ scr.vm ≠ .unknown ∧ strN.getD t 0 ≤ scr.slots.size ∧ ∀ j : Nat, j < strN.getD t 0 → scr.slots[j]? = some (.int ((strB.getD t []).getD j 0)) := by
  obtain ⟨scr, h1, h2, h3, h4, -, h5, h6⟩ := (E.2.2.2.2.2.1.St.1 t ht).2.2.2
  exact ⟨scr, by rw [hS.2.1 _ (Array.getElem?_eq_some_iff.mp h1).1 h6]; exact h1, h2, h3, h4, h5⟩
set_option maxRecDepth 20000 in
/-- the source: an array of the world -/
theorem src_W {a N : Nat} {f : Nat → Int32} (E : Cx p s m args meth c D z own cc nL ret) {H : Heap} (h : va_at (gD D) cls (a, aint D 1 N f) H) : ∃ scr : Cell, H[a]? = some scr ∧ s.isArrayOf scr .byte ∧ scr.vm ≠ .unknown ∧ N ≤ scr.slots.size ∧ ∀ j : Nat, j < N → scr.slots[j]? = some (.int (f j)) := by
  have h : H[a]? = some (vp_cell (D.2.2.1 1) (N, .inl f)) := h
  refine ⟨_, h, (E.2.2.2.2.2.1.K.2 1 _ rfl).1 N (fun q => .int (f q)), (fun h => by cases h), ?_, fun j hj => ?_⟩
  · show N ≤ (arrV (D.2.2.1 1) N (fun q => .int (f q))).slots.size
    rw [arrV_size]
    exact Nat.le_refl _
  · show (arrV (D.2.2.1 1) N (fun q => .int (f q))).slots[j]? = _
    exact arrV_read _ _ hj
end HS
section HS2
variable {l : Launch} {D : DD} {z : Nat} {P : Heap → Prop} {wd vd : Nat} {T : List Int32} {fd : Nat → Int32}
set_option maxRecDepth 20000 in
theorem c_hcoder (hT : ∀ H, P H → SO D wd vd T fd H) : CC l yJ0_coder_7d493 cJ0_coder_7d493 1 (some .byte) (rmk 1 0 0) D z [.ref wd] P (some (.int 0)) P := by
  refine cc_of pn_J0 (le_ rfl) (ls := [(0, .ref wd)]) rfl ?_
  intro p e s m args below meth c E
  refine j_gets E E.2.2.2.2.2.1.Cs fl_J0_38 dJ0_coder_7d493_0 ?_
  refine j_if_eq E 13 (by decide) dJ0_coder_7d493_3 (fun q => absurd q (by decide)) (fun _ => ?_)
  refine j_aload_n E 0 rfl dJ0_coder_7d493_6 ?_
  refine jp_get (f := 1) E (fun H h => (hT H h).1) cf_J0 fl_J0_15 (lt_ rfl) rfl rfl dJ0_coder_7d493_7 ?_
  refine j_goto E 14 (by decide) dJ0_coder_7d493_10 ?_
  exact j_iret E rfl (le_ rfl) (le_ rfl) dJ0_coder_7d493_14
set_option maxRecDepth 20000 in
theorem c_hisL (hT : ∀ H, P H → SO D wd vd T fd H) : CC l yJ0_isLatin1_aae02 cJ0_isLatin1_aae02 1 (some .boolean) (rmk 1 0 0) D z [.ref wd] P (some (.int 1)) P := by
  refine cc_of pn_J0 (le_ rfl) (ls := [(0, .ref wd)]) rfl ?_
  intro p e s m args below meth c E
  refine j_gets E E.2.2.2.2.2.1.Cs fl_J0_38 dJ0_isLatin1_aae02_0 ?_
  refine j_if_eq E 17 (by decide) dJ0_isLatin1_aae02_3 (fun q => absurd q (by decide)) (fun _ => ?_)
  refine j_aload_n E 0 rfl dJ0_isLatin1_aae02_6 ?_
  refine jp_get (f := 1) E (fun H h => (hT H h).1) cf_J0 fl_J0_15 (lt_ rfl) rfl rfl dJ0_isLatin1_aae02_7 ?_
  refine j_if_ne E 17 (by decide) dJ0_isLatin1_aae02_10 (fun q => absurd rfl q) (fun _ => ?_)
  refine j_iconst E 1 ic_1 dJ0_isLatin1_aae02_13 ?_
  refine j_goto E 18 (by decide) dJ0_isLatin1_aae02_14 ?_
  exact j_iret E rfl (le_ rfl) (le_ rfl) dJ0_isLatin1_aae02_18
set_option maxRecDepth 20000 in
theorem c_hlen (hk : OKS T fd) (hT : ∀ H, P H → SO D wd vd T fd H) : CC l yJ0_length_8abf5 cJ0_length_8abf5 1 (some .int) (rmk 2 0 0) D z [.ref wd] P (some (.int (nI T.length))) P := by
  refine cc_of pn_J0 (le_ rfl) (ls := [(0, .ref wd)]) rfl ?_
  intro p e s m args below meth c E
  refine j_aload_n E 0 rfl dJ0_length_8abf5_0 ?_
  refine jp_get (f := 0) E (fun H h => (hT H h).1) cf_J0 fl_J0_9 (lt_ rfl) rfl rfl dJ0_length_8abf5_1 ?_
  refine jp_len (t := 1) (v := nI T.length) E (fun H h => (hT H h).2) rfl rfl dJ0_length_8abf5_4 ?_
  refine j_aload_n E 0 rfl dJ0_length_8abf5_5 ?_
  refine j_invV [.int (nI T.length)] [.int 0, .int (nI T.length)] E (c_hcoder hT) ml_J0_335 mv_J0_coder_7d493 rfl ⟨le_ rfl, le_ rfl⟩ (rcH hT) rfl rfl (le_ rfl) ⟨le_ rfl, le_ rfl⟩ dJ0_length_8abf5_6 ?_
  refine j_ishr E dJ0_length_8abf5_9 ?_
  refine j_name (w := nI T.length) (sb_shr0 _).symm ?_
  exact j_iret E rfl (le_ rfl) (le_ rfl) dJ0_length_8abf5_10
set_option maxRecDepth 20000 in
theorem c_hJ1 {i : Int32} (hk : OKS T fd) (hT : ∀ H, P H → SO D wd vd T fd H) (hin : vp_in i T.length) : CC l yJ1_charAt_3b067 cJ1_charAt_3b067 2 (some .char) (rmk 3 0 0) D z [.ref vd, .int i] P (some (.int (T.getD i.toNatClampNeg 0))) P := by
  obtain ⟨j, hj, rfl⟩ := vp_in_of hin (by have := hk.1.1; omega)
  have hj31 : j < 2 ^ 31 := by have := hk.1.1; omega
  rw [nI_clamp hj31]
  obtain ⟨c0, hc0, ec⟩ := okt_get hk.1 hj
  rw [ec]
  refine cc_of pn_J1 (le_ rfl) (ls := [(0, .ref vd), (1, .int (nI j))]) rfl ?_
  intro p e s m args below meth c E
  refine j_iload_n E 1 rfl dJ1_charAt_3b067_0 ?_
  refine j_aload_n E 0 rfl dJ1_charAt_3b067_1 ?_
  refine jp_len (t := 1) (v := nI T.length) E (fun H h => (hT H h).2) rfl rfl dJ1_charAt_3b067_2 ?_
  refine j_invT [] [] E (c_J0_checkIndex (fun q => hin (Or.inl q)) (nI_lt hj (by have := hk.1.1; omega))) ml_J1_9 ms_J0_checkIndex_df160 rfl ⟨le_ rfl, le_ rfl⟩ rfl rfl (le_ rfl) ⟨le_ rfl, le_ rfl⟩ dJ1_charAt_3b067_3 ?_
  refine j_aload_n E 0 rfl dJ1_charAt_3b067_6 ?_
  refine j_iload_n E 1 rfl dJ1_charAt_3b067_7 ?_
  refine jp_bald (v := nI c0) E (fun H h => (hT H h).2) hin (by rw [nI_clamp hj31, hk.2.2 j hj]; exact ec) dJ1_charAt_3b067_8 ?_
  refine j_sipush E 255 sp_255 dJ1_charAt_3b067_9 ?_
  refine j_iand E dJ1_charAt_3b067_12 ?_
  refine j_i2c E dJ1_charAt_3b067_13 ?_
  rw [(b7 c0 hc0).1]
  exact j_iret E (b7 c0 hc0).2 (le_ rfl) (le_ rfl) dJ1_charAt_3b067_14
set_option maxRecDepth 20000 in
theorem c_hchar {i : Int32} (hk : OKS T fd) (hT : ∀ H, P H → SO D wd vd T fd H) (hin : vp_in i T.length) : CC l yJ0_charAt_5068e cJ0_charAt_5068e 2 (some .char) (rmk 4 0 0) D z [.ref wd, .int i] P (some (.int (T.getD i.toNatClampNeg 0))) P := by
  refine cc_of pn_J0 (le_ rfl) (ls := [(0, .ref wd), (1, .int i)]) rfl ?_
  intro p e s m args below meth c E
  refine j_aload_n E 0 rfl dJ0_charAt_5068e_0 ?_
  refine j_invV [] [.int 1] E (c_hisL hT) ml_J0_492 mv_J0_isLatin1_aae02 rfl ⟨le_ rfl, le_ rfl⟩ (rcH hT) rfl rfl (le_ rfl) ⟨le_ rfl, le_ rfl⟩ dJ0_charAt_5068e_1 ?_
  refine j_if_eq E 16 (by decide) dJ0_charAt_5068e_4 (fun q => absurd q (by decide)) (fun _ => ?_)
  refine j_aload_n E 0 rfl dJ0_charAt_5068e_7 ?_
  refine jp_get (f := 0) E (fun H h => (hT H h).1) cf_J0 fl_J0_9 (lt_ rfl) rfl rfl dJ0_charAt_5068e_8 ?_
  refine j_iload_n E 1 rfl dJ0_charAt_5068e_11 ?_
  refine j_invT [] [.int (T.getD i.toNatClampNeg 0)] E (c_hJ1 hk hT hin) ml_J0_495 ms_J1_charAt rfl ⟨le_ rfl, le_ rfl⟩ rfl rfl (le_ rfl) ⟨le_ rfl, le_ rfl⟩ dJ0_charAt_5068e_12 ?_
  have hn : narrow .char (.int (T.getD i.toNatClampNeg 0)) = .int (T.getD i.toNatClampNeg 0) := by
    obtain ⟨j, hj, rfl⟩ := vp_in_of hin (by have := hk.1.1; omega)
    rw [nI_clamp (by have := hk.1.1; omega)]
    obtain ⟨c0, hc0, ec⟩ := okt_get hk.1 hj
    rw [ec]
    exact (b7 c0 hc0).2
  exact j_iret E hn (le_ rfl) (le_ rfl) dJ0_charAt_5068e_15
end HS2
set_option maxRecDepth 20000 in
theorem str_fitB : ∀ t, t < 31 → ∀ v ∈ strB.getD t [], fits .byte (.int v) = true ∧ ∃ c, c < 128 ∧ v = nI c := by
  have h : ∀ t, t < 31 → ∀ v ∈ strB.getD t [], fits .byte (.int v) = true ∧ v = nI v.toNatClampNeg ∧ v.toNatClampNeg < 128 := by decide +kernel
  intro t ht v hv
  obtain ⟨h1, h2, h3⟩ := h t ht v hv
  exact ⟨h1, _, h3, h2⟩
set_option maxRecDepth 20000 in
theorem str_Fit {t : Nat} (ht : t < 31) : sb_Fit (fun i => (strB.getD t []).getD i 0) := by
  intro i
  by_cases h : i < (strB.getD t []).length
  · exact (str_fitB t ht _ (getD_mem h)).1
  · have : (strB.getD t []).getD i 0 = 0 := by rw [List.getD_eq_getElem?_getD, List.getElem?_eq_none (by omega)]; rfl
    show fits .byte (.int ((strB.getD t []).getD i 0)) = true
    rw [this]
    rfl
set_option maxRecDepth 20000 in
theorem str_fit {t : Nat} (ht : t < 31) {i : Nat} (_ : i < strN.getD t 0) : fits .byte (.int ((strB.getD t []).getD i 0)) = true := str_Fit ht i
section SBA
variable {l : Launch} {D : DD} {z B u : Nat} {X : XT} {Y : YT} {a n : Nat} {b : Nat → Int32} {m1 cnt : Int32} {P P' : Heap → Prop}
set_option maxRecDepth 20000 in
theorem c_gbK {t : Nat} (ht : t < 31) {w : Nat} (hza : z ≤ a) (hat : ∀ H, P H → va_at (gD D) cls (a, aint D 1 n b) H) (hn : n ≤ 65536) (hw : w + (strN.getD t 0) ≤ n) (hP : ∀ H H1, P H → (∀ q : Nat, q ≠ a → H1[q]? = H[q]?) → va_at (gD D) cls (a, aint D 1 n (va_cpy (fun i => (strB.getD t []).getD i 0) b 0 w (strN.getD t 0))) H1 → P' H1) : CC l yJ0_getBytes_840e7 cJ0_getBytes_840e7 4 none (rmk 2 0 0) D z [.ref (D.2.2.2.1 t), .ref a, .int (nI w), .int 0] P none P' := by
  refine cc_of pn_J0 (le_ rfl) (ls := [(0, .ref (D.2.2.2.1 t)), (1, .ref a), (2, .int (nI w)), (3, .int 0)]) rfl ?_
  intro p e s m args below meth c E
  refine j_aload_n E 0 rfl dJ0_getBytes_840e7_0 ?_
  refine j_invVs [] [.int 0] E ht (c_J0_coder ht) ml_J0_335 mv_J0_coder_7d493 rfl ⟨le_ rfl, le_ rfl⟩ rfl rfl (le_ rfl) ⟨le_ rfl, le_ rfl⟩ dJ0_getBytes_840e7_1 ?_
  refine j_iload_n E 3 rfl dJ0_getBytes_840e7_4 ?_
  refine j_icmp_ne E 28 (by decide) dJ0_getBytes_840e7_5 (fun q => absurd rfl q) (fun _ => ?_)
  refine j_aload_n E 0 rfl dJ0_getBytes_840e7_8 ?_
  refine j_getSv E ht fl_J0_9 dJ0_getBytes_840e7_9 ?_
  refine j_iconst E 0 ic_0 dJ0_getBytes_840e7_12 ?_
  refine j_aload_n E 1 rfl dJ0_getBytes_840e7_13 ?_
  refine j_iload_n E 2 rfl dJ0_getBytes_840e7_14 ?_
  refine j_iload_n E 3 rfl dJ0_getBytes_840e7_15 ?_
  refine j_ishl E dJ0_getBytes_840e7_16 ?_
  refine j_name (w := nI w) (sb_shl0 _).symm ?_
  refine j_aload_n E 0 rfl dJ0_getBytes_840e7_17 ?_
  refine j_getSv E ht fl_J0_9 dJ0_getBytes_840e7_18 ?_
  refine j_slen (v := nI (strN.getD t 0)) E ht rfl dJ0_getBytes_840e7_21 ?_
  refine jp_acopyG (N := (strN.getD t 0)) (dp := w) (P' := P') E hza (fun H locs _ hS => src_K E ht H locs hS) hat (nI_clamp (by omega)) ⟨nI_pos (by omega), nI_toInt (by omega)⟩ (nI_clamp (by omega)) ⟨nI_pos (by omega), nI_toInt (by omega)⟩ hw (fun i hi => str_fit ht hi) ml_J0_212 na_arraycopyName st_arraycopyName in_J10 (le_ rfl) (le_ rfl) hP dJ0_getBytes_840e7_22 ?_
  refine j_goto E 43 (by decide) dJ0_getBytes_840e7_25 ?_
  exact j_vret E (le_ rfl) (le_ rfl) dJ0_getBytes_840e7_43
set_option maxRecDepth 20000 in
theorem c_inK {t : Nat} (ht : t < 31) (hobj : ∀ H, P H → va_at (gD D) cls (u, .inr (13, [.ref a, .int 0, .int m1, .int cnt])) H) : CC l yJ5_inflateIfNeededFor_a7421 cJ5_inflateIfNeededFor_a7421 2 none (rmk 2 0 0) D z [.ref u, .ref (D.2.2.2.1 t)] P none P := by
  refine cc_of pn_J5 (le_ rfl) (ls := [(0, .ref u), (1, .ref (D.2.2.2.1 t))]) rfl ?_
  intro p e s m args below meth c E
  refine j_gets E E.2.2.2.2.2.1.Cs fl_J5_18 dJ5_inflateIfNeededFor_a7421_0 ?_
  refine j_if_eq E 21 (by decide) dJ5_inflateIfNeededFor_a7421_3 (fun q => absurd q (by decide)) (fun _ => ?_)
  refine j_aload_n E 0 rfl dJ5_inflateIfNeededFor_a7421_6 ?_
  refine jp_get (f := 1) E hobj cf_J4 fl_J5_22 (lt_ rfl) rfl rfl dJ5_inflateIfNeededFor_a7421_7 ?_
  refine j_aload_n E 1 rfl dJ5_inflateIfNeededFor_a7421_10 ?_
  refine j_invVs [.int 0] [.int 0, .int 0] E ht (c_J0_coder ht) ml_J5_40 mv_J0_coder_7d493 rfl ⟨le_ rfl, le_ rfl⟩ rfl rfl (le_ rfl) ⟨le_ rfl, le_ rfl⟩ dJ5_inflateIfNeededFor_a7421_11 ?_
  refine j_icmp_eq E 21 (by decide) dJ5_inflateIfNeededFor_a7421_14 (fun _ => ?_) (fun q => absurd rfl q)
  exact j_vret E (le_ rfl) (le_ rfl) dJ5_inflateIfNeededFor_a7421_21
set_option maxRecDepth 20000 in
theorem c_psK {t : Nat} (ht : t < 31) {w : Nat} (hza : z ≤ a) (hobj : ∀ H, P H → va_at (gD D) cls (u, .inr (13, [.ref a, .int 0, .int m1, .int cnt])) H) (hat : ∀ H, P H → va_at (gD D) cls (a, aint D 1 n b) H) (hn : n ≤ 65536) (hw : w + (strN.getD t 0) ≤ n) (hP : ∀ H H1, P H → (∀ q : Nat, q ≠ a → H1[q]? = H[q]?) → va_at (gD D) cls (a, aint D 1 n (va_cpy (fun i => (strB.getD t []).getD i 0) b 0 w (strN.getD t 0))) H1 → P' H1) : CC l yJ5_putStringAt_47b60 cJ5_putStringAt_47b60 3 none (rmk 3 0 0) D z [.ref u, .int (nI w), .ref (D.2.2.2.1 t)] P none P' := by
  refine cc_of pn_J5 (le_ rfl) (ls := [(0, .ref u), (1, .int (nI w)), (2, .ref (D.2.2.2.1 t))]) rfl ?_
  intro p e s m args below meth c E
  refine j_aload_n E 0 rfl dJ5_putStringAt_47b60_0 ?_
  refine j_aload_n E 2 rfl dJ5_putStringAt_47b60_1 ?_
  refine j_invU (C := RJ4) [] [] E (c_inK ht hobj) ml_J5_397 mu_J5_inflateIfNeededFor_a7421 (E.2.2.2.2.1 _ wx_3) rfl ⟨le_ rfl, le_ rfl⟩ (fun H h => ⟨13, _, _, rfl, rfl, hobj H h⟩) rfl rfl (le_ rfl) ⟨le_ rfl, le_ rfl⟩ dJ5_putStringAt_47b60_2 ?_
  refine j_aload_n E 2 rfl dJ5_putStringAt_47b60_5 ?_
  refine j_aload_n E 0 rfl dJ5_putStringAt_47b60_6 ?_
  refine jp_get (f := 0) E hobj cf_J4 fl_J5_15 (lt_ rfl) rfl rfl dJ5_putStringAt_47b60_7 ?_
  refine j_iload_n E 1 rfl dJ5_putStringAt_47b60_10 ?_
  refine j_aload_n E 0 rfl dJ5_putStringAt_47b60_11 ?_
  refine jp_get (f := 1) E hobj cf_J4 fl_J5_22 (lt_ rfl) rfl rfl dJ5_putStringAt_47b60_12 ?_
  refine j_invVs [] [] E ht (c_gbK (P' := P') ht hza hat hn hw hP) ml_J5_399 mv_J0_getBytes_840e7 rfl ⟨le_ rfl, le_ rfl⟩ rfl rfl (le_ rfl) ⟨le_ rfl, le_ rfl⟩ dJ5_putStringAt_47b60_15 ?_
  exact j_vret E (le_ rfl) (le_ rfl) dJ5_putStringAt_47b60_18
set_option maxRecDepth 20000 in
theorem c_apK {t : Nat} (ht : t < 31) {w : Nat} (hgu : z ≤ u) (hw : w ≤ n) (hn : n ≤ 65536) (hq : w + (strN.getD t 0) ≤ 600) (hf : sb_Fit b) : CC l yJ5_append_cf1ce cJ5_append_cf1ce 3 (some (.object "java/lang/AbstractStringBuilder")) (rmk 5 1 1200) D z [.ref u, .ref (D.2.2.2.1 t)] (PB D z B u X Y a n b m1 (nI w)) (some (.ref u)) (fun H => ∃ x : Nat × Nat × (Nat → Int32), PB D z B u X Y x.1 x.2.1 x.2.2 m1 (nI (w + (strN.getD t 0))) H ∧ w + (strN.getD t 0) ≤ x.2.1 ∧ x.2.1 ≤ 65536 ∧ sb_Fit x.2.2 ∧ (∀ j, j < w → x.2.2 j = b j) ∧ ∀ i, i < (strN.getD t 0) → x.2.2 (w + i) = (fun i => (strB.getD t []).getD i 0) i) := by
  refine cc_of pn_J5 (le_ rfl) (ls := [(0, .ref u), (1, .ref (D.2.2.2.1 t))]) rfl ?_
  intro p e s m args below meth c E
  refine j_aload_n E 1 rfl dJ5_append_cf1ce_0 ?_
  refine j_ifnn E 9 (by decide) dJ5_append_cf1ce_1 ?_
  refine j_aload_n E 1 rfl dJ5_append_cf1ce_9 ?_
  refine j_invVs [] [.int (nI (strN.getD t 0))] E ht (c_slen (r := nI (strN.getD t 0)) ht (sb_shr0 _)) ml_J5_32 mv_J0_length_8abf5 rfl ⟨le_ rfl, le_ rfl⟩ rfl rfl (le_ rfl) ⟨le_ rfl, le_ rfl⟩ dJ5_append_cf1ce_10 ?_
  refine j_istore_n (ls' := [(2, .int (nI (strN.getD t 0))), (0, .ref u), (1, .ref (D.2.2.2.1 t))]) E (lt_ rfl) rfl dJ5_append_cf1ce_13 ?_
  refine j_aload_n E 1 rfl dJ5_append_cf1ce_14 ?_
  refine j_aload_n E 1 rfl dJ5_append_cf1ce_15 ?_
  refine jp_get (f := 3) E (fun H h => h.obj) cf_J4 fl_J5_79 (lt_ rfl) rfl rfl dJ5_append_cf1ce_16 ?_
  refine j_iload_n E 0 rfl dJ5_append_cf1ce_19 ?_
  refine j_iadd E dJ5_append_cf1ce_20 ?_
  refine j_name (w := nI (w + (strN.getD t 0))) (nI_add _ _).symm ?_
  refine j_invU (P' := PE D z B u X Y n (w + (strN.getD t 0)) b m1 (nI w)) [] [] E (c_SB_ensure (q := w + (strN.getD t 0)) (by omega) hn hf) ml_J5_100 mu_J5_ensureCapacityInternal_d00df (E.2.2.2.2.1 _ wx_0) rfl ⟨le_ rfl, le_ rfl⟩ rcB rfl rfl (le_ rfl) ⟨le_ rfl, le_ rfl⟩ dJ5_append_cf1ce_21 ?_
  refine j_ex (fun H h => h) fun x => ?_
  obtain ⟨a', n', b'⟩ := x
  refine j_pre (A := n ≤ n' ∧ w + (strN.getD t 0) ≤ n' ∧ n' ≤ 65536 ∧ sb_Fit b' ∧ ∀ i, i < n → b' i = b i) (fun H h => h.2) fun hx => ?_
  obtain ⟨h1, h2, h3, h4, h5⟩ := hx
  refine j_wk (P' := PB D z B u X Y a' n' b' m1 (nI w)) (fun H h => h.1) ?_
  refine j_pre (fun H h => h.ge) fun hza => ?_
  refine j_aload_n E 1 rfl dJ5_append_cf1ce_24 ?_
  refine j_aload_n E 1 rfl dJ5_append_cf1ce_25 ?_
  refine jp_get (f := 3) E (fun H h => h.obj) cf_J4 fl_J5_79 (lt_ rfl) rfl rfl dJ5_append_cf1ce_26 ?_
  refine j_aload_n E 2 rfl dJ5_append_cf1ce_29 ?_
  refine j_invU (P' := PB D z B u X Y a' n' (va_cpy (fun i => (strB.getD t []).getD i 0) b' 0 w (strN.getD t 0)) m1 (nI w)) [] [] E (c_psK ht hza (fun H h => h.obj) (fun H h => h.arr) h3 h2 (fun H H1 h g1 g2 => h.bst g1 g2)) ml_J5_208 mu_J5_putStringAt_47b60 (E.2.2.2.2.1 _ wx_2) rfl ⟨le_ rfl, le_ rfl⟩ rcB rfl rfl (le_ rfl) ⟨le_ rfl, le_ rfl⟩ dJ5_append_cf1ce_30 ?_
  refine j_aload_n E 1 rfl dJ5_append_cf1ce_33 ?_
  refine j_dup E rfl dJ5_append_cf1ce_34 ?_
  refine jp_get (f := 3) E (fun H h => h.obj) cf_J4 fl_J5_79 (lt_ rfl) rfl rfl dJ5_append_cf1ce_35 ?_
  refine j_iload_n E 0 rfl dJ5_append_cf1ce_38 ?_
  refine j_iadd E dJ5_append_cf1ce_39 ?_
  refine j_name (w := nI (w + (strN.getD t 0))) (nI_add _ _).symm ?_
  refine jp_put (f := 3) (P' := fun H => ∃ x : Nat × Nat × (Nat → Int32), PB D z B u X Y x.1 x.2.1 x.2.2 m1 (nI (w + (strN.getD t 0))) H ∧ w + (strN.getD t 0) ≤ x.2.1 ∧ x.2.1 ≤ 65536 ∧ sb_Fit x.2.2 ∧ (∀ j, j < w → x.2.2 j = b j) ∧ ∀ i, i < (strN.getD t 0) → x.2.2 (w + i) = (fun i => (strB.getD t []).getD i 0) i) E hgu (fun H h => h.obj) cf_J4 fl_J5_79 (lt_ rfl) ⟨rfl, rfl⟩ ⟨rfl, rfl⟩ (lt_ rfl) (fun H H1 h e1 e2 e3 => ⟨(a', n', va_cpy (fun i => (strB.getD t []).getD i 0) b' 0 w (strN.getD t 0)), h.put ⟨h.1.1, h.1.2.2.1, h.1.2.2.2⟩ h.arr e2 e3, h2, h3, sb_fitC (str_Fit ht) h4, fun j hj => (pk_cpy_out (f := (fun i => (strB.getD t []).getD i 0)) (g := b') (sp := 0) (n := (strN.getD t 0)) (Or.inl hj)).trans (h5 j (by omega)), fun i hi => cpy_hi (f := (fun i => (strB.getD t []).getD i 0)) (g := b') (w := w) hi⟩) dJ5_append_cf1ce_40 ?_
  refine j_aload_n E 1 rfl dJ5_append_cf1ce_43 ?_
  exact j_aret E (le_ rfl) (le_ rfl) dJ5_append_cf1ce_44
set_option maxRecDepth 20000 in
theorem c_gbH {wd vd : Nat} {T : List Int32} {fd : Nat → Int32} (hk : OKS T fd) (hT : ∀ H, P H → SO D wd vd T fd H) {w : Nat} (hza : z ≤ a) (hat : ∀ H, P H → va_at (gD D) cls (a, aint D 1 n b) H) (hn : n ≤ 65536) (hw : w + T.length ≤ n) (hP : ∀ H H1, P H → (∀ q : Nat, q ≠ a → H1[q]? = H[q]?) → va_at (gD D) cls (a, aint D 1 n (va_cpy fd b 0 w T.length)) H1 → P' H1) : CC l yJ0_getBytes_840e7 cJ0_getBytes_840e7 4 none (rmk 2 0 0) D z [.ref wd, .ref a, .int (nI w), .int 0] P none P' := by
  refine cc_of pn_J0 (le_ rfl) (ls := [(0, .ref wd), (1, .ref a), (2, .int (nI w)), (3, .int 0)]) rfl ?_
  intro p e s m args below meth c E
  refine j_aload_n E 0 rfl dJ0_getBytes_840e7_0 ?_
  refine j_invV [] [.int 0] E (c_hcoder hT) ml_J0_335 mv_J0_coder_7d493 rfl ⟨le_ rfl, le_ rfl⟩ (rcH hT) rfl rfl (le_ rfl) ⟨le_ rfl, le_ rfl⟩ dJ0_getBytes_840e7_1 ?_
  refine j_iload_n E 3 rfl dJ0_getBytes_840e7_4 ?_
  refine j_icmp_ne E 28 (by decide) dJ0_getBytes_840e7_5 (fun q => absurd rfl q) (fun _ => ?_)
  refine j_aload_n E 0 rfl dJ0_getBytes_840e7_8 ?_
  refine jp_get (f := 0) E (fun H h => (hT H h).1) cf_J0 fl_J0_9 (lt_ rfl) rfl rfl dJ0_getBytes_840e7_9 ?_
  refine j_iconst E 0 ic_0 dJ0_getBytes_840e7_12 ?_
  refine j_aload_n E 1 rfl dJ0_getBytes_840e7_13 ?_
  refine j_iload_n E 2 rfl dJ0_getBytes_840e7_14 ?_
  refine j_iload_n E 3 rfl dJ0_getBytes_840e7_15 ?_
  refine j_ishl E dJ0_getBytes_840e7_16 ?_
  refine j_name (w := nI w) (sb_shl0 _).symm ?_
  refine j_aload_n E 0 rfl dJ0_getBytes_840e7_17 ?_
  refine jp_get (f := 0) E (fun H h => (hT H h).1) cf_J0 fl_J0_9 (lt_ rfl) rfl rfl dJ0_getBytes_840e7_18 ?_
  refine jp_len (t := 1) (v := nI T.length) E (fun H h => (hT H h).2) rfl rfl dJ0_getBytes_840e7_21 ?_
  refine jp_acopyG (N := T.length) (dp := w) (P' := P') E hza (fun H locs hG _ => src_W E (hT H hG).2) hat (nI_clamp (by omega)) ⟨nI_pos (by omega), nI_toInt (by omega)⟩ (nI_clamp (by omega)) ⟨nI_pos (by omega), nI_toInt (by omega)⟩ hw (fun i _ => hk.2.1 i) ml_J0_212 na_arraycopyName st_arraycopyName in_J10 (le_ rfl) (le_ rfl) hP dJ0_getBytes_840e7_22 ?_
  refine j_goto E 43 (by decide) dJ0_getBytes_840e7_25 ?_
  exact j_vret E (le_ rfl) (le_ rfl) dJ0_getBytes_840e7_43
set_option maxRecDepth 20000 in
theorem c_inH {wd vd : Nat} {T : List Int32} {fd : Nat → Int32} (hk : OKS T fd) (hT : ∀ H, P H → SO D wd vd T fd H) (hobj : ∀ H, P H → va_at (gD D) cls (u, .inr (13, [.ref a, .int 0, .int m1, .int cnt])) H) : CC l yJ5_inflateIfNeededFor_a7421 cJ5_inflateIfNeededFor_a7421 2 none (rmk 2 0 0) D z [.ref u, .ref wd] P none P := by
  refine cc_of pn_J5 (le_ rfl) (ls := [(0, .ref u), (1, .ref wd)]) rfl ?_
  intro p e s m args below meth c E
  refine j_gets E E.2.2.2.2.2.1.Cs fl_J5_18 dJ5_inflateIfNeededFor_a7421_0 ?_
  refine j_if_eq E 21 (by decide) dJ5_inflateIfNeededFor_a7421_3 (fun q => absurd q (by decide)) (fun _ => ?_)
  refine j_aload_n E 0 rfl dJ5_inflateIfNeededFor_a7421_6 ?_
  refine jp_get (f := 1) E hobj cf_J4 fl_J5_22 (lt_ rfl) rfl rfl dJ5_inflateIfNeededFor_a7421_7 ?_
  refine j_aload_n E 1 rfl dJ5_inflateIfNeededFor_a7421_10 ?_
  refine j_invV [.int 0] [.int 0, .int 0] E (c_hcoder hT) ml_J5_40 mv_J0_coder_7d493 rfl ⟨le_ rfl, le_ rfl⟩ (rcH hT) rfl rfl (le_ rfl) ⟨le_ rfl, le_ rfl⟩ dJ5_inflateIfNeededFor_a7421_11 ?_
  refine j_icmp_eq E 21 (by decide) dJ5_inflateIfNeededFor_a7421_14 (fun _ => ?_) (fun q => absurd rfl q)
  exact j_vret E (le_ rfl) (le_ rfl) dJ5_inflateIfNeededFor_a7421_21
set_option maxRecDepth 20000 in
theorem c_psH {wd vd : Nat} {T : List Int32} {fd : Nat → Int32} (hk : OKS T fd) (hT : ∀ H, P H → SO D wd vd T fd H) {w : Nat} (hza : z ≤ a) (hobj : ∀ H, P H → va_at (gD D) cls (u, .inr (13, [.ref a, .int 0, .int m1, .int cnt])) H) (hat : ∀ H, P H → va_at (gD D) cls (a, aint D 1 n b) H) (hn : n ≤ 65536) (hw : w + T.length ≤ n) (hP : ∀ H H1, P H → (∀ q : Nat, q ≠ a → H1[q]? = H[q]?) → va_at (gD D) cls (a, aint D 1 n (va_cpy fd b 0 w T.length)) H1 → P' H1) : CC l yJ5_putStringAt_47b60 cJ5_putStringAt_47b60 3 none (rmk 3 0 0) D z [.ref u, .int (nI w), .ref wd] P none P' := by
  refine cc_of pn_J5 (le_ rfl) (ls := [(0, .ref u), (1, .int (nI w)), (2, .ref wd)]) rfl ?_
  intro p e s m args below meth c E
  refine j_aload_n E 0 rfl dJ5_putStringAt_47b60_0 ?_
  refine j_aload_n E 2 rfl dJ5_putStringAt_47b60_1 ?_
  refine j_invU (C := RJ4) [] [] E (c_inH hk hT hobj) ml_J5_397 mu_J5_inflateIfNeededFor_a7421 (E.2.2.2.2.1 _ wx_3) rfl ⟨le_ rfl, le_ rfl⟩ (fun H h => ⟨13, _, _, rfl, rfl, hobj H h⟩) rfl rfl (le_ rfl) ⟨le_ rfl, le_ rfl⟩ dJ5_putStringAt_47b60_2 ?_
  refine j_aload_n E 2 rfl dJ5_putStringAt_47b60_5 ?_
  refine j_aload_n E 0 rfl dJ5_putStringAt_47b60_6 ?_
  refine jp_get (f := 0) E hobj cf_J4 fl_J5_15 (lt_ rfl) rfl rfl dJ5_putStringAt_47b60_7 ?_
  refine j_iload_n E 1 rfl dJ5_putStringAt_47b60_10 ?_
  refine j_aload_n E 0 rfl dJ5_putStringAt_47b60_11 ?_
  refine jp_get (f := 1) E hobj cf_J4 fl_J5_22 (lt_ rfl) rfl rfl dJ5_putStringAt_47b60_12 ?_
  refine j_invV [] [] E (c_gbH (P' := P') hk hT hza hat hn hw hP) ml_J5_399 mv_J0_getBytes_840e7 rfl ⟨le_ rfl, le_ rfl⟩ (rcH hT) rfl rfl (le_ rfl) ⟨le_ rfl, le_ rfl⟩ dJ5_putStringAt_47b60_15 ?_
  exact j_vret E (le_ rfl) (le_ rfl) dJ5_putStringAt_47b60_18
set_option maxRecDepth 20000 in
theorem c_apH {wd vd : Nat} {T : List Int32} {fd : Nat → Int32} (hk : OKS T fd) (hY : ∀ H, Y H → SO D wd vd T fd H) {w : Nat} (hgu : z ≤ u) (hw : w ≤ n) (hn : n ≤ 65536) (hq : w + T.length ≤ 600) (hf : sb_Fit b) : CC l yJ5_append_cf1ce cJ5_append_cf1ce 3 (some (.object "java/lang/AbstractStringBuilder")) (rmk 5 1 1200) D z [.ref u, .ref wd] (PB D z B u X Y a n b m1 (nI w)) (some (.ref u)) (fun H => ∃ x : Nat × Nat × (Nat → Int32), PB D z B u X Y x.1 x.2.1 x.2.2 m1 (nI (w + T.length)) H ∧ w + T.length ≤ x.2.1 ∧ x.2.1 ≤ 65536 ∧ sb_Fit x.2.2 ∧ (∀ j, j < w → x.2.2 j = b j) ∧ ∀ i, i < T.length → x.2.2 (w + i) = fd i) := by
  refine cc_of pn_J5 (le_ rfl) (ls := [(0, .ref u), (1, .ref wd)]) rfl ?_
  intro p e s m args below meth c E
  refine j_aload_n E 1 rfl dJ5_append_cf1ce_0 ?_
  refine j_ifnn E 9 (by decide) dJ5_append_cf1ce_1 ?_
  refine j_aload_n E 1 rfl dJ5_append_cf1ce_9 ?_
  refine j_invV [] [.int (nI T.length)] E (c_hlen hk (fun H h => hY H h.2.2.1.now)) ml_J5_32 mv_J0_length_8abf5 rfl ⟨le_ rfl, le_ rfl⟩ (rcH (fun H h => hY H h.2.2.1.now)) rfl rfl (le_ rfl) ⟨le_ rfl, le_ rfl⟩ dJ5_append_cf1ce_10 ?_
  refine j_istore_n (ls' := [(2, .int (nI T.length)), (0, .ref u), (1, .ref wd)]) E (lt_ rfl) rfl dJ5_append_cf1ce_13 ?_
  refine j_aload_n E 1 rfl dJ5_append_cf1ce_14 ?_
  refine j_aload_n E 1 rfl dJ5_append_cf1ce_15 ?_
  refine jp_get (f := 3) E (fun H h => h.obj) cf_J4 fl_J5_79 (lt_ rfl) rfl rfl dJ5_append_cf1ce_16 ?_
  refine j_iload_n E 0 rfl dJ5_append_cf1ce_19 ?_
  refine j_iadd E dJ5_append_cf1ce_20 ?_
  refine j_name (w := nI (w + T.length)) (nI_add _ _).symm ?_
  refine j_invU (P' := PE D z B u X Y n (w + T.length) b m1 (nI w)) [] [] E (c_SB_ensure (q := w + T.length) (by omega) hn hf) ml_J5_100 mu_J5_ensureCapacityInternal_d00df (E.2.2.2.2.1 _ wx_0) rfl ⟨le_ rfl, le_ rfl⟩ rcB rfl rfl (le_ rfl) ⟨le_ rfl, le_ rfl⟩ dJ5_append_cf1ce_21 ?_
  refine j_ex (fun H h => h) fun x => ?_
  obtain ⟨a', n', b'⟩ := x
  refine j_pre (A := n ≤ n' ∧ w + T.length ≤ n' ∧ n' ≤ 65536 ∧ sb_Fit b' ∧ ∀ i, i < n → b' i = b i) (fun H h => h.2) fun hx => ?_
  obtain ⟨h1, h2, h3, h4, h5⟩ := hx
  refine j_wk (P' := PB D z B u X Y a' n' b' m1 (nI w)) (fun H h => h.1) ?_
  refine j_pre (fun H h => h.ge) fun hza => ?_
  refine j_aload_n E 1 rfl dJ5_append_cf1ce_24 ?_
  refine j_aload_n E 1 rfl dJ5_append_cf1ce_25 ?_
  refine jp_get (f := 3) E (fun H h => h.obj) cf_J4 fl_J5_79 (lt_ rfl) rfl rfl dJ5_append_cf1ce_26 ?_
  refine j_aload_n E 2 rfl dJ5_append_cf1ce_29 ?_
  refine j_invU (P' := PB D z B u X Y a' n' (va_cpy fd b' 0 w T.length) m1 (nI w)) [] [] E (c_psH hk (fun H h => hY H h.2.2.1.now) hza (fun H h => h.obj) (fun H h => h.arr) h3 h2 (fun H H1 h g1 g2 => h.bst g1 g2)) ml_J5_208 mu_J5_putStringAt_47b60 (E.2.2.2.2.1 _ wx_2) rfl ⟨le_ rfl, le_ rfl⟩ rcB rfl rfl (le_ rfl) ⟨le_ rfl, le_ rfl⟩ dJ5_append_cf1ce_30 ?_
  refine j_aload_n E 1 rfl dJ5_append_cf1ce_33 ?_
  refine j_dup E rfl dJ5_append_cf1ce_34 ?_
  refine jp_get (f := 3) E (fun H h => h.obj) cf_J4 fl_J5_79 (lt_ rfl) rfl rfl dJ5_append_cf1ce_35 ?_
  refine j_iload_n E 0 rfl dJ5_append_cf1ce_38 ?_
  refine j_iadd E dJ5_append_cf1ce_39 ?_
  refine j_name (w := nI (w + T.length)) (nI_add _ _).symm ?_
  refine jp_put (f := 3) (P' := fun H => ∃ x : Nat × Nat × (Nat → Int32), PB D z B u X Y x.1 x.2.1 x.2.2 m1 (nI (w + T.length)) H ∧ w + T.length ≤ x.2.1 ∧ x.2.1 ≤ 65536 ∧ sb_Fit x.2.2 ∧ (∀ j, j < w → x.2.2 j = b j) ∧ ∀ i, i < T.length → x.2.2 (w + i) = fd i) E hgu (fun H h => h.obj) cf_J4 fl_J5_79 (lt_ rfl) ⟨rfl, rfl⟩ ⟨rfl, rfl⟩ (lt_ rfl) (fun H H1 h e1 e2 e3 => ⟨(a', n', va_cpy fd b' 0 w T.length), h.put ⟨h.1.1, h.1.2.2.1, h.1.2.2.2⟩ h.arr e2 e3, h2, h3, sb_fitC hk.2.1 h4, fun j hj => (pk_cpy_out (f := fd) (g := b') (sp := 0) (n := T.length) (Or.inl hj)).trans (h5 j (by omega)), fun i hi => cpy_hi (f := fd) (g := b') (w := w) hi⟩) dJ5_append_cf1ce_40 ?_
  refine j_aload_n E 1 rfl dJ5_append_cf1ce_43 ?_
  exact j_aret E (le_ rfl) (le_ rfl) dJ5_append_cf1ce_44
end SBA
