/-! rows of the law's text: appends, toString, with what they may cost -/
set_option maxRecDepth 20000 in
theorem ic_7 : Int32.ofInt 7 = 7 := by decide
set_option maxRecDepth 20000 in
theorem ic_20 : Int32.ofInt 20 = 20 := by decide
/-- held while a String is in hand: what a caller holds, the String at A -/
def YS (D : DD) (z u B : Nat) (Y : YT) (A : Nat) (T : List Int32) (f : Nat → Int32) : YT := fun H => FRC z u B Y H ∧ z + 530 ≤ A ∧ SO D A (A + 1) T f H
section LT
variable {p : Program} {l : Launch} {e : Env} {R : Room} {s : State} {m : MethodId} {args : Array Value} {below : List Frame} {meth : Method} {c : Code} {D : DD} {z : Nat} {own : String} {cc : ByteArray} {nL : Nat} {ret : Option FieldType} {P P' : Heap → Prop} {k n : Nat} {Q : State → Prop} {pc idx : Nat} {ls ls' : List (Nat × Value)} {st st0 : List Value} {X X' : XT} {Y : YT} {u B c0 c1 : Nat} {T T1 : List Int32}
set_option maxRecDepth 20000 in
theorem jl_apK {t : Nat} (c0 c1 : Nat) (E : Cx p s m args meth c D z own cc nL ret) (ht : t < 31) (hT1 : T1 = T ++ strB.getD t []) (hg : T1.length ≤ 590 ∧ T.length + 1 ≤ T1.length) (w1 : Cond.methodLink own idx yJ4_append_15ec4 ∈ Wall) (hR : 7 ≤ R.frames ∧ 405 ≤ R.locals) (hk : c0 + 600 ≤ R.cells ∧ c1 + 720000 ≤ R.slots) (hcat : (st.map fun v => v.category).sum ≤ 8) (hd : decode cc pc = .ok (.invokevirtual idx, 3)) (h : J p l e R s m args below meth c D z (SBW D z B u X Y T1) (c0 + T1.length) (c1 + 1200 * T1.length) Q nL (pc + 3) ls (.ref u :: st)) : J p l e R s m args below meth c D z (SBW D z B u X Y T) (c0 + T.length) (c1 + 1200 * T.length) Q nL pc ls (.ref (D.2.2.2.1 t) :: .ref u :: st) := by
  have e1 : T1.length = T.length + strN.getD t 0 := by rw [hT1, List.length_append, str_len ht]
  refine j_invV st (.ref u :: st) E (c_LA_K ht (by omega)) w1 mv_J4_append_15ec4 rfl ⟨by simp only [rmk]; omega, by simp only [rmk]; omega⟩ rcW rfl rfl hcat ⟨by simp only [rmk]; omega, by simp only [rmk]; omega⟩ hd ?_
  rw [← hT1]
  exact j_widen (by simp only [rmk]; omega) (by simp only [rmk]; omega) h
set_option maxRecDepth 20000 in
theorem jl_apI {v : Int32} (c0 c1 : Nat) (E : Cx p s m args meth c D z own cc nL ret) (hv : ¬ v < 0 ∧ v < 100000) (hT1 : T1 = T ++ decL v.toNatClampNeg) (hg : T1.length ≤ 590) (w1 : Cond.methodLink own idx yJ4_append_bf812 ∈ Wall) (hR : 7 ≤ R.frames ∧ 405 ≤ R.locals) (hk : c0 + 600 ≤ R.cells ∧ c1 + 720000 ≤ R.slots) (hcat : (st.map fun v => v.category).sum ≤ 8) (hd : decode cc pc = .ok (.invokevirtual idx, 3)) (h : J p l e R s m args below meth c D z (SBW D z B u X Y T1) (c0 + T1.length) (c1 + 1200 * T1.length) Q nL (pc + 3) ls (.ref u :: st)) : J p l e R s m args below meth c D z (SBW D z B u X Y T) (c0 + T.length) (c1 + 1200 * T.length) Q nL pc ls (.int v :: .ref u :: st) := by
  obtain ⟨w, hw, rfl⟩ := nI_of hv.1
  rw [nI_clamp hw] at hT1
  have hw5 : w < 100000 := (nI_ltI (b := 100000) hw (by decide)).mp hv.2
  have e1 : T1.length = T.length + sb_dg w := by rw [hT1, List.length_append, decL_len]
  have e2 := (sb_dg_in w).1
  refine j_invV st (.ref u :: st) E (c_LA_I hw5 (by omega)) w1 mv_J4_append_bf812 rfl ⟨by simp only [rmk]; omega, by simp only [rmk]; omega⟩ rcW rfl rfl hcat ⟨by simp only [rmk]; omega, by simp only [rmk]; omega⟩ hd ?_
  rw [← hT1]
  exact j_widen (by simp only [rmk]; omega) (by simp only [rmk]; omega) h
set_option maxRecDepth 20000 in
theorem PB.size {a n' : Nat} {b : Nat → Int32} {m1 cnt : Int32} {H : Heap} (h : PB D z B u X Y a n' b m1 cnt H) : B < H.size ∧ z + 530 < H.size := by
  have l2 : a < H.size := h.arr.lt
  have := h.1
  omega
set_option maxRecDepth 20000 in
theorem ys_fr {A : Nat} {f : Nat → Int32} {H : Heap} (h : YS D z u B Y A T f H) : FRM z (YS D z u B Y A T f) H := by
  obtain ⟨h1, h2, h3, h4⟩ := h
  have l1 : A < H.size := h3.lt
  have l2 : A + 1 < H.size := h4.lt
  exact fun H' hq => ⟨h1.mv fun q _ _ g1 g2 => hq q g1 g2, h2, h3.kept (hq _ l1 (by show ¬ (z ≤ A ∧ A < z + 530); omega)), h4.kept (hq _ l2 (by show ¬ (z ≤ A + 1 ∧ A + 1 < z + 530); omega))⟩
set_option maxRecDepth 20000 in
theorem ys_out {A : Nat} {f : Nat → Int32} {H : Heap} (h : GG D z (X, YS D z u B Y A T f) H) : GG D z (X, Y) H := ⟨h.1, fun H' hq => ((h.2.1 H' hq).1).now, h.2.2⟩
set_option maxRecDepth 20000 in
/-- toString of the builder, which is used no more -/
theorem jl_ts (c0 c1 : Nat) (E : Cx p s m args meth c D z own cc nL ret) (hT : OKT T) (w1 : Cond.methodLink own idx yJ4_toString_0e30d ∈ Wall) (hR : 8 ≤ R.frames ∧ 470 ≤ R.locals) (hk : c0 + 610 ≤ R.cells ∧ c1 + 725000 ≤ R.slots) (hcat : (st.map fun v => v.category).sum ≤ 8) (hd : decode cc pc = .ok (.invokevirtual idx, 3)) (h : ∀ (A : Nat) (f : Nat → Int32), OKS T f → J p l e R s m args below meth c D z (GG D z (X, YS D z u B Y A T f)) R.cells R.slots Q nL (pc + 3) ls (.ref A :: st)) : J p l e R s m args below meth c D z (SBW D z B u X Y T) (c0 + T.length) (c1 + 1200 * T.length) Q nL pc ls (.ref u :: st) := by
  have hT6 := hT.1
  refine j_fix fun H0 hW => ?_
  refine j_invV (P' := TSW D z B u X Y T H0.size) st (.ref H0.size :: st) E (c_toString hW hT6) w1 mv_J4_toString_0e30d rfl ⟨by simp only [rmk]; omega, by simp only [rmk]; omega⟩ (fun H h => by subst h; exact rcW _ hW) rfl rfl hcat ⟨by simp only [rmk]; omega, by simp only [rmk]; omega⟩ hd ?_
  refine j_ex (F := fun f H => sb_Fit f ∧ (∀ q, q < T.length → f q = T.getD q 0) ∧ SBW D z B u X Y T H ∧ SO D H0.size (H0.size + 1) T f H) (fun H h => by
    obtain ⟨h1, f, h2, h3, h4⟩ := h
    exact ⟨f, h2, h3, h1, h4⟩) fun f => ?_
  refine j_pre (A := sb_Fit f ∧ ∀ q, q < T.length → f q = T.getD q 0) (fun H h => ⟨h.1, h.2.1⟩) fun hf => ?_
  refine j_wk (P' := GG D z (X, YS D z u B Y H0.size T f)) (fun H h => ?_) (j_widen (by simp only [rmk]; omega) (by simp only [rmk]; omega) (h H0.size f ⟨hT, hf.1, hf.2⟩))
  obtain ⟨-, -, ⟨x, g1, -⟩, g2⟩ := h
  obtain ⟨x0, k1, -⟩ := hW
  have hsz := k1.size
  exact ⟨g1.2.1, ys_fr ⟨g1.2.2.1, by omega, g2⟩, g1.2.2.2.1⟩
end LT
