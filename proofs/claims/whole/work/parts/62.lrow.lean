/-! THE LAW: rows of its own -/
abbrev lsL (b z i : Nat) : List (Nat × Value) := [(4, .int (nI i)), (3, .ref (z + 537)), (2, .ref (z + aM 0)), (1, .ref (z + aX 0 0 0)), (0, .ref b)]
/-- the script -/
def LC (s : State) (z b L : Nat) (xs : Nat → Int32) : Prop := va_X b L xs s s.heap ∧ b < s.heap.size ∧ b < z ∧ L ≤ 3072
section LROW
variable {p : Program} {l : Launch} {e : Env} {R : Room} {s : State} {m : MethodId} {args : Array Value} {below : List Frame} {meth : Method} {c : Code} {D : DD} {z : Nat} {own : String} {cc : ByteArray} {nL : Nat} {ret : Option FieldType} {P : Heap → Prop} {k n : Nat} {Q : State → Prop} {pc : Nat} {ls : List (Nat × Value)} {st : List Value} {b L : Nat} {xs : Nat → Int32}
set_option maxRecDepth 20000 in
theorem j_sld (E : Cx p s m args meth c D z own cc nL ret) (C : LC s z b L xs) {j : Nat} (hj : j < L) (hd : decode cc pc = .ok (.iaload, 1)) (h : J p l e R s m args below meth c D z P k n Q nL (pc + 1) ls (.int (xs j) :: st)) : J p l e R s m args below meth c D z P k n Q nL pc ls (.int (nI j) :: .ref b :: st) := by
  obtain ⟨c1, c2, c3, c4⟩ := C
  intro H locs la hG hS hL
  refine va_sld E.1 E.2.1 c1 c2 (Nat.not_le.mpr c3) hS (i := nI j) (pk_in j L hj) hd ?_
  rw [nI_clamp (by omega)]
  exact h H locs la hG hS hL
set_option maxRecDepth 20000 in
theorem j_xlen (E : Cx p s m args meth c D z own cc nL ret) (C : LC s z b L xs) (hd : decode cc pc = .ok (.arraylength, 1)) (h : J p l e R s m args below meth c D z P k n Q nL (pc + 1) ls (.int (nI L) :: st)) : J p l e R s m args below meth c D z P k n Q nL pc ls (.ref b :: st) :=
  fun H locs la hG hS hL => va_slen E.1 E.2.1 C.1 C.2.1 (Nat.not_le.mpr C.2.2.1) hS hd (h H locs la hG hS hL)
set_option maxRecDepth 20000 in
theorem j_f2d (E : Cx p s m args meth c D z own cc nL ret) {x : UInt32} (hne : vf_n64 (FP.f2d x)) (hd : decode cc pc = .ok (.f2d, 1)) (h : J p l e R s m args below meth c D z P k n Q nL (pc + 1) ls (.double (FP.f2d x) :: st)) : J p l e R s m args below meth c D z P k n Q nL pc ls (.float x :: st) :=
  fun H locs la hG hS hL => lv_f2d E.1 E.2.1 hd hne (h H locs la hG hS hL)
set_option maxRecDepth 20000 in
theorem j_dcmp (E : Cx p s m args meth c D z own cc nL ret) {x y : UInt64} {op : CmpOp} (hd : decode cc pc = .ok (.dcmp op, 1)) (h : J p l e R s m args below meth c D z P k n Q nL (pc + 1) ls (.int (Op.cmpValue (FP.dcmp x y) op) :: st)) : J p l e R s m args below meth c D z P k n Q nL pc ls (.double y :: .double x :: st) :=
  fun H locs la hG hS hL => lv_dcmp E.1 E.2.1 hd (h H locs la hG hS hL)
end LROW
set_option maxRecDepth 20000 in
theorem nnf2d (r : UInt32) (h : vf_n32 r) : vf_n64 (FP.f2d r) := fl_f2d r h
set_option maxRecDepth 20000 in
theorem full_nn {X : XT} {r : UInt32} (h : f_X11_fullness X = some r) : vf_n64 (FP.f2d r) := by
  unfold f_X11_fullness at h
  obtain ⟨r1, h1, h⟩ := bn1_e h
  by_cases c : r1 ≤ 0
  · rw [if_pos c] at h
    cases h
    exact nnf2d _ (by unfold vf_n32; decide)
  · rw [if_neg c] at h
    obtain ⟨r2, h2, h⟩ := bn1_e h
    obtain ⟨g, h⟩ := gd_e h
    cases h
    exact nnf2d _ g
set_option maxRecDepth 20000 in
theorem tc_X11_outputByte {l : Launch} (hl : l.stackTraces = false) {D : DD} {z : Nat} {Y : YT} {X : XT} {v1 : Int32} {e0 : Nat} (hf : t_X11_outputByte X v1 = some e0) : CT l yX11_outputByte cX11_outputByte 2 (some .int) (rmk 6 1 6) D z [.ref (z + aX 0 0 0), .int v1] (GG D z (X, Y)) (exN e0) (GG D z (X, Y)) := by
  unfold t_X11_outputByte at hf
  refine ct_of pn_X11 (le_ rfl) (ls := [(0, .ref (z + aX 0 0 0)), (1, .int v1)]) rfl ?_
  intro p e s m args below meth c E hex
  refine j_iload_n E 1 rfl dX11_outputByte_0 ?_
  refine j_if_lt E 15 (by decide) dX11_outputByte_1 (fun c1 => ?_) (fun c1 => ?_)
  · rw [if_pos c1] at hf
    cases hf
    exact j_throw3w E hl hex sl_X11_433 gg_grow dX11_outputByte_15 dX11_outputByte_18 dX11_outputByte_19 dX11_outputByte_22 dX11_outputByte_25 (lt_ rfl) (le_ rfl) (le_ rfl) (le_ rfl) (le_ rfl) (le_ rfl)
  · rw [if_neg c1] at hf
    refine j_iload_n E 1 rfl dX11_outputByte_4 ?_
    refine j_aload_n E 0 rfl dX11_outputByte_5 ?_
    refine j_get (f := 5) E ok0 cf_X11 fl_X11_41 (lt_ rfl) rfl ent0 rfl dX11_outputByte_6 ?_
    refine j_invV [.int v1] [.int (X 8 0 0 0), .int v1] E c_J4_length ml_X11_431 mv_J4_length_8abf5 rfl ⟨le_ rfl, le_ rfl⟩ rcS rfl rfl (le_ rfl) ⟨le_ rfl, le_ rfl⟩ dX11_outputByte_9 ?_
    refine j_icmp_lt E 26 (by decide) dX11_outputByte_12 (fun c2 => ?_) (fun c2 => ?_)
    · rw [if_pos c2] at hf
      exact none_e hf
    · rw [if_neg c2] at hf
      cases hf
      exact j_throw3w E hl hex sl_X11_433 gg_grow dX11_outputByte_15 dX11_outputByte_18 dX11_outputByte_19 dX11_outputByte_22 dX11_outputByte_25 (lt_ rfl) (le_ rfl) (le_ rfl) (le_ rfl) (le_ rfl) (le_ rfl)
set_option maxRecDepth 20000 in
theorem w_outputByte {l : Launch} {D : DD} {z : Nat} {X : XT} {M : MT} {o : Int64} {f1 : Nat} {v1 : Int32} {r : Int32} (hf : f_X11_outputByte X v1 = some r) : CW l yL_outputByte cL_outputByte 4 (some .int) [(0, 9, 12, 36)] (rmk 6 0 0) D z [.ref (z + aX 0 0 0), .int v1, .ref (z + 537)] (GG D z (X, (f1 + 2, M, o))) (some (.int 0)) (GG D z (X, (f1 + 2, M, r.toInt64))) := by
  refine cw_of pn_L (le_ rfl) (ls := [(0, .ref (z + aX 0 0 0)), (1, .int v1), (2, .ref (z + 537))]) rfl ?_
  intro p e s m args below meth c E hct
  refine j_aload_n E 2 rfl dL_outputByte_0 ?_
  refine j_iconst E 0 ic_0 dL_outputByte_1 ?_
  refine j_aload_n E 0 rfl dL_outputByte_2 ?_
  refine j_iload_n E 1 rfl dL_outputByte_3 ?_
  refine j_invV [.int 0, .ref (z + 537)] [.int r, .int 0, .ref (z + 537)] E (c_X11_outputByte hf) ml_L_146 mv_X11_outputByte rfl ⟨le_ rfl, le_ rfl⟩ (rcX ok0 cf_X11 ent0) rfl rfl (le_ rfl) ⟨le_ rfl, le_ rfl⟩ dL_outputByte_4 ?_
  refine j_i2l E dL_outputByte_7 ?_
  refine j_lastO E dL_outputByte_8 ?_
  refine j_goto E 15 (by decide) dL_outputByte_9 ?_
  refine j_iconst E 0 ic_0 dL_outputByte_15 ?_
  exact j_iret E rfl (le_ rfl) (le_ rfl) dL_outputByte_16
set_option maxRecDepth 20000 in
theorem wx_outputByte_3 {l : Launch} {D : DD} {z : Nat} {X : XT} {M : MT} {o : Int64} {f1 : Nat} {v1 : Int32} (hl : l.stackTraces = false) (hf : t_X11_outputByte X v1 = some 3) : CW l yL_outputByte cL_outputByte 4 (some .int) [(0, 9, 12, 36)] (rmk 7 1 6) D z [.ref (z + aX 0 0 0), .int v1, .ref (z + 537)] (GG D z (X, (f1 + 2, M, o))) (some (.int 1)) (GG D z (X, (f1 + 2, M, o))) := by
  refine cw_of pn_L (le_ rfl) (ls := [(0, .ref (z + aX 0 0 0)), (1, .int v1), (2, .ref (z + 537))]) rfl ?_
  intro p e s m args below meth c E hct
  refine j_aload_n E 2 rfl dL_outputByte_0 ?_
  refine j_iconst E 0 ic_0 dL_outputByte_1 ?_
  refine j_aload_n E 0 rfl dL_outputByte_2 ?_
  refine j_iload_n E 1 rfl dL_outputByte_3 ?_
  refine j_catchV [] ⟨0, 9, 12, 36⟩ [] [.int 0, .ref (z + 537)] E hct rfl (fun _ h => by cases h) (by decide) (by decide) cl_L_36 cb_3 (tc_X11_outputByte hl hf) ml_L_146 mv_X11_outputByte rfl ⟨le_ rfl, le_ rfl⟩ (rcX ok0 cf_X11 ent0) rfl (le_ rfl) ⟨le_ rfl, le_ rfl⟩ dL_outputByte_4 (fun q => ?_)
  refine j_astore_n (ls' := [(3, .ref q), (0, .ref (z + aX 0 0 0)), (1, .int v1), (2, .ref (z + 537))]) E (lt_ rfl) rfl dL_outputByte_12 ?_
  refine j_iconst E 1 ic_1 dL_outputByte_13 ?_
  exact j_iret E rfl (le_ rfl) (le_ rfl) dL_outputByte_14
