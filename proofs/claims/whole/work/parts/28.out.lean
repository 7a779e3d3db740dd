/-! the output text: writeName, printTanks, outputByte -/
def f_X11_writeName_3 (v1 : Int32) : Nat → XT → Int32 → Option XT
  | 0, _, _ => none
  | n + 1, X, v2 => if v2 < 0 then (some X) else (bnd ((v1 >>> (v2 &&& 31)) &&& 31) (fun x1 => if x1 = 0 then (f_X11_writeName_3 v1 n X (v2 + (-5))) else (bn1 (f_J4_char X (((97 + x1) - 1).toUInt32 % 65536).toInt32) (fun X1 => f_X11_writeName_3 v1 n X1 (v2 + (-5))))))
def f_X11_writeName (X : XT) (v1 : Int32) : Option XT := f_X11_writeName_3 v1 5 X 15
def f_X11_printTanks_38 (X : XT) (v1 : Int32) : Option XT := gd (¬ (v1 < 0 ∨ 5 ≤ v1.toNatClampNeg)) (bn1 (f_J4_int X (X 26 1 v1.toNatClampNeg 1)) (fun X1 => if (X1 26 1 v1.toNatClampNeg 1) ≤ 0 then (some X1) else (bn1 (f_J4_char X1 58) (fun X2 => bn1 (f_X1_nameOfVariety X2 1 (X2 26 1 v1.toNatClampNeg 2)) (fun r1 => f_X11_writeName X2 r1)))))
def f_X11_printTanks_10 : Nat → XT → Int32 → Option (Int32 × XT)
  | 0, _, _ => none
  | n + 1, X, v1 => if (X 23 1 0 2) ≤ v1 then (some ((X 8 0 0 0), X)) else (bn1 (if v1 ≤ 0 then (some X) else (f_J4_char X 32)) (fun X1 => bn1 (f_X11_printTanks_38 X1 v1) (fun X2 => f_X11_printTanks_10 n X2 (v1 + 1))))
def f_X11_printTanks (X : XT) : Option (Int32 × XT) := f_X11_printTanks_10 7 (xs X 8 0 0 0 0) 0
def f_X11_outputByte (X : XT) (v1 : Int32) : Option Int32 := if v1 < 0 then (none) else (if v1 < (X 8 0 0 0) then (gd (¬ X 8 0 0 0 < 0 ∧ X 8 0 0 0 ≤ 65536) (some (X 9 0 0 v1.toNatClampNeg))) else (none))
def t_X11_outputByte (X : XT) (v1 : Int32) : Option Nat := if v1 < 0 then (some 3) else (if v1 < (X 8 0 0 0) then (none) else (some 3))
section OUT
variable {l : Launch} {D : DD} {z : Nat} {X : XT} {Y : YT} {M : MT} {o : Int64} {f1 : Nat}
theorem b_X11_writeName_3 {p : Program} {e : Env} {s : State} {m : MethodId} {args : Array Value} {below : List Frame} {meth : Method} {c : Code} (E : Cx p s m args meth c D z RX11 cX11_writeName 4 none) {v1 : Int32} {X' : XT} : ∀ (n : Nat) (X : XT) (v2 : Int32) (k j : Nat) (ls : List (Nat × Value)), k + n ≤ 5 → j + 122 * n ≤ 610 → lv_pick ls [0, 1, 2] = [(0, .ref (z + aX 0 0 0)), (1, .int v1), (2, .int v2)] → f_X11_writeName_3 v1 n X v2 = some X' → J p l e (rmk 7 5 610) s m args below meth c D z (GG D z (X, (f1 + 2, M, o))) k j (MQ below (QC z none (GG D z (X', (f1 + 2, M, o)))) args s (rmk 7 5 610).cells (rmk 7 5 610).slots (Az z)) 4 3 ls [] := by
  intro n
  induction n with
  | zero =>
    intro X v2 k j ls _ _ _ hf
    exact none_e hf
  | succ n ih =>
    intro X v2 k j ls hk hj hls hf
    rw [f_X11_writeName_3] at hf
    refine j_sub [0, 1, 2] hls ?_
    refine j_iload_n E 2 rfl dX11_writeName_3 ?_
    refine j_if_lt E 39 (by decide) dX11_writeName_4 (fun c1 => ?_) (fun c1 => ?_)
    · rw [if_pos c1] at hf
      cases hf
      exact j_vret E (by show k ≤ 5; omega) (by show j ≤ 610; omega) dX11_writeName_39
    · rw [if_neg c1] at hf
      obtain ⟨x1, hx1, hf⟩ := bnd_e hf
      refine j_iload_n E 1 rfl dX11_writeName_7 ?_
      refine j_iload_n E 2 rfl dX11_writeName_8 ?_
      refine j_ishr E dX11_writeName_9 ?_
      refine j_bipush E 31 bp_31 dX11_writeName_10 ?_
      refine j_iand E dX11_writeName_12 ?_
      refine j_name hx1 ?_
      refine j_istore_n (ls' := [(3, .int x1), (0, .ref (z + aX 0 0 0)), (1, .int v1), (2, .int v2)]) E (lt_ rfl) rfl dX11_writeName_13 ?_
      refine j_iload_n E 0 rfl dX11_writeName_14 ?_
      refine j_if_eq E 33 (by decide) dX11_writeName_15 (fun c2 => ?_) (fun c2 => ?_)
      · rw [if_pos c2] at hf
        refine j_iinc (ls' := [(2, .int (v2 + (-5))), (3, .int x1), (0, .ref (z + aX 0 0 0)), (1, .int v1)]) E 3 rfl (lt_ rfl) (v2 + (-5)) (congrArg (fun q => v2 + q) ic_m5) rfl dX11_writeName_33 ?_
        refine j_goto E 3 (by decide) dX11_writeName_36 ?_
        refine j_sub [2, 3, 0] rfl ?_
        exact ih X _ k j _ (by omega) (by omega) rfl hf
      · rw [if_neg c2] at hf
        obtain ⟨X1, h1, hf⟩ := bn1_e hf
        refine j_aload_n E 1 rfl dX11_writeName_18 ?_
        refine j_get (f := 5) E ok0 cf_X11 fl_X11_41 (lt_ rfl) rfl ent0 rfl dX11_writeName_19 ?_
        refine j_bipush E 97 bp_97 dX11_writeName_22 ?_
        refine j_iload_n E 0 rfl dX11_writeName_24 ?_
        refine j_iadd E dX11_writeName_25 ?_
        refine j_iconst E 1 ic_1 dX11_writeName_26 ?_
        refine j_isub E dX11_writeName_27 ?_
        refine j_i2c E dX11_writeName_28 ?_
        refine j_invV [] [.ref (z + 528)] E (c_J4_char h1) ml_X11_414 mv_J4_append_cf468 rfl ⟨le_ rfl, le_ rfl⟩ rcS rfl rfl (le_ rfl) ⟨by show k + 1 ≤ 5; omega, by show j + 122 ≤ 610; omega⟩ dX11_writeName_29 ?_
        refine j_pop E rfl dX11_writeName_32 ?_
        refine j_iinc (ls' := [(2, .int (v2 + (-5))), (3, .int x1), (0, .ref (z + aX 0 0 0)), (1, .int v1)]) E 3 rfl (lt_ rfl) (v2 + (-5)) (congrArg (fun q => v2 + q) ic_m5) rfl dX11_writeName_33 ?_
        refine j_goto E 3 (by decide) dX11_writeName_36 ?_
        refine j_sub [2, 3, 0] rfl ?_
        exact ih X1 _ _ _ _ (by show k + 1 + n ≤ 5; omega) (by show j + 122 + 122 * n ≤ 610; omega) rfl hf
theorem c_X11_writeName {v1 : Int32} {X' : XT} (hf : f_X11_writeName X v1 = some X') : CC l yX11_writeName cX11_writeName 4 none (rmk 7 5 610) D z [.ref (z + aX 0 0 0), .int v1] (GG D z (X, (f1 + 2, M, o))) none (GG D z (X', (f1 + 2, M, o))) := by
  unfold f_X11_writeName at hf
  refine cc_of pn_X11 (le_ rfl) (ls := [(0, .ref (z + aX 0 0 0)), (1, .int v1)]) rfl ?_
  intro p e s m args below meth c E
  refine j_bipush E 15 bp_15 dX11_writeName_0 ?_
  refine j_istore_n (ls' := [(2, .int 15), (0, .ref (z + aX 0 0 0)), (1, .int v1)]) E (lt_ rfl) rfl dX11_writeName_2 ?_
  refine j_sub [1, 2, 0] rfl ?_
  exact b_X11_writeName_3 E 5 X 15 0 0 _ (by omega) (by omega) rfl hf
theorem b_X11_printTanks_38 {p : Program} {e : Env} {s : State} {m : MethodId} {args : Array Value} {below : List Frame} {meth : Method} {c : Code} (E : Cx p s m args meth c D z RX11 cX11_printTanks 3 (some .int)) {v1 : Int32} {X' : XT} {Q : State → Prop} {k j : Nat} {ls : List (Nat × Value)} (hls : lv_pick ls [0, 1] = [(0, .ref (z + aX 0 0 0)), (1, .int v1)]) (hk : k + 7 ≤ 64) (hj : j + 854 ≤ 8000) (hf : f_X11_printTanks_38 X v1 = some X') (h : J p l e (rmk 8 64 8000) s m args below meth c D z (GG D z (X', (f1 + 2, M, o))) (k + 7) (j + 854) Q 3 98 [(0, .ref (z + aX 0 0 0)), (1, .int v1)] []) : J p l e (rmk 8 64 8000) s m args below meth c D z (GG D z (X, (f1 + 2, M, o))) k j Q 3 38 ls [] := by
  unfold f_X11_printTanks_38 at hf
  obtain ⟨g1, hf⟩ := gd_e hf
  obtain ⟨X1, h1, hf⟩ := bn1_e hf
  refine j_sub [0, 1] hls ?_
  refine j_aload_n E 0 rfl dX11_printTanks_38 ?_
  refine j_get (f := 1) E ok0 cf_X11 fl_X11_19 (lt_ rfl) rfl ent0 rfl dX11_printTanks_39 ?_
  refine j_getN (f := 3) E (okb10 jl1) cf_X0 fl_X11_143 (lt_ rfl) rfl ent10 rfl dX11_printTanks_42 ?_
  refine j_getN (f := 0) E (okb23 jl1) cf_X2 fl_X11_418 (lt_ rfl) rfl ent23 rfl dX11_printTanks_45 ?_
  refine j_iload_n E 1 rfl dX11_printTanks_48 ?_
  refine j_aald (t := 5) E (okb24 jl1) ent24 rfl g1 dX11_printTanks_49 ?_
  refine j_astore_n (ls' := [(2, .ref (z + aX 26 1 v1.toNatClampNeg)), (0, .ref (z + aX 0 0 0)), (1, .int v1)]) E (lt_ rfl) rfl dX11_printTanks_50 ?_
  refine j_aload_n E 1 rfl dX11_printTanks_51 ?_
  refine j_get (f := 5) E ok0 cf_X11 fl_X11_41 (lt_ rfl) rfl ent0 rfl dX11_printTanks_52 ?_
  refine j_aload_n E 0 rfl dX11_printTanks_55 ?_
  refine j_getN (f := 1) E (okb26 jl1 (in_cl g1)) cf_X9 fl_X11_250 (lt_ rfl) rfl ent26 rfl dX11_printTanks_56 ?_
  refine j_invV [] [.ref (z + 528)] E (c_J4_int h1) ml_X11_422 mv_J4_append_bf812 rfl ⟨le_ rfl, le_ rfl⟩ rcS rfl rfl (le_ rfl) ⟨by show k + 1 ≤ 64; omega, by show j + 122 ≤ 8000; omega⟩ dX11_printTanks_59 ?_
  refine j_pop E rfl dX11_printTanks_62 ?_
  refine j_aload_n E 0 rfl dX11_printTanks_63 ?_
  refine j_getN (f := 1) E (okb26 jl1 (in_cl g1)) cf_X9 fl_X11_250 (lt_ rfl) rfl ent26 rfl dX11_printTanks_64 ?_
  refine j_if_le E 98 (by decide) dX11_printTanks_67 (fun c2 => ?_) (fun c2 => ?_)
  · rw [if_pos c2] at hf
    cases hf
    refine j_sub [1, 2] rfl ?_
    exact j_widen (by show k + 1 ≤ k + 7; omega) (by show j + 122 ≤ j + 854; omega) h
  · rw [if_neg c2] at hf
    obtain ⟨X2, h2, hf⟩ := bn1_e hf
    obtain ⟨r1, h3, hf⟩ := bn1_e hf
    refine j_aload_n E 1 rfl dX11_printTanks_70 ?_
    refine j_get (f := 5) E ok0 cf_X11 fl_X11_41 (lt_ rfl) rfl ent0 rfl dX11_printTanks_71 ?_
    refine j_bipush E 58 bp_58 dX11_printTanks_74 ?_
    refine j_invV [] [.ref (z + 528)] E (c_J4_char h2) ml_X11_414 mv_J4_append_cf468 rfl ⟨le_ rfl, le_ rfl⟩ rcS rfl rfl (le_ rfl) ⟨by show k + 1 + 1 ≤ 64; omega, by show j + 122 + 122 ≤ 8000; omega⟩ dX11_printTanks_76 ?_
    refine j_pop E rfl dX11_printTanks_79 ?_
    refine j_aload_n E 1 rfl dX11_printTanks_80 ?_
    refine j_aload_n E 1 rfl dX11_printTanks_81 ?_
    refine j_get (f := 1) E ok0 cf_X11 fl_X11_19 (lt_ rfl) rfl ent0 rfl dX11_printTanks_82 ?_
    refine j_getN (f := 0) E (okb10 jl1) cf_X0 fl_X11_119 (lt_ rfl) rfl ent10 rfl dX11_printTanks_85 ?_
    refine j_aload_n E 0 rfl dX11_printTanks_88 ?_
    refine j_getN (f := 2) E (okb26 jl1 (in_cl g1)) cf_X9 fl_X11_255 (lt_ rfl) rfl ent26 rfl dX11_printTanks_89 ?_
    refine j_invV [.ref (z + aX 0 0 0)] [.int r1, .ref (z + aX 0 0 0)] E (c_X1_nameOfVariety jl1 h3) ml_X11_425 mv_X1_nameOfVariety rfl ⟨le_ rfl, le_ rfl⟩ (rcX (okb11 jl1) cf_X1 ent11) rfl rfl (le_ rfl) ⟨by show k + 1 + 1 + 0 ≤ 64; omega, by show j + 122 + 122 + 0 ≤ 8000; omega⟩ dX11_printTanks_92 ?_
    refine j_invV [] [] E (c_X11_writeName hf) ml_X11_428 mv_X11_writeName rfl ⟨le_ rfl, le_ rfl⟩ (rcX ok0 cf_X11 ent0) rfl rfl (le_ rfl) ⟨by show k + 1 + 1 + 0 + 5 ≤ 64; omega, by show j + 122 + 122 + 0 + 610 ≤ 8000; omega⟩ dX11_printTanks_95 ?_
    refine j_sub [1, 2] rfl ?_
    exact j_widen (by show k + 1 + 1 + 0 + 5 ≤ k + 7; omega) (by show j + 122 + 122 + 0 + 610 ≤ j + 854; omega) h
set_option maxRecDepth 20000 in
theorem b_X11_printTanks_10 {p : Program} {e : Env} {s : State} {m : MethodId} {args : Array Value} {below : List Frame} {meth : Method} {c : Code} (E : Cx p s m args meth c D z RX11 cX11_printTanks 3 (some .int)) {X' : XT} {r : Int32} : ∀ (n : Nat) (X : XT) (v1 : Int32) (k j : Nat) (ls : List (Nat × Value)), k + 8 * n ≤ 64 → j + 976 * n ≤ 8000 → lv_pick ls [0, 1] = [(0, .ref (z + aX 0 0 0)), (1, .int v1)] → f_X11_printTanks_10 n X v1 = some (r, X') → J p l e (rmk 8 64 8000) s m args below meth c D z (GG D z (X, (f1 + 2, M, o))) k j (MQ below (QC z (some (.int r)) (GG D z (X', (f1 + 2, M, o)))) args s (rmk 8 64 8000).cells (rmk 8 64 8000).slots (Az z)) 3 10 ls [] := by
  intro n
  induction n with
  | zero =>
    intro X v1 k j ls _ _ _ hf
    exact none_e hf
  | succ n ih =>
    intro X v1 k j ls hk hj hls hf
    rw [f_X11_printTanks_10] at hf
    refine j_sub [0, 1] hls ?_
    refine j_iload_n E 1 rfl dX11_printTanks_10 ?_
    refine j_aload_n E 0 rfl dX11_printTanks_11 ?_
    refine j_get (f := 1) E ok0 cf_X11 fl_X11_19 (lt_ rfl) rfl ent0 rfl dX11_printTanks_12 ?_
    refine j_getN (f := 3) E (okb10 jl1) cf_X0 fl_X11_143 (lt_ rfl) rfl ent10 rfl dX11_printTanks_15 ?_
    refine j_getN (f := 2) E (okb23 jl1) cf_X2 fl_X11_411 (lt_ rfl) rfl ent23 rfl dX11_printTanks_18 ?_
    refine j_icmp_ge E 104 (by decide) dX11_printTanks_21 (fun c1 => ?_) (fun c1 => ?_)
    · rw [if_pos c1] at hf
      cases hf
      refine j_aload_n E 0 rfl dX11_printTanks_104 ?_
      refine j_get (f := 5) E ok0 cf_X11 fl_X11_41 (lt_ rfl) rfl ent0 rfl dX11_printTanks_105 ?_
      refine j_invV [] [.int (X' 8 0 0 0)] E c_J4_length ml_X11_431 mv_J4_length_8abf5 rfl ⟨le_ rfl, le_ rfl⟩ rcS rfl rfl (le_ rfl) ⟨by show k + 0 ≤ 64; omega, by show j + 0 ≤ 8000; omega⟩ dX11_printTanks_108 ?_
      exact j_iret E rfl (by show k + 0 ≤ 64; omega) (by show j + 0 ≤ 8000; omega) dX11_printTanks_111
    · rw [if_neg c1] at hf
      obtain ⟨X1, h1, hf⟩ := bn1_e hf
      obtain ⟨X2, h2, hf⟩ := bn1_e hf
      have go : ∀ (k' j' : Nat), k' + 7 + 8 * n ≤ 64 → j' + 854 + 976 * n ≤ 8000 → J p l e (rmk 8 64 8000) s m args below meth c D z (GG D z (X1, (f1 + 2, M, o))) k' j' (MQ below (QC z (some (.int r)) (GG D z (X', (f1 + 2, M, o)))) args s (rmk 8 64 8000).cells (rmk 8 64 8000).slots (Az z)) 3 38 [(0, .ref (z + aX 0 0 0)), (1, .int v1)] [] := by
        intro k' j' hk' hj'
        refine b_X11_printTanks_38 E rfl (by omega) (by omega) h2 ?_
        refine j_iinc (ls' := [(1, .int (v1 + 1)), (0, .ref (z + aX 0 0 0))]) E 1 rfl (lt_ rfl) (v1 + 1) (congrArg (fun q => v1 + q) ic_1) rfl dX11_printTanks_98 ?_
        refine j_goto E 10 (by decide) dX11_printTanks_101 ?_
        refine j_sub [1, 0] rfl ?_
        exact ih X2 _ _ _ _ (by omega) (by omega) rfl hf
      refine j_iload_n E 1 rfl dX11_printTanks_24 ?_
      refine j_if_le E 38 (by decide) dX11_printTanks_25 (fun c2 => ?_) (fun c2 => ?_)
      · rw [if_pos c2] at h1
        cases h1
        exact go k j (by omega) (by omega)
      · rw [if_neg c2] at h1
        refine j_aload_n E 0 rfl dX11_printTanks_28 ?_
        refine j_get (f := 5) E ok0 cf_X11 fl_X11_41 (lt_ rfl) rfl ent0 rfl dX11_printTanks_29 ?_
        refine j_bipush E 32 bp_32 dX11_printTanks_32 ?_
        refine j_invV [] [.ref (z + 528)] E (c_J4_char h1) ml_X11_414 mv_J4_append_cf468 rfl ⟨le_ rfl, le_ rfl⟩ rcS rfl rfl (le_ rfl) ⟨by show k + 1 ≤ 64; omega, by show j + 122 ≤ 8000; omega⟩ dX11_printTanks_34 ?_
        refine j_pop E rfl dX11_printTanks_37 ?_
        exact go (k + 1) (j + 122) (by omega) (by omega)
theorem c_X11_printTanks {r : Int32} {X' : XT} (hf : f_X11_printTanks X = some (r, X')) : CC l yX11_printTanks cX11_printTanks 3 (some .int) (rmk 8 64 8000) D z [.ref (z + aX 0 0 0)] (GG D z (X, (f1 + 2, M, o))) (some (.int r)) (GG D z (X', (f1 + 2, M, o))) := by
  unfold f_X11_printTanks at hf
  refine cc_of pn_X11 (le_ rfl) (ls := [(0, .ref (z + aX 0 0 0))]) rfl ?_
  intro p e s m args below meth c E
  refine j_aload_n E 0 rfl dX11_printTanks_0 ?_
  refine j_get (f := 5) E ok0 cf_X11 fl_X11_41 (lt_ rfl) rfl ent0 rfl dX11_printTanks_1 ?_
  refine j_iconst E 0 ic_0 dX11_printTanks_4 ?_
  refine j_invV [] [] E c_J4_setLength ml_X11_408 mv_J4_setLength_d00df rfl ⟨le_ rfl, le_ rfl⟩ rcS rfl rfl (le_ rfl) ⟨le_ rfl, le_ rfl⟩ dX11_printTanks_5 ?_
  refine j_iconst E 0 ic_0 dX11_printTanks_8 ?_
  refine j_istore_n (ls' := [(1, .int 0), (0, .ref (z + aX 0 0 0))]) E (lt_ rfl) rfl dX11_printTanks_9 ?_
  refine j_sub [1, 0] rfl ?_
  exact b_X11_printTanks_10 E 7 _ 0 (0 + 1) (0 + 122) _ (by omega) (by omega) rfl hf
theorem c_X11_outputByte {v1 r : Int32} (hf : f_X11_outputByte X v1 = some r) : CC l yX11_outputByte cX11_outputByte 2 (some .int) (rmk 5 0 0) D z [.ref (z + aX 0 0 0), .int v1] (GG D z (X, Y)) (some (.int r)) (GG D z (X, Y)) := by
  unfold f_X11_outputByte at hf
  refine cc_of pn_X11 (le_ rfl) (ls := [(0, .ref (z + aX 0 0 0)), (1, .int v1)]) rfl ?_
  intro p e s m args below meth c E
  refine j_iload_n E 1 rfl dX11_outputByte_0 ?_
  refine j_if_lt E 15 (by decide) dX11_outputByte_1 (fun c1 => ?_) (fun c1 => ?_)
  · rw [if_pos c1] at hf
    exact none_e hf
  · rw [if_neg c1] at hf
    refine j_iload_n E 1 rfl dX11_outputByte_4 ?_
    refine j_aload_n E 0 rfl dX11_outputByte_5 ?_
    refine j_get (f := 5) E ok0 cf_X11 fl_X11_41 (lt_ rfl) rfl ent0 rfl dX11_outputByte_6 ?_
    refine j_invV [.int v1] [.int (X 8 0 0 0), .int v1] E c_J4_length ml_X11_431 mv_J4_length_8abf5 rfl ⟨le_ rfl, le_ rfl⟩ rcS rfl rfl (le_ rfl) ⟨le_ rfl, le_ rfl⟩ dX11_outputByte_9 ?_
    refine j_icmp_lt E 26 (by decide) dX11_outputByte_12 (fun c2 => ?_) (fun c2 => ?_)
    · rw [if_pos c2] at hf
      obtain ⟨⟨g1, g2⟩, hf⟩ := gd_e hf
      cases hf
      obtain ⟨i, hi, rfl⟩ := nI_of c1
      obtain ⟨t, ht, e8⟩ := nI_of g1
      rw [e8] at c2 g2
      have h1 := (nI_ltI hi ht).mp c2
      have h2 := (nI_leI (b := 65536) ht (by decide)).mp g2
      rw [nI_clamp hi]
      refine j_aload_n E 0 rfl dX11_outputByte_26 ?_
      refine j_get (f := 5) E ok0 cf_X11 fl_X11_41 (lt_ rfl) rfl ent0 rfl dX11_outputByte_27 ?_
      refine j_iload_n E 1 rfl dX11_outputByte_30 ?_
      refine j_invV [] [.int (X 9 0 0 i)] E (c_J4_charAt e8 h2 h1) ml_X11_435 mv_J4_charAt_5068e rfl ⟨le_ rfl, le_ rfl⟩ rcS rfl rfl (le_ rfl) ⟨le_ rfl, le_ rfl⟩ dX11_outputByte_31 ?_
      exact j_iret E rfl (le_ rfl) (le_ rfl) dX11_outputByte_34
    · rw [if_neg c2] at hf
      exact none_e hf
end OUT
