def f_X12_thrown (M : MT) : Option Int32 :=
  some (M.1 0 0)
set_option maxRecDepth 20000 in
theorem c_X12_thrown {l : Launch} {D : DD} {z : Nat} {X : XT} {o : Int64} {f1 : Nat} {M : MT} {r : Int32} (hf : f_X12_thrown M = some r) : CC l yX12_thrown cX12_thrown 1 (some .int) (rmk 1 0 0) D z [.ref (z + aM 0)] (GG D z (X, (f1 + 1, M, o))) (some (.int r)) (GG D z (X, (f1 + 1, M, o))) := by
  unfold f_X12_thrown at hf
  refine cc_of pn_X12 (le_ rfl) (ls := [(0, .ref (z + aM 0))]) rfl ?_
  intro p e s m args below meth c E
  refine j_aload_n E 0 rfl dX12_thrown_0 ?_
  refine j_getM (f := 0) E cf_X12 fl_X12_3 (lt_ rfl) rfl rfl dX12_thrown_1 ?_
  cases hf
  exact j_iret E rfl (le_ rfl) (le_ rfl) dX12_thrown_4
def f_X12_in (v0 : Int64) (v2 : Int64) (v4 : Int64) : Option Int32 :=
  if (lg_cmp v0 v2) < 0 then (some 0) else (if 0 < (lg_cmp v0 v4) then (some 0) else (some 1))
set_option maxRecDepth 20000 in
theorem c_X12_in {l : Launch} {D : DD} {z : Nat} {P0 : Heap → Prop} {v0 : Int64} {v2 : Int64} {v4 : Int64} {r : Int32} (hf : f_X12_in v0 v2 v4 = some r) : CC l yX12_in cX12_in 6 (some .boolean) (rmk 1 0 0) D z [.long v0, .long v2, .long v4] P0 (some (.int r)) P0 := by
  unfold f_X12_in at hf
  refine cc_of pn_X12 (le_ rfl) (ls := [(0, .long v0), (2, .long v2), (4, .long v4)]) rfl ?_
  intro p e s m args below meth c E
  refine j_lload_n E 0 rfl dX12_in_0 ?_
  refine j_lload_n E 1 rfl dX12_in_1 ?_
  refine j_lcmp E dX12_in_2 ?_
  refine j_if_lt E 17 (by decide) dX12_in_3 (fun c1 => ?_) (fun c1 => ?_)
  · rw [if_pos c1] at hf
    refine j_iconst E 0 ic_0 dX12_in_17 ?_
    cases hf
    exact j_iret E rfl (le_ rfl) (le_ rfl) dX12_in_18
  · rw [if_neg c1] at hf
    refine j_lload_n E 0 rfl dX12_in_6 ?_
    refine j_lload E 2 rfl dX12_in_7 ?_
    refine j_lcmp E dX12_in_9 ?_
    refine j_if_gt E 17 (by decide) dX12_in_10 (fun c2 => ?_) (fun c2 => ?_)
    · rw [if_pos c2] at hf
      refine j_iconst E 0 ic_0 dX12_in_17 ?_
      cases hf
      exact j_iret E rfl (le_ rfl) (le_ rfl) dX12_in_18
    · rw [if_neg c2] at hf
      refine j_iconst E 1 ic_1 dX12_in_13 ?_
      refine j_goto E 18 (by decide) dX12_in_14 ?_
      cases hf
      exact j_iret E rfl (le_ rfl) (le_ rfl) dX12_in_18
def f_X12_passes3 (M : MT) (v1 : Int32) (v2 : Int32) (v3 : Int32) : Option (Int32 × MT) :=
  if v1 = 0 then (bnd (mi M 0 0 1) (fun M4 => if (M4.1 0 0) = 0 then (some (1, M4)) else (some (0, M4)))) else (if v2 = 0 then (bnd (mi M 0 0 2) (fun M3 => if (M3.1 0 0) = 0 then (some (1, M3)) else (some (0, M3)))) else (if v3 = 0 then (bnd (mi M 0 0 3) (fun M2 => if (M2.1 0 0) = 0 then (some (1, M2)) else (some (0, M2)))) else (bnd (mi M 0 0 0) (fun M1 => if (M1.1 0 0) = 0 then (some (1, M1)) else (some (0, M1))))))
set_option maxRecDepth 20000 in
theorem c_X12_passes3 {l : Launch} {D : DD} {z : Nat} {X : XT} {o : Int64} {f1 : Nat} {M : MT} {v1 : Int32} {v2 : Int32} {v3 : Int32} {r : Int32} {M' : MT} (hf : f_X12_passes3 M v1 v2 v3 = some (r, M')) : CC l yX12_passes3 cX12_passes3 4 (some .boolean) (rmk 1 0 0) D z [.ref (z + aM 0), .int v1, .int v2, .int v3] (GG D z (X, (f1 + 1, M, o))) (some (.int r)) (GG D z (X, (f1 + 1, M', o))) := by
  unfold f_X12_passes3 at hf
  refine cc_of pn_X12 (le_ rfl) (ls := [(0, .ref (z + aM 0)), (1, .int v1), (2, .int v2), (3, .int v3)]) rfl ?_
  intro p e s m args below meth c E
  refine j_aload_n E 0 rfl dX12_passes3_0 ?_
  refine j_iload_n E 1 rfl dX12_passes3_1 ?_
  refine j_if_ne E 9 (by decide) dX12_passes3_2 (fun c1 => ?_) (fun c1 => ?_)
  · rw [if_neg c1] at hf
    refine j_iload_n E 2 rfl dX12_passes3_9 ?_
    refine j_if_ne E 17 (by decide) dX12_passes3_10 (fun c2 => ?_) (fun c2 => ?_)
    · rw [if_neg c2] at hf
      refine j_iload_n E 3 rfl dX12_passes3_17 ?_
      refine j_if_ne E 25 (by decide) dX12_passes3_18 (fun c3 => ?_) (fun c3 => ?_)
      · rw [if_neg c3] at hf
        refine j_iconst E 0 ic_0 dX12_passes3_25 ?_
        obtain ⟨M1, hM1, hf⟩ := bnd_e hf
        refine j_putM (f := 0) E cf_X12 fl_X12_3 (lt_ rfl) ⟨rfl, rfl⟩ (fit_i _) (lt_ rfl) peM_0 hM1 dX12_passes3_26 ?_
        refine j_aload_n E 0 rfl dX12_passes3_29 ?_
        refine j_getM (f := 0) E cf_X12 fl_X12_3 (lt_ rfl) rfl rfl dX12_passes3_30 ?_
        refine j_if_ne E 40 (by decide) dX12_passes3_33 (fun c4 => ?_) (fun c4 => ?_)
        · rw [if_neg c4] at hf
          refine j_iconst E 0 ic_0 dX12_passes3_40 ?_
          cases hf
          exact j_iret E rfl (le_ rfl) (le_ rfl) dX12_passes3_41
        · rw [if_pos c4] at hf
          refine j_iconst E 1 ic_1 dX12_passes3_36 ?_
          refine j_goto E 41 (by decide) dX12_passes3_37 ?_
          cases hf
          exact j_iret E rfl (le_ rfl) (le_ rfl) dX12_passes3_41
      · rw [if_pos c3] at hf
        refine j_iconst E 3 ic_3 dX12_passes3_21 ?_
        refine j_goto E 26 (by decide) dX12_passes3_22 ?_
        obtain ⟨M2, hM2, hf⟩ := bnd_e hf
        refine j_putM (f := 0) E cf_X12 fl_X12_3 (lt_ rfl) ⟨rfl, rfl⟩ (fit_i _) (lt_ rfl) peM_0 hM2 dX12_passes3_26 ?_
        refine j_aload_n E 0 rfl dX12_passes3_29 ?_
        refine j_getM (f := 0) E cf_X12 fl_X12_3 (lt_ rfl) rfl rfl dX12_passes3_30 ?_
        refine j_if_ne E 40 (by decide) dX12_passes3_33 (fun c5 => ?_) (fun c5 => ?_)
        · rw [if_neg c5] at hf
          refine j_iconst E 0 ic_0 dX12_passes3_40 ?_
          cases hf
          exact j_iret E rfl (le_ rfl) (le_ rfl) dX12_passes3_41
        · rw [if_pos c5] at hf
          refine j_iconst E 1 ic_1 dX12_passes3_36 ?_
          refine j_goto E 41 (by decide) dX12_passes3_37 ?_
          cases hf
          exact j_iret E rfl (le_ rfl) (le_ rfl) dX12_passes3_41
    · rw [if_pos c2] at hf
      refine j_iconst E 2 ic_2 dX12_passes3_13 ?_
      refine j_goto E 26 (by decide) dX12_passes3_14 ?_
      obtain ⟨M3, hM3, hf⟩ := bnd_e hf
      refine j_putM (f := 0) E cf_X12 fl_X12_3 (lt_ rfl) ⟨rfl, rfl⟩ (fit_i _) (lt_ rfl) peM_0 hM3 dX12_passes3_26 ?_
      refine j_aload_n E 0 rfl dX12_passes3_29 ?_
      refine j_getM (f := 0) E cf_X12 fl_X12_3 (lt_ rfl) rfl rfl dX12_passes3_30 ?_
      refine j_if_ne E 40 (by decide) dX12_passes3_33 (fun c6 => ?_) (fun c6 => ?_)
      · rw [if_neg c6] at hf
        refine j_iconst E 0 ic_0 dX12_passes3_40 ?_
        cases hf
        exact j_iret E rfl (le_ rfl) (le_ rfl) dX12_passes3_41
      · rw [if_pos c6] at hf
        refine j_iconst E 1 ic_1 dX12_passes3_36 ?_
        refine j_goto E 41 (by decide) dX12_passes3_37 ?_
        cases hf
        exact j_iret E rfl (le_ rfl) (le_ rfl) dX12_passes3_41
  · rw [if_pos c1] at hf
    refine j_iconst E 1 ic_1 dX12_passes3_5 ?_
    refine j_goto E 26 (by decide) dX12_passes3_6 ?_
    obtain ⟨M4, hM4, hf⟩ := bnd_e hf
    refine j_putM (f := 0) E cf_X12 fl_X12_3 (lt_ rfl) ⟨rfl, rfl⟩ (fit_i _) (lt_ rfl) peM_0 hM4 dX12_passes3_26 ?_
    refine j_aload_n E 0 rfl dX12_passes3_29 ?_
    refine j_getM (f := 0) E cf_X12 fl_X12_3 (lt_ rfl) rfl rfl dX12_passes3_30 ?_
    refine j_if_ne E 40 (by decide) dX12_passes3_33 (fun c7 => ?_) (fun c7 => ?_)
    · rw [if_neg c7] at hf
      refine j_iconst E 0 ic_0 dX12_passes3_40 ?_
      cases hf
      exact j_iret E rfl (le_ rfl) (le_ rfl) dX12_passes3_41
    · rw [if_pos c7] at hf
      refine j_iconst E 1 ic_1 dX12_passes3_36 ?_
      refine j_goto E 41 (by decide) dX12_passes3_37 ?_
      cases hf
      exact j_iret E rfl (le_ rfl) (le_ rfl) dX12_passes3_41
def f_X12_passes2 (M : MT) (v1 : Int32) (v2 : Int32) : Option (Int32 × MT) :=
  bn2 (f_X12_passes3 M v1 v2 1) (fun r1 M1 => gd (r1 &&& 1 = r1) (some (r1, M1)))
set_option maxRecDepth 20000 in
theorem c_X12_passes2 {l : Launch} {D : DD} {z : Nat} {X : XT} {o : Int64} {f1 : Nat} {M : MT} {v1 : Int32} {v2 : Int32} {r : Int32} {M' : MT} (hf : f_X12_passes2 M v1 v2 = some (r, M')) : CC l yX12_passes2 cX12_passes2 3 (some .boolean) (rmk 2 0 0) D z [.ref (z + aM 0), .int v1, .int v2] (GG D z (X, (f1 + 1, M, o))) (some (.int r)) (GG D z (X, (f1 + 1, M', o))) := by
  unfold f_X12_passes2 at hf
  refine cc_of pn_X12 (le_ rfl) (ls := [(0, .ref (z + aM 0)), (1, .int v1), (2, .int v2)]) rfl ?_
  intro p e s m args below meth c E
  refine j_aload_n E 0 rfl dX12_passes2_0 ?_
  refine j_iload_n E 1 rfl dX12_passes2_1 ?_
  refine j_iload_n E 2 rfl dX12_passes2_2 ?_
  refine j_iconst E 1 ic_1 dX12_passes2_3 ?_
  obtain ⟨r1, M1, h1, hf⟩ := bn2_e hf
  refine j_invV [] [.int r1] E (c_X12_passes3 h1) ml_X12_7 mv_X12_passes3 rfl ⟨le_ rfl, le_ rfl⟩ (rcM cf_X12) rfl rfl (le_ rfl) ⟨le_ rfl, le_ rfl⟩ dX12_passes2_4 ?_
  obtain ⟨g1, hf⟩ := gd_e hf
  cases hf
  exact j_iret E (nz_ g1) (le_ rfl) (le_ rfl) dX12_passes2_7
def f_X12_passes1 (M : MT) (v1 : Int32) : Option (Int32 × MT) :=
  bn2 (f_X12_passes3 M v1 1 1) (fun r1 M1 => gd (r1 &&& 1 = r1) (some (r1, M1)))
set_option maxRecDepth 20000 in
theorem c_X12_passes1 {l : Launch} {D : DD} {z : Nat} {X : XT} {o : Int64} {f1 : Nat} {M : MT} {v1 : Int32} {r : Int32} {M' : MT} (hf : f_X12_passes1 M v1 = some (r, M')) : CC l yX12_passes1 cX12_passes1 2 (some .boolean) (rmk 2 0 0) D z [.ref (z + aM 0), .int v1] (GG D z (X, (f1 + 1, M, o))) (some (.int r)) (GG D z (X, (f1 + 1, M', o))) := by
  unfold f_X12_passes1 at hf
  refine cc_of pn_X12 (le_ rfl) (ls := [(0, .ref (z + aM 0)), (1, .int v1)]) rfl ?_
  intro p e s m args below meth c E
  refine j_aload_n E 0 rfl dX12_passes1_0 ?_
  refine j_iload_n E 1 rfl dX12_passes1_1 ?_
  refine j_iconst E 1 ic_1 dX12_passes1_2 ?_
  refine j_iconst E 1 ic_1 dX12_passes1_3 ?_
  obtain ⟨r1, M1, h1, hf⟩ := bn2_e hf
  refine j_invV [] [.int r1] E (c_X12_passes3 h1) ml_X12_7 mv_X12_passes3 rfl ⟨le_ rfl, le_ rfl⟩ (rcM cf_X12) rfl rfl (le_ rfl) ⟨le_ rfl, le_ rfl⟩ dX12_passes1_4 ?_
  obtain ⟨g1, hf⟩ := gd_e hf
  cases hf
  exact j_iret E (nz_ g1) (le_ rfl) (le_ rfl) dX12_passes1_7
def f_X12_spell_4 (t0 : Nat) : Nat → Int64 → Int32 → Option Int64
  | 0, _, _ => none
  | n + 1, v1, v3 => if (slen t0) ≤ v3 then (some v1) else (gd (¬ (v3 < 0 ∨ strN.getD t0 0 ≤ v3.toNatClampNeg)) (bnd ((((27 * v1) + ((sch t0 v3.toNatClampNeg).toInt64)) - 97) + 1) (fun x1 => f_X12_spell_4 t0 n x1 (v3 + 1))))
def f_X12_spell (t0 : Nat) : Option Int64 :=
  f_X12_spell_4 t0 2000 0 0
set_option maxRecDepth 20000 in
theorem b_X12_spell_4 {p : Program} {l : Launch} {e : Env} {s : State} {m : MethodId} {args : Array Value} {below : List Frame} {meth : Method} {c : Code} {D : DD} {z : Nat} {P0 : Heap → Prop} {t0 : Nat} (ht0 : t0 < 22) (E : Cx p s m args meth c D z RX12 cX12_spell 4 (some .long)) {r : Int64} : ∀ (n : Nat) (v1 : Int64) (v3 : Int32) (hf : f_X12_spell_4 t0 n v1 v3 = some r), J p l e (rmk 5 0 0) s m args below meth c D z P0 0 0 (MQ below (QC z (some (.long r)) P0) args s (rmk 5 0 0).cells (rmk 5 0 0).slots (Az z)) 4 4 [(0, .ref (D.2.2.2.1 t0)), (1, .long v1), (3, .int v3)] [] := by
  intro n
  induction n with
  | zero =>
    intro v1 v3 hf
    exact none_e hf
  | succ n ih =>
    intro v1 v3 hf
    rw [f_X12_spell_4] at hf
    refine j_iload_n E 2 rfl dX12_spell_4 ?_
    refine j_aload_n E 0 rfl dX12_spell_5 ?_
    refine j_invVs [.int v3] [.int (slen t0), .int v3] E ht0 (c_slen (r := slen t0) ht0 rfl) ml_X12_265 mv_J0_length_8abf5 rfl ⟨le_ rfl, le_ rfl⟩ rfl rfl (le_ rfl) ⟨le_ rfl, le_ rfl⟩ dX12_spell_6 ?_
    refine j_icmp_ge E 37 (by decide) dX12_spell_9 (fun c1 => ?_) (fun c1 => ?_)
    · rw [if_pos c1] at hf
      refine j_lload_n E 1 rfl dX12_spell_37 ?_
      cases hf
      exact j_lret E (le_ rfl) (le_ rfl) dX12_spell_38
    · rw [if_neg c1] at hf
      refine j_ldc2 E ct_X12_245 dX12_spell_12 ?_
      refine j_lload_n E 1 rfl dX12_spell_15 ?_
      refine j_lmul E dX12_spell_16 ?_
      refine j_aload_n E 0 rfl dX12_spell_17 ?_
      refine j_iload_n E 2 rfl dX12_spell_18 ?_
      obtain ⟨g1, hf⟩ := gd_e hf
      refine j_invVs [.long (27 * v1)] [.int (sch t0 v3.toNatClampNeg), .long (27 * v1)] E ht0 (c_schar (i := v3) ht0 g1) ml_X12_271 mv_J0_charAt_5068e rfl ⟨le_ rfl, le_ rfl⟩ rfl rfl (le_ rfl) ⟨le_ rfl, le_ rfl⟩ dX12_spell_19 ?_
      refine j_i2l E dX12_spell_22 ?_
      refine j_ladd E dX12_spell_23 ?_
      refine j_ldc2 E ct_X12_247 dX12_spell_24 ?_
      refine j_lsub E dX12_spell_27 ?_
      refine j_lconst E 1 rfl dX12_spell_28 ?_
      refine j_ladd E dX12_spell_29 ?_
      obtain ⟨x1, hx1, hf⟩ := bnd_e hf
      refine j_namel hx1 ?_
      refine j_lstore_n (ls' := [(1, .long x1), (0, .ref (D.2.2.2.1 t0)), (3, .int v3)]) E (lt_ rfl) rfl dX12_spell_30 ?_
      refine j_iinc (ls' := [(3, .int (v3 + 1)), (1, .long x1), (0, .ref (D.2.2.2.1 t0))]) E 2 rfl (lt_ rfl) (v3 + 1) (congrArg (fun q => v3 + q) ic_1) rfl dX12_spell_31 ?_
      refine j_goto E 4 (by decide) dX12_spell_34 ?_
      refine j_sub [2, 1, 0] rfl ?_
      exact ih _ _ hf
set_option maxRecDepth 20000 in
theorem c_X12_spell {l : Launch} {D : DD} {z : Nat} {P0 : Heap → Prop} {t0 : Nat} (ht0 : t0 < 22) {r : Int64} (hf : f_X12_spell t0 = some r) : CC l yX12_spell cX12_spell 4 (some .long) (rmk 5 0 0) D z [.ref (D.2.2.2.1 t0)] P0 (some (.long r)) P0 := by
  unfold f_X12_spell at hf
  refine cc_of pn_X12 (le_ rfl) (ls := [(0, .ref (D.2.2.2.1 t0))]) rfl ?_
  intro p e s m args below meth c E
  refine j_lconst E 0 rfl dX12_spell_0 ?_
  refine j_lstore_n (ls' := [(1, .long 0), (0, .ref (D.2.2.2.1 t0))]) E (lt_ rfl) rfl dX12_spell_1 ?_
  refine j_iconst E 0 ic_0 dX12_spell_2 ?_
  refine j_istore_n (ls' := [(3, .int 0), (1, .long 0), (0, .ref (D.2.2.2.1 t0))]) E (lt_ rfl) rfl dX12_spell_3 ?_
  refine j_sub [2, 1, 0] rfl ?_
  exact b_X12_spell_4 ht0 E 2000 _ _ hf
def f_X12_layVariety (M : MT) (v1 : Int32) (v2 : Int32) : Option MT :=
  bnd (16 + (6 * (M.1 M.2.2 4))) (fun x1 => bnd (mi M M.2.2 4 ((M.1 M.2.2 4) + 1)) (fun M1 => gd (¬ ((x1 + 0) < 0 ∨ 264 ≤ (x1 + 0).toNatClampNeg)) (bnd (mi M1 M1.2.2 ((x1 + 0).toNatClampNeg) v1) (fun M2 => gd (¬ ((x1 + 1) < 0 ∨ 264 ≤ (x1 + 1).toNatClampNeg)) (bnd (mi M2 M2.2.2 ((x1 + 1).toNatClampNeg) v2) (fun M3 => some M3))))))
set_option maxRecDepth 20000 in
theorem c_X12_layVariety {l : Launch} {D : DD} {z : Nat} {X : XT} {o : Int64} {f1 : Nat} {M : MT} {v1 : Int32} {v2 : Int32} {M' : MT} (hf : f_X12_layVariety M v1 v2 = some M') : CC l yX12_layVariety cX12_layVariety 4 none (rmk 1 0 0) D z [.ref (z + aM 0), .int v1, .int v2] (GG D z (X, (f1 + 1, M, o))) none (GG D z (X, (f1 + 1, M', o))) := by
  unfold f_X12_layVariety at hf
  refine cc_of pn_X12 (le_ rfl) (ls := [(0, .ref (z + aM 0)), (1, .int v1), (2, .int v2)]) rfl ?_
  intro p e s m args below meth c E
  refine j_bipush E 16 bp_16 dX12_layVariety_0 ?_
  refine j_bipush E 6 bp_6 dX12_layVariety_2 ?_
  refine j_aload_n E 0 rfl dX12_layVariety_4 ?_
  refine j_getM (f := 3) E cf_X12 fl_X12_24 (lt_ rfl) rfl rfl dX12_layVariety_5 ?_
  refine j_iconst E 4 ic_4 dX12_layVariety_8 ?_
  refine j_ialdR E rfl (vi_4 (lt_ rfl)) (4) tn_4 dX12_layVariety_9 ?_
  refine j_imul E dX12_layVariety_10 ?_
  refine j_iadd E dX12_layVariety_11 ?_
  obtain ⟨x1, hx1, hf⟩ := bnd_e hf
  refine j_name hx1 ?_
  refine j_istore_n (ls' := [(3, .int x1), (0, .ref (z + aM 0)), (1, .int v1), (2, .int v2)]) E (lt_ rfl) rfl dX12_layVariety_12 ?_
  refine j_aload_n E 1 rfl dX12_layVariety_13 ?_
  refine j_getM (f := 3) E cf_X12 fl_X12_24 (lt_ rfl) rfl rfl dX12_layVariety_14 ?_
  refine j_iconst E 4 ic_4 dX12_layVariety_17 ?_
  refine j_dup2 E rfl rfl dX12_layVariety_18 ?_
  refine j_ialdR E rfl (vi_4 (lt_ rfl)) (4) tn_4 dX12_layVariety_19 ?_
  refine j_iconst E 1 ic_1 dX12_layVariety_20 ?_
  refine j_iadd E dX12_layVariety_21 ?_
  obtain ⟨M1, hM1, hf⟩ := bnd_e hf
  refine j_iastR E rfl (vi_4 (lt_ rfl)) (4) tn_4 hM1 dX12_layVariety_22 ?_
  refine j_aload_n E 1 rfl dX12_layVariety_23 ?_
  refine j_getM (f := 3) E cf_X12 fl_X12_24 (lt_ rfl) rfl rfl dX12_layVariety_24 ?_
  refine j_iload_n E 0 rfl dX12_layVariety_27 ?_
  refine j_iconst E 0 ic_0 dX12_layVariety_28 ?_
  refine j_iadd E dX12_layVariety_29 ?_
  refine j_iload_n E 2 rfl dX12_layVariety_30 ?_
  obtain ⟨g1, hf⟩ := gd_e hf
  obtain ⟨M2, hM2, hf⟩ := bnd_e hf
  refine j_iastR E rfl g1 ((x1 + 0).toNatClampNeg) rfl hM2 dX12_layVariety_31 ?_
  refine j_aload_n E 1 rfl dX12_layVariety_32 ?_
  refine j_getM (f := 3) E cf_X12 fl_X12_24 (lt_ rfl) rfl rfl dX12_layVariety_33 ?_
  refine j_iload_n E 0 rfl dX12_layVariety_36 ?_
  refine j_iconst E 1 ic_1 dX12_layVariety_37 ?_
  refine j_iadd E dX12_layVariety_38 ?_
  refine j_iload_n E 3 rfl dX12_layVariety_39 ?_
  obtain ⟨g2, hf⟩ := gd_e hf
  obtain ⟨M3, hM3, hf⟩ := bnd_e hf
  refine j_iastR E rfl g2 ((x1 + 1).toNatClampNeg) rfl hM3 dX12_layVariety_40 ?_
  cases hf
  exact j_vret E (le_ rfl) (le_ rfl) dX12_layVariety_41
def f_X12_setPriceNow (M : MT) (v1 : Int32) (v2 : Int32) (v3 : Int32) : Option MT :=
  gd (¬ ((((16 + (6 * v1)) + 2) + v2) < 0 ∨ 264 ≤ (((16 + (6 * v1)) + 2) + v2).toNatClampNeg)) (bnd (mi M M.2.2 ((((16 + (6 * v1)) + 2) + v2).toNatClampNeg) v3) (fun M1 => some M1))
set_option maxRecDepth 20000 in
theorem c_X12_setPriceNow {l : Launch} {D : DD} {z : Nat} {X : XT} {o : Int64} {f1 : Nat} {M : MT} {v1 : Int32} {v2 : Int32} {v3 : Int32} {M' : MT} (hf : f_X12_setPriceNow M v1 v2 v3 = some M') : CC l yX12_setPriceNow cX12_setPriceNow 4 none (rmk 1 0 0) D z [.ref (z + aM 0), .int v1, .int v2, .int v3] (GG D z (X, (f1 + 1, M, o))) none (GG D z (X, (f1 + 1, M', o))) := by
  unfold f_X12_setPriceNow at hf
  refine cc_of pn_X12 (le_ rfl) (ls := [(0, .ref (z + aM 0)), (1, .int v1), (2, .int v2), (3, .int v3)]) rfl ?_
  intro p e s m args below meth c E
  refine j_aload_n E 0 rfl dX12_setPriceNow_0 ?_
  refine j_getM (f := 3) E cf_X12 fl_X12_24 (lt_ rfl) rfl rfl dX12_setPriceNow_1 ?_
  refine j_bipush E 16 bp_16 dX12_setPriceNow_4 ?_
  refine j_bipush E 6 bp_6 dX12_setPriceNow_6 ?_
  refine j_iload_n E 1 rfl dX12_setPriceNow_8 ?_
  refine j_imul E dX12_setPriceNow_9 ?_
  refine j_iadd E dX12_setPriceNow_10 ?_
  refine j_iconst E 2 ic_2 dX12_setPriceNow_11 ?_
  refine j_iadd E dX12_setPriceNow_12 ?_
  refine j_iload_n E 2 rfl dX12_setPriceNow_13 ?_
  refine j_iadd E dX12_setPriceNow_14 ?_
  refine j_iload_n E 3 rfl dX12_setPriceNow_15 ?_
  obtain ⟨g1, hf⟩ := gd_e hf
  obtain ⟨M1, hM1, hf⟩ := bnd_e hf
  refine j_iastR E rfl g1 ((((16 + (6 * v1)) + 2) + v2).toNatClampNeg) rfl hM1 dX12_setPriceNow_16 ?_
  cases hf
  exact j_vret E (le_ rfl) (le_ rfl) dX12_setPriceNow_17
def f_X12_layGrower (M : MT) (v1 : Int32) (v2 : Int32) : Option MT :=
  bnd (40 + (2 * (M.1 M.2.2 5))) (fun x1 => bnd (mi M M.2.2 5 ((M.1 M.2.2 5) + 1)) (fun M1 => gd (¬ ((x1 + 0) < 0 ∨ 264 ≤ (x1 + 0).toNatClampNeg)) (bnd (mi M1 M1.2.2 ((x1 + 0).toNatClampNeg) v1) (fun M2 => gd (¬ ((x1 + 1) < 0 ∨ 264 ≤ (x1 + 1).toNatClampNeg)) (bnd (mi M2 M2.2.2 ((x1 + 1).toNatClampNeg) v2) (fun M3 => some M3))))))
set_option maxRecDepth 20000 in
theorem c_X12_layGrower {l : Launch} {D : DD} {z : Nat} {X : XT} {o : Int64} {f1 : Nat} {M : MT} {v1 : Int32} {v2 : Int32} {M' : MT} (hf : f_X12_layGrower M v1 v2 = some M') : CC l yX12_layGrower cX12_layGrower 4 none (rmk 1 0 0) D z [.ref (z + aM 0), .int v1, .int v2] (GG D z (X, (f1 + 1, M, o))) none (GG D z (X, (f1 + 1, M', o))) := by
  unfold f_X12_layGrower at hf
  refine cc_of pn_X12 (le_ rfl) (ls := [(0, .ref (z + aM 0)), (1, .int v1), (2, .int v2)]) rfl ?_
  intro p e s m args below meth c E
  refine j_bipush E 40 bp_40 dX12_layGrower_0 ?_
  refine j_iconst E 2 ic_2 dX12_layGrower_2 ?_
  refine j_aload_n E 0 rfl dX12_layGrower_3 ?_
  refine j_getM (f := 3) E cf_X12 fl_X12_24 (lt_ rfl) rfl rfl dX12_layGrower_4 ?_
  refine j_iconst E 5 ic_5 dX12_layGrower_7 ?_
  refine j_ialdR E rfl (vi_5 (lt_ rfl)) (5) tn_5 dX12_layGrower_8 ?_
  refine j_imul E dX12_layGrower_9 ?_
  refine j_iadd E dX12_layGrower_10 ?_
  obtain ⟨x1, hx1, hf⟩ := bnd_e hf
  refine j_name hx1 ?_
  refine j_istore_n (ls' := [(3, .int x1), (0, .ref (z + aM 0)), (1, .int v1), (2, .int v2)]) E (lt_ rfl) rfl dX12_layGrower_11 ?_
  refine j_aload_n E 1 rfl dX12_layGrower_12 ?_
  refine j_getM (f := 3) E cf_X12 fl_X12_24 (lt_ rfl) rfl rfl dX12_layGrower_13 ?_
  refine j_iconst E 5 ic_5 dX12_layGrower_16 ?_
  refine j_dup2 E rfl rfl dX12_layGrower_17 ?_
  refine j_ialdR E rfl (vi_5 (lt_ rfl)) (5) tn_5 dX12_layGrower_18 ?_
  refine j_iconst E 1 ic_1 dX12_layGrower_19 ?_
  refine j_iadd E dX12_layGrower_20 ?_
  obtain ⟨M1, hM1, hf⟩ := bnd_e hf
  refine j_iastR E rfl (vi_5 (lt_ rfl)) (5) tn_5 hM1 dX12_layGrower_21 ?_
  refine j_aload_n E 1 rfl dX12_layGrower_22 ?_
  refine j_getM (f := 3) E cf_X12 fl_X12_24 (lt_ rfl) rfl rfl dX12_layGrower_23 ?_
  refine j_iload_n E 0 rfl dX12_layGrower_26 ?_
  refine j_iconst E 0 ic_0 dX12_layGrower_27 ?_
  refine j_iadd E dX12_layGrower_28 ?_
  refine j_iload_n E 2 rfl dX12_layGrower_29 ?_
  obtain ⟨g1, hf⟩ := gd_e hf
  obtain ⟨M2, hM2, hf⟩ := bnd_e hf
  refine j_iastR E rfl g1 ((x1 + 0).toNatClampNeg) rfl hM2 dX12_layGrower_30 ?_
  refine j_aload_n E 1 rfl dX12_layGrower_31 ?_
  refine j_getM (f := 3) E cf_X12 fl_X12_24 (lt_ rfl) rfl rfl dX12_layGrower_32 ?_
  refine j_iload_n E 0 rfl dX12_layGrower_35 ?_
  refine j_iconst E 1 ic_1 dX12_layGrower_36 ?_
  refine j_iadd E dX12_layGrower_37 ?_
  refine j_iload_n E 3 rfl dX12_layGrower_38 ?_
  obtain ⟨g2, hf⟩ := gd_e hf
  obtain ⟨M3, hM3, hf⟩ := bnd_e hf
  refine j_iastR E rfl g2 ((x1 + 1).toNatClampNeg) rfl hM3 dX12_layGrower_39 ?_
  cases hf
  exact j_vret E (le_ rfl) (le_ rfl) dX12_layGrower_40
def f_X12_layPlot (M : MT) (v1 : Int32) (v2 : Int32) (v3 : Int32) : Option MT :=
  bnd (52 + (3 * (M.1 M.2.2 6))) (fun x1 => bnd (mi M M.2.2 6 ((M.1 M.2.2 6) + 1)) (fun M1 => gd (¬ ((x1 + 0) < 0 ∨ 264 ≤ (x1 + 0).toNatClampNeg)) (bnd (mi M1 M1.2.2 ((x1 + 0).toNatClampNeg) v1) (fun M2 => gd (¬ ((x1 + 1) < 0 ∨ 264 ≤ (x1 + 1).toNatClampNeg)) (bnd (mi M2 M2.2.2 ((x1 + 1).toNatClampNeg) v2) (fun M3 => gd (¬ ((x1 + 2) < 0 ∨ 264 ≤ (x1 + 2).toNatClampNeg)) (bnd (mi M3 M3.2.2 ((x1 + 2).toNatClampNeg) v3) (fun M4 => some M4))))))))
set_option maxRecDepth 20000 in
theorem c_X12_layPlot {l : Launch} {D : DD} {z : Nat} {X : XT} {o : Int64} {f1 : Nat} {M : MT} {v1 : Int32} {v2 : Int32} {v3 : Int32} {M' : MT} (hf : f_X12_layPlot M v1 v2 v3 = some M') : CC l yX12_layPlot cX12_layPlot 5 none (rmk 1 0 0) D z [.ref (z + aM 0), .int v1, .int v2, .int v3] (GG D z (X, (f1 + 1, M, o))) none (GG D z (X, (f1 + 1, M', o))) := by
  unfold f_X12_layPlot at hf
  refine cc_of pn_X12 (le_ rfl) (ls := [(0, .ref (z + aM 0)), (1, .int v1), (2, .int v2), (3, .int v3)]) rfl ?_
  intro p e s m args below meth c E
  refine j_bipush E 52 bp_52 dX12_layPlot_0 ?_
  refine j_iconst E 3 ic_3 dX12_layPlot_2 ?_
  refine j_aload_n E 0 rfl dX12_layPlot_3 ?_
  refine j_getM (f := 3) E cf_X12 fl_X12_24 (lt_ rfl) rfl rfl dX12_layPlot_4 ?_
  refine j_bipush E 6 bp_6 dX12_layPlot_7 ?_
  refine j_ialdR E rfl (vi_6 (lt_ rfl)) (6) tn_6 dX12_layPlot_9 ?_
  refine j_imul E dX12_layPlot_10 ?_
  refine j_iadd E dX12_layPlot_11 ?_
  obtain ⟨x1, hx1, hf⟩ := bnd_e hf
  refine j_name hx1 ?_
  refine j_istore (ls' := [(4, .int x1), (0, .ref (z + aM 0)), (1, .int v1), (2, .int v2), (3, .int v3)]) E (lt_ rfl) rfl dX12_layPlot_12 ?_
  refine j_aload_n E 1 rfl dX12_layPlot_14 ?_
  refine j_getM (f := 3) E cf_X12 fl_X12_24 (lt_ rfl) rfl rfl dX12_layPlot_15 ?_
  refine j_bipush E 6 bp_6 dX12_layPlot_18 ?_
  refine j_dup2 E rfl rfl dX12_layPlot_20 ?_
  refine j_ialdR E rfl (vi_6 (lt_ rfl)) (6) tn_6 dX12_layPlot_21 ?_
  refine j_iconst E 1 ic_1 dX12_layPlot_22 ?_
  refine j_iadd E dX12_layPlot_23 ?_
  obtain ⟨M1, hM1, hf⟩ := bnd_e hf
  refine j_iastR E rfl (vi_6 (lt_ rfl)) (6) tn_6 hM1 dX12_layPlot_24 ?_
  refine j_aload_n E 1 rfl dX12_layPlot_25 ?_
  refine j_getM (f := 3) E cf_X12 fl_X12_24 (lt_ rfl) rfl rfl dX12_layPlot_26 ?_
  refine j_iload E 0 rfl dX12_layPlot_29 ?_
  refine j_iconst E 0 ic_0 dX12_layPlot_31 ?_
  refine j_iadd E dX12_layPlot_32 ?_
  refine j_iload_n E 2 rfl dX12_layPlot_33 ?_
  obtain ⟨g1, hf⟩ := gd_e hf
  obtain ⟨M2, hM2, hf⟩ := bnd_e hf
  refine j_iastR E rfl g1 ((x1 + 0).toNatClampNeg) rfl hM2 dX12_layPlot_34 ?_
  refine j_aload_n E 1 rfl dX12_layPlot_35 ?_
  refine j_getM (f := 3) E cf_X12 fl_X12_24 (lt_ rfl) rfl rfl dX12_layPlot_36 ?_
  refine j_iload E 0 rfl dX12_layPlot_39 ?_
  refine j_iconst E 1 ic_1 dX12_layPlot_41 ?_
  refine j_iadd E dX12_layPlot_42 ?_
  refine j_iload_n E 3 rfl dX12_layPlot_43 ?_
  obtain ⟨g2, hf⟩ := gd_e hf
  obtain ⟨M3, hM3, hf⟩ := bnd_e hf
  refine j_iastR E rfl g2 ((x1 + 1).toNatClampNeg) rfl hM3 dX12_layPlot_44 ?_
  refine j_aload_n E 1 rfl dX12_layPlot_45 ?_
  refine j_getM (f := 3) E cf_X12 fl_X12_24 (lt_ rfl) rfl rfl dX12_layPlot_46 ?_
  refine j_iload E 0 rfl dX12_layPlot_49 ?_
  refine j_iconst E 2 ic_2 dX12_layPlot_51 ?_
  refine j_iadd E dX12_layPlot_52 ?_
  refine j_iload_n E 4 rfl dX12_layPlot_53 ?_
  obtain ⟨g3, hf⟩ := gd_e hf
  obtain ⟨M4, hM4, hf⟩ := bnd_e hf
  refine j_iastR E rfl g3 ((x1 + 2).toNatClampNeg) rfl hM4 dX12_layPlot_54 ?_
  cases hf
  exact j_vret E (le_ rfl) (le_ rfl) dX12_layPlot_55
def f_X12_setTank (M : MT) (v1 : Int32) (v2 : Int32) (v3 : Int32) : Option MT :=
  gd (¬ (((196 + (4 * v1)) + v2) < 0 ∨ 264 ≤ ((196 + (4 * v1)) + v2).toNatClampNeg)) (bnd (mi M M.2.2 (((196 + (4 * v1)) + v2).toNatClampNeg) v3) (fun M1 => some M1))
set_option maxRecDepth 20000 in
theorem c_X12_setTank {l : Launch} {D : DD} {z : Nat} {X : XT} {o : Int64} {f1 : Nat} {M : MT} {v1 : Int32} {v2 : Int32} {v3 : Int32} {M' : MT} (hf : f_X12_setTank M v1 v2 v3 = some M') : CC l yX12_setTank cX12_setTank 4 none (rmk 1 0 0) D z [.ref (z + aM 0), .int v1, .int v2, .int v3] (GG D z (X, (f1 + 1, M, o))) none (GG D z (X, (f1 + 1, M', o))) := by
  unfold f_X12_setTank at hf
  refine cc_of pn_X12 (le_ rfl) (ls := [(0, .ref (z + aM 0)), (1, .int v1), (2, .int v2), (3, .int v3)]) rfl ?_
  intro p e s m args below meth c E
  refine j_aload_n E 0 rfl dX12_setTank_0 ?_
  refine j_getM (f := 3) E cf_X12 fl_X12_24 (lt_ rfl) rfl rfl dX12_setTank_1 ?_
  refine j_sipush E 196 sp_196 dX12_setTank_4 ?_
  refine j_iconst E 4 ic_4 dX12_setTank_7 ?_
  refine j_iload_n E 1 rfl dX12_setTank_8 ?_
  refine j_imul E dX12_setTank_9 ?_
  refine j_iadd E dX12_setTank_10 ?_
  refine j_iload_n E 2 rfl dX12_setTank_11 ?_
  refine j_iadd E dX12_setTank_12 ?_
  refine j_iload_n E 3 rfl dX12_setTank_13 ?_
  obtain ⟨g1, hf⟩ := gd_e hf
  obtain ⟨M1, hM1, hf⟩ := bnd_e hf
  refine j_iastR E rfl g1 (((196 + (4 * v1)) + v2).toNatClampNeg) rfl hM1 dX12_setTank_14 ?_
  cases hf
  exact j_vret E (le_ rfl) (le_ rfl) dX12_setTank_15
def f_X12_layTank (M : MT) (v1 : Int32) : Option MT :=
  bnd (mi M M.2.2 8 ((M.1 M.2.2 8) + 1)) (fun M1 => bn1 (f_X12_setTank M1 (M.1 M.2.2 8) 0 v1) (fun M2 => bn1 (f_X12_setTank M2 (M.1 M.2.2 8) 2 (-1)) (fun M3 => some M3)))
set_option maxRecDepth 20000 in
theorem c_X12_layTank {l : Launch} {D : DD} {z : Nat} {X : XT} {o : Int64} {f1 : Nat} {M : MT} {v1 : Int32} {M' : MT} (hf : f_X12_layTank M v1 = some M') : CC l yX12_layTank cX12_layTank 3 none (rmk 2 0 0) D z [.ref (z + aM 0), .int v1] (GG D z (X, (f1 + 1, M, o))) none (GG D z (X, (f1 + 1, M', o))) := by
  unfold f_X12_layTank at hf
  refine cc_of pn_X12 (le_ rfl) (ls := [(0, .ref (z + aM 0)), (1, .int v1)]) rfl ?_
  intro p e s m args below meth c E
  refine j_aload_n E 0 rfl dX12_layTank_0 ?_
  refine j_getM (f := 3) E cf_X12 fl_X12_24 (lt_ rfl) rfl rfl dX12_layTank_1 ?_
  refine j_bipush E 8 bp_8 dX12_layTank_4 ?_
  refine j_ialdR E rfl (vi_8 (lt_ rfl)) (8) tn_8 dX12_layTank_6 ?_
  refine j_istore_n (ls' := [(2, .int (M.1 M.2.2 8)), (0, .ref (z + aM 0)), (1, .int v1)]) E (lt_ rfl) rfl dX12_layTank_7 ?_
  refine j_aload_n E 1 rfl dX12_layTank_8 ?_
  refine j_getM (f := 3) E cf_X12 fl_X12_24 (lt_ rfl) rfl rfl dX12_layTank_9 ?_
  refine j_bipush E 8 bp_8 dX12_layTank_12 ?_
  refine j_dup2 E rfl rfl dX12_layTank_14 ?_
  refine j_ialdR E rfl (vi_8 (lt_ rfl)) (8) tn_8 dX12_layTank_15 ?_
  refine j_iconst E 1 ic_1 dX12_layTank_16 ?_
  refine j_iadd E dX12_layTank_17 ?_
  obtain ⟨M1, hM1, hf⟩ := bnd_e hf
  refine j_iastR E rfl (vi_8 (lt_ rfl)) (8) tn_8 hM1 dX12_layTank_18 ?_
  refine j_aload_n E 1 rfl dX12_layTank_19 ?_
  refine j_iload_n E 0 rfl dX12_layTank_20 ?_
  refine j_iconst E 0 ic_0 dX12_layTank_21 ?_
  refine j_iload_n E 2 rfl dX12_layTank_22 ?_
  obtain ⟨M2, h1, hf⟩ := bn1_e hf
  refine j_invV [] [] E (c_X12_setTank h1) ml_X12_141 mv_X12_setTank rfl ⟨le_ rfl, le_ rfl⟩ (rcM cf_X12) rfl rfl (le_ rfl) ⟨le_ rfl, le_ rfl⟩ dX12_layTank_23 ?_
  refine j_aload_n E 1 rfl dX12_layTank_26 ?_
  refine j_iload_n E 0 rfl dX12_layTank_27 ?_
  refine j_iconst E 2 ic_2 dX12_layTank_28 ?_
  refine j_iconst E (-1) ic_m1 dX12_layTank_29 ?_
  obtain ⟨M3, h2, hf⟩ := bn1_e hf
  refine j_invV [] [] E (c_X12_setTank h2) ml_X12_141 mv_X12_setTank rfl ⟨le_ rfl, le_ rfl⟩ (rcM cf_X12) rfl rfl (le_ rfl) ⟨le_ rfl, le_ rfl⟩ dX12_layTank_30 ?_
  cases hf
  exact j_vret E (le_ rfl) (le_ rfl) dX12_layTank_33
def f_X12_ofPlot (M : MT) (v1 : Int32) (v2 : Int32) : Option Int32 :=
  bnd ((52 + (3 * v1)) + v2) (fun x1 => gd (¬ (x1 < 0 ∨ 264 ≤ x1.toNatClampNeg)) (some (M.1 M.2.2 x1.toNatClampNeg)))
set_option maxRecDepth 20000 in
theorem c_X12_ofPlot {l : Launch} {D : DD} {z : Nat} {X : XT} {o : Int64} {f1 : Nat} {M : MT} {v1 : Int32} {v2 : Int32} {r : Int32} (hf : f_X12_ofPlot M v1 v2 = some r) : CC l yX12_ofPlot cX12_ofPlot 3 (some .int) (rmk 1 0 0) D z [.ref (z + aM 0), .int v1, .int v2] (GG D z (X, (f1 + 1, M, o))) (some (.int r)) (GG D z (X, (f1 + 1, M, o))) := by
  unfold f_X12_ofPlot at hf
  refine cc_of pn_X12 (le_ rfl) (ls := [(0, .ref (z + aM 0)), (1, .int v1), (2, .int v2)]) rfl ?_
  intro p e s m args below meth c E
  refine j_aload_n E 0 rfl dX12_ofPlot_0 ?_
  refine j_getM (f := 3) E cf_X12 fl_X12_24 (lt_ rfl) rfl rfl dX12_ofPlot_1 ?_
  refine j_bipush E 52 bp_52 dX12_ofPlot_4 ?_
  refine j_iconst E 3 ic_3 dX12_ofPlot_6 ?_
  refine j_iload_n E 1 rfl dX12_ofPlot_7 ?_
  refine j_imul E dX12_ofPlot_8 ?_
  refine j_iadd E dX12_ofPlot_9 ?_
  refine j_iload_n E 2 rfl dX12_ofPlot_10 ?_
  refine j_iadd E dX12_ofPlot_11 ?_
  obtain ⟨x1, hx1, hf⟩ := bnd_e hf
  refine j_name hx1 ?_
  obtain ⟨g1, hf⟩ := gd_e hf
  refine j_ialdR E rfl g1 (x1.toNatClampNeg) rfl dX12_ofPlot_12 ?_
  cases hf
  exact j_iret E rfl (le_ rfl) (le_ rfl) dX12_ofPlot_13
def f_X12_ofTank (M : MT) (v1 : Int32) (v2 : Int32) : Option Int32 :=
  bnd ((196 + (4 * v1)) + v2) (fun x1 => gd (¬ (x1 < 0 ∨ 264 ≤ x1.toNatClampNeg)) (some (M.1 M.2.2 x1.toNatClampNeg)))
set_option maxRecDepth 20000 in
theorem c_X12_ofTank {l : Launch} {D : DD} {z : Nat} {X : XT} {o : Int64} {f1 : Nat} {M : MT} {v1 : Int32} {v2 : Int32} {r : Int32} (hf : f_X12_ofTank M v1 v2 = some r) : CC l yX12_ofTank cX12_ofTank 3 (some .int) (rmk 1 0 0) D z [.ref (z + aM 0), .int v1, .int v2] (GG D z (X, (f1 + 1, M, o))) (some (.int r)) (GG D z (X, (f1 + 1, M, o))) := by
  unfold f_X12_ofTank at hf
  refine cc_of pn_X12 (le_ rfl) (ls := [(0, .ref (z + aM 0)), (1, .int v1), (2, .int v2)]) rfl ?_
  intro p e s m args below meth c E
  refine j_aload_n E 0 rfl dX12_ofTank_0 ?_
  refine j_getM (f := 3) E cf_X12 fl_X12_24 (lt_ rfl) rfl rfl dX12_ofTank_1 ?_
  refine j_sipush E 196 sp_196 dX12_ofTank_4 ?_
  refine j_iconst E 4 ic_4 dX12_ofTank_7 ?_
  refine j_iload_n E 1 rfl dX12_ofTank_8 ?_
  refine j_imul E dX12_ofTank_9 ?_
  refine j_iadd E dX12_ofTank_10 ?_
  refine j_iload_n E 2 rfl dX12_ofTank_11 ?_
  refine j_iadd E dX12_ofTank_12 ?_
  obtain ⟨x1, hx1, hf⟩ := bnd_e hf
  refine j_name hx1 ?_
  obtain ⟨g1, hf⟩ := gd_e hf
  refine j_ialdR E rfl g1 (x1.toNatClampNeg) rfl dX12_ofTank_13 ?_
  cases hf
  exact j_iret E rfl (le_ rfl) (le_ rfl) dX12_ofTank_14
def f_X12_roomIn (M : MT) (v1 : Int32) : Option Int32 :=
  bn1 (f_X12_ofTank M v1 0) (fun r1 => bn1 (f_X12_ofTank M v1 1) (fun r2 => some (r1 - r2)))
set_option maxRecDepth 20000 in
theorem c_X12_roomIn {l : Launch} {D : DD} {z : Nat} {X : XT} {o : Int64} {f1 : Nat} {M : MT} {v1 : Int32} {r : Int32} (hf : f_X12_roomIn M v1 = some r) : CC l yX12_roomIn cX12_roomIn 2 (some .int) (rmk 2 0 0) D z [.ref (z + aM 0), .int v1] (GG D z (X, (f1 + 1, M, o))) (some (.int r)) (GG D z (X, (f1 + 1, M, o))) := by
  unfold f_X12_roomIn at hf
  refine cc_of pn_X12 (le_ rfl) (ls := [(0, .ref (z + aM 0)), (1, .int v1)]) rfl ?_
  intro p e s m args below meth c E
  refine j_aload_n E 0 rfl dX12_roomIn_0 ?_
  refine j_iload_n E 1 rfl dX12_roomIn_1 ?_
  refine j_iconst E 0 ic_0 dX12_roomIn_2 ?_
  obtain ⟨r1, h1, hf⟩ := bn1_e hf
  refine j_invV [] [.int r1] E (c_X12_ofTank h1) ml_X12_151 mv_X12_ofTank rfl ⟨le_ rfl, le_ rfl⟩ (rcM cf_X12) rfl rfl (le_ rfl) ⟨le_ rfl, le_ rfl⟩ dX12_roomIn_3 ?_
  refine j_aload_n E 0 rfl dX12_roomIn_6 ?_
  refine j_iload_n E 1 rfl dX12_roomIn_7 ?_
  refine j_iconst E 1 ic_1 dX12_roomIn_8 ?_
  obtain ⟨r2, h2, hf⟩ := bn1_e hf
  refine j_invV [.int r1] [.int r2, .int r1] E (c_X12_ofTank h2) ml_X12_151 mv_X12_ofTank rfl ⟨le_ rfl, le_ rfl⟩ (rcM cf_X12) rfl rfl (le_ rfl) ⟨le_ rfl, le_ rfl⟩ dX12_roomIn_9 ?_
  refine j_isub E dX12_roomIn_12 ?_
  cases hf
  exact j_iret E rfl (le_ rfl) (le_ rfl) dX12_roomIn_13
def f_X12_firstTank_2 (M : MT) (v1 : Int32) (v2 : Int32) : Nat → Int32 → Option Int32
  | 0, _ => none
  | n + 1, v3 => if (M.1 M.2.2 8) ≤ v3 then (some (-1)) else (bn1 (f_X12_ofTank M v3 2) (fun r1 => if r1 = v1 then (bn1 (f_X12_roomIn M v3) (fun r2 => if r2 < v2 then (f_X12_firstTank_2 M v1 v2 n (v3 + 1)) else (some v3))) else (f_X12_firstTank_2 M v1 v2 n (v3 + 1))))
def f_X12_firstTank (M : MT) (v1 : Int32) (v2 : Int32) : Option Int32 :=
  f_X12_firstTank_2 M v1 v2 2000 0
set_option maxRecDepth 20000 in
theorem b_X12_firstTank_2 {p : Program} {l : Launch} {e : Env} {s : State} {m : MethodId} {args : Array Value} {below : List Frame} {meth : Method} {c : Code} {D : DD} {z : Nat} {X : XT} {o : Int64} {f1 : Nat} {M : MT} {v1 : Int32} {v2 : Int32} (E : Cx p s m args meth c D z RX12 cX12_firstTank 4 (some .int)) {r : Int32} : ∀ (n : Nat) (v3 : Int32) (hf : f_X12_firstTank_2 M v1 v2 n v3 = some r), J p l e (rmk 3 0 0) s m args below meth c D z (GG D z (X, (f1 + 1, M, o))) 0 0 (MQ below (QC z (some (.int r)) (GG D z (X, (f1 + 1, M, o)))) args s (rmk 3 0 0).cells (rmk 3 0 0).slots (Az z)) 4 2 [(0, .ref (z + aM 0)), (1, .int v1), (2, .int v2), (3, .int v3)] [] := by
  intro n
  induction n with
  | zero =>
    intro v3 hf
    exact none_e hf
  | succ n ih =>
    intro v3 hf
    rw [f_X12_firstTank_2] at hf
    refine j_iload_n E 3 rfl dX12_firstTank_2 ?_
    refine j_aload_n E 0 rfl dX12_firstTank_3 ?_
    refine j_getM (f := 3) E cf_X12 fl_X12_24 (lt_ rfl) rfl rfl dX12_firstTank_4 ?_
    refine j_bipush E 8 bp_8 dX12_firstTank_7 ?_
    refine j_ialdR E rfl (vi_8 (lt_ rfl)) (8) tn_8 dX12_firstTank_9 ?_
    refine j_icmp_ge E 40 (by decide) dX12_firstTank_10 (fun c1 => ?_) (fun c1 => ?_)
    · rw [if_pos c1] at hf
      refine j_iconst E (-1) ic_m1 dX12_firstTank_40 ?_
      cases hf
      exact j_iret E rfl (le_ rfl) (le_ rfl) dX12_firstTank_41
    · rw [if_neg c1] at hf
      refine j_aload_n E 0 rfl dX12_firstTank_13 ?_
      refine j_iload_n E 3 rfl dX12_firstTank_14 ?_
      refine j_iconst E 2 ic_2 dX12_firstTank_15 ?_
      obtain ⟨r1, h1, hf⟩ := bn1_e hf
      refine j_invV [] [.int r1] E (c_X12_ofTank h1) ml_X12_151 mv_X12_ofTank rfl ⟨le_ rfl, le_ rfl⟩ (rcM cf_X12) rfl rfl (le_ rfl) ⟨le_ rfl, le_ rfl⟩ dX12_firstTank_16 ?_
      refine j_iload_n E 1 rfl dX12_firstTank_19 ?_
      refine j_icmp_ne E 34 (by decide) dX12_firstTank_20 (fun c2 => ?_) (fun c2 => ?_)
      · rw [if_neg c2] at hf
        refine j_iinc (ls' := [(3, .int (v3 + 1)), (0, .ref (z + aM 0)), (1, .int v1), (2, .int v2)]) E 3 rfl (lt_ rfl) (v3 + 1) (congrArg (fun q => v3 + q) ic_1) rfl dX12_firstTank_34 ?_
        refine j_goto E 2 (by decide) dX12_firstTank_37 ?_
        refine j_sub [1, 2, 3, 0] rfl ?_
        exact ih _ hf
      · rw [if_pos c2] at hf
        refine j_aload_n E 0 rfl dX12_firstTank_23 ?_
        refine j_iload_n E 3 rfl dX12_firstTank_24 ?_
        obtain ⟨r2, h2, hf⟩ := bn1_e hf
        refine j_invV [] [.int r2] E (c_X12_roomIn h2) ml_X12_154 mv_X12_roomIn rfl ⟨le_ rfl, le_ rfl⟩ (rcM cf_X12) rfl rfl (le_ rfl) ⟨le_ rfl, le_ rfl⟩ dX12_firstTank_25 ?_
        refine j_iload_n E 2 rfl dX12_firstTank_28 ?_
        refine j_icmp_lt E 34 (by decide) dX12_firstTank_29 (fun c3 => ?_) (fun c3 => ?_)
        · rw [if_pos c3] at hf
          refine j_iinc (ls' := [(3, .int (v3 + 1)), (0, .ref (z + aM 0)), (1, .int v1), (2, .int v2)]) E 3 rfl (lt_ rfl) (v3 + 1) (congrArg (fun q => v3 + q) ic_1) rfl dX12_firstTank_34 ?_
          refine j_goto E 2 (by decide) dX12_firstTank_37 ?_
          refine j_sub [1, 2, 3, 0] rfl ?_
          exact ih _ hf
        · rw [if_neg c3] at hf
          refine j_iload_n E 3 rfl dX12_firstTank_32 ?_
          cases hf
          exact j_iret E rfl (le_ rfl) (le_ rfl) dX12_firstTank_33
set_option maxRecDepth 20000 in
theorem c_X12_firstTank {l : Launch} {D : DD} {z : Nat} {X : XT} {o : Int64} {f1 : Nat} {M : MT} {v1 : Int32} {v2 : Int32} {r : Int32} (hf : f_X12_firstTank M v1 v2 = some r) : CC l yX12_firstTank cX12_firstTank 4 (some .int) (rmk 3 0 0) D z [.ref (z + aM 0), .int v1, .int v2] (GG D z (X, (f1 + 1, M, o))) (some (.int r)) (GG D z (X, (f1 + 1, M, o))) := by
  unfold f_X12_firstTank at hf
  refine cc_of pn_X12 (le_ rfl) (ls := [(0, .ref (z + aM 0)), (1, .int v1), (2, .int v2)]) rfl ?_
  intro p e s m args below meth c E
  refine j_iconst E 0 ic_0 dX12_firstTank_0 ?_
  refine j_istore_n (ls' := [(3, .int 0), (0, .ref (z + aM 0)), (1, .int v1), (2, .int v2)]) E (lt_ rfl) rfl dX12_firstTank_1 ?_
  refine j_sub [1, 2, 3, 0] rfl ?_
  exact b_X12_firstTank_2 E 2000 _ hf
def f_X12_tankOf (M : MT) (v1 : Int32) (v2 : Int32) : Option Int32 :=
  bn1 (f_X12_firstTank M v1 v2) (fun r1 => if r1 = (-1) then (bn1 (f_X12_firstTank M (-1) v2) (fun r2 => some r2)) else (some r1))
set_option maxRecDepth 20000 in
theorem c_X12_tankOf {l : Launch} {D : DD} {z : Nat} {X : XT} {o : Int64} {f1 : Nat} {M : MT} {v1 : Int32} {v2 : Int32} {r : Int32} (hf : f_X12_tankOf M v1 v2 = some r) : CC l yX12_tankOf cX12_tankOf 4 (some .int) (rmk 4 0 0) D z [.ref (z + aM 0), .int v1, .int v2] (GG D z (X, (f1 + 1, M, o))) (some (.int r)) (GG D z (X, (f1 + 1, M, o))) := by
  unfold f_X12_tankOf at hf
  refine cc_of pn_X12 (le_ rfl) (ls := [(0, .ref (z + aM 0)), (1, .int v1), (2, .int v2)]) rfl ?_
  intro p e s m args below meth c E
  refine j_aload_n E 0 rfl dX12_tankOf_0 ?_
  refine j_iload_n E 1 rfl dX12_tankOf_1 ?_
  refine j_iload_n E 2 rfl dX12_tankOf_2 ?_
  obtain ⟨r1, h1, hf⟩ := bn1_e hf
  refine j_invV [] [.int r1] E (c_X12_firstTank h1) ml_X12_158 mv_X12_firstTank rfl ⟨le_ rfl, le_ rfl⟩ (rcM cf_X12) rfl rfl (le_ rfl) ⟨le_ rfl, le_ rfl⟩ dX12_tankOf_3 ?_
  refine j_istore_n (ls' := [(3, .int r1), (0, .ref (z + aM 0)), (1, .int v1), (2, .int v2)]) E (lt_ rfl) rfl dX12_tankOf_6 ?_
  refine j_iload_n E 0 rfl dX12_tankOf_7 ?_
  refine j_iconst E (-1) ic_m1 dX12_tankOf_8 ?_
  refine j_icmp_eq E 16 (by decide) dX12_tankOf_9 (fun c1 => ?_) (fun c1 => ?_)
  · rw [if_pos c1] at hf
    refine j_aload_n E 1 rfl dX12_tankOf_16 ?_
    refine j_iconst E (-1) ic_m1 dX12_tankOf_17 ?_
    refine j_iload_n E 3 rfl dX12_tankOf_18 ?_
    obtain ⟨r2, h2, hf⟩ := bn1_e hf
    refine j_invV [] [.int r2] E (c_X12_firstTank h2) ml_X12_158 mv_X12_firstTank rfl ⟨le_ rfl, le_ rfl⟩ (rcM cf_X12) rfl rfl (le_ rfl) ⟨le_ rfl, le_ rfl⟩ dX12_tankOf_19 ?_
    cases hf
    exact j_iret E rfl (le_ rfl) (le_ rfl) dX12_tankOf_22
  · rw [if_neg c1] at hf
    refine j_iload_n E 0 rfl dX12_tankOf_12 ?_
    refine j_goto E 22 (by decide) dX12_tankOf_13 ?_
    cases hf
    exact j_iret E rfl (le_ rfl) (le_ rfl) dX12_tankOf_22
def f_X12_ofLoad (M : MT) (v1 : Int32) (v2 : Int32) : Option Int32 :=
  bnd ((76 + (6 * v1)) + v2) (fun x1 => gd (¬ (x1 < 0 ∨ 264 ≤ x1.toNatClampNeg)) (some (M.1 M.2.2 x1.toNatClampNeg)))
set_option maxRecDepth 20000 in
theorem c_X12_ofLoad {l : Launch} {D : DD} {z : Nat} {X : XT} {o : Int64} {f1 : Nat} {M : MT} {v1 : Int32} {v2 : Int32} {r : Int32} (hf : f_X12_ofLoad M v1 v2 = some r) : CC l yX12_ofLoad cX12_ofLoad 3 (some .int) (rmk 1 0 0) D z [.ref (z + aM 0), .int v1, .int v2] (GG D z (X, (f1 + 1, M, o))) (some (.int r)) (GG D z (X, (f1 + 1, M, o))) := by
  unfold f_X12_ofLoad at hf
  refine cc_of pn_X12 (le_ rfl) (ls := [(0, .ref (z + aM 0)), (1, .int v1), (2, .int v2)]) rfl ?_
  intro p e s m args below meth c E
  refine j_aload_n E 0 rfl dX12_ofLoad_0 ?_
  refine j_getM (f := 3) E cf_X12 fl_X12_24 (lt_ rfl) rfl rfl dX12_ofLoad_1 ?_
  refine j_bipush E 76 bp_76 dX12_ofLoad_4 ?_
  refine j_bipush E 6 bp_6 dX12_ofLoad_6 ?_
  refine j_iload_n E 1 rfl dX12_ofLoad_8 ?_
  refine j_imul E dX12_ofLoad_9 ?_
  refine j_iadd E dX12_ofLoad_10 ?_
  refine j_iload_n E 2 rfl dX12_ofLoad_11 ?_
  refine j_iadd E dX12_ofLoad_12 ?_
  obtain ⟨x1, hx1, hf⟩ := bnd_e hf
  refine j_name hx1 ?_
  obtain ⟨g1, hf⟩ := gd_e hf
  refine j_ialdR E rfl g1 (x1.toNatClampNeg) rfl dX12_ofLoad_13 ?_
  cases hf
  exact j_iret E rfl (le_ rfl) (le_ rfl) dX12_ofLoad_14
def f_X12_harvestOf_4 (M : MT) (v1 : Int32) : Nat → Int32 → Int32 → Option Int32
  | 0, _, _ => none
  | n + 1, v2, v3 => if (M.1 M.2.2 7) ≤ v3 then (some v2) else (bn1 (f_X12_ofLoad M v3 0) (fun r1 => if r1 = v1 then (bn1 (f_X12_ofLoad M v3 1) (fun r2 => bnd (v2 + r2) (fun x2 => f_X12_harvestOf_4 M v1 n x2 (v3 + 1)))) else (bnd (v2 + 0) (fun x1 => f_X12_harvestOf_4 M v1 n x1 (v3 + 1)))))
def f_X12_harvestOf (M : MT) (v1 : Int32) : Option Int32 :=
  f_X12_harvestOf_4 M v1 2000 0 0
set_option maxRecDepth 20000 in
theorem b_X12_harvestOf_4 {p : Program} {l : Launch} {e : Env} {s : State} {m : MethodId} {args : Array Value} {below : List Frame} {meth : Method} {c : Code} {D : DD} {z : Nat} {X : XT} {o : Int64} {f1 : Nat} {M : MT} {v1 : Int32} (E : Cx p s m args meth c D z RX12 cX12_harvestOf 4 (some .int)) {r : Int32} : ∀ (n : Nat) (v2 : Int32) (v3 : Int32) (hf : f_X12_harvestOf_4 M v1 n v2 v3 = some r), J p l e (rmk 2 0 0) s m args below meth c D z (GG D z (X, (f1 + 1, M, o))) 0 0 (MQ below (QC z (some (.int r)) (GG D z (X, (f1 + 1, M, o)))) args s (rmk 2 0 0).cells (rmk 2 0 0).slots (Az z)) 4 4 [(0, .ref (z + aM 0)), (1, .int v1), (2, .int v2), (3, .int v3)] [] := by
  intro n
  induction n with
  | zero =>
    intro v2 v3 hf
    exact none_e hf
  | succ n ih =>
    intro v2 v3 hf
    rw [f_X12_harvestOf_4] at hf
    refine j_iload_n E 3 rfl dX12_harvestOf_4 ?_
    refine j_aload_n E 0 rfl dX12_harvestOf_5 ?_
    refine j_getM (f := 3) E cf_X12 fl_X12_24 (lt_ rfl) rfl rfl dX12_harvestOf_6 ?_
    refine j_bipush E 7 bp_7 dX12_harvestOf_9 ?_
    refine j_ialdR E rfl (vi_7 (lt_ rfl)) (7) tn_7 dX12_harvestOf_11 ?_
    refine j_icmp_ge E 44 (by decide) dX12_harvestOf_12 (fun c1 => ?_) (fun c1 => ?_)
    · rw [if_pos c1] at hf
      refine j_iload_n E 2 rfl dX12_harvestOf_44 ?_
      cases hf
      exact j_iret E rfl (le_ rfl) (le_ rfl) dX12_harvestOf_45
    · rw [if_neg c1] at hf
      refine j_iload_n E 2 rfl dX12_harvestOf_15 ?_
      refine j_aload_n E 0 rfl dX12_harvestOf_16 ?_
      refine j_iload_n E 3 rfl dX12_harvestOf_17 ?_
      refine j_iconst E 0 ic_0 dX12_harvestOf_18 ?_
      obtain ⟨r1, h1, hf⟩ := bn1_e hf
      refine j_invV [.int v2] [.int r1, .int v2] E (c_X12_ofLoad h1) ml_X12_148 mv_X12_ofLoad rfl ⟨le_ rfl, le_ rfl⟩ (rcM cf_X12) rfl rfl (le_ rfl) ⟨le_ rfl, le_ rfl⟩ dX12_harvestOf_19 ?_
      refine j_iload_n E 1 rfl dX12_harvestOf_22 ?_
      refine j_icmp_ne E 35 (by decide) dX12_harvestOf_23 (fun c2 => ?_) (fun c2 => ?_)
      · rw [if_neg c2] at hf
        refine j_iconst E 0 ic_0 dX12_harvestOf_35 ?_
        refine j_iadd E dX12_harvestOf_36 ?_
        obtain ⟨x1, hx1, hf⟩ := bnd_e hf
        refine j_name hx1 ?_
        refine j_istore_n (ls' := [(2, .int x1), (0, .ref (z + aM 0)), (1, .int v1), (3, .int v3)]) E (lt_ rfl) rfl dX12_harvestOf_37 ?_
        refine j_iinc (ls' := [(3, .int (v3 + 1)), (2, .int x1), (0, .ref (z + aM 0)), (1, .int v1)]) E 3 rfl (lt_ rfl) (v3 + 1) (congrArg (fun q => v3 + q) ic_1) rfl dX12_harvestOf_38 ?_
        refine j_goto E 4 (by decide) dX12_harvestOf_41 ?_
        refine j_sub [2, 3, 1, 0] rfl ?_
        exact ih _ _ hf
      · rw [if_pos c2] at hf
        refine j_aload_n E 0 rfl dX12_harvestOf_26 ?_
        refine j_iload_n E 3 rfl dX12_harvestOf_27 ?_
        refine j_iconst E 1 ic_1 dX12_harvestOf_28 ?_
        obtain ⟨r2, h2, hf⟩ := bn1_e hf
        refine j_invV [.int v2] [.int r2, .int v2] E (c_X12_ofLoad h2) ml_X12_148 mv_X12_ofLoad rfl ⟨le_ rfl, le_ rfl⟩ (rcM cf_X12) rfl rfl (le_ rfl) ⟨le_ rfl, le_ rfl⟩ dX12_harvestOf_29 ?_
        refine j_goto E 36 (by decide) dX12_harvestOf_32 ?_
        refine j_iadd E dX12_harvestOf_36 ?_
        obtain ⟨x2, hx2, hf⟩ := bnd_e hf
        refine j_name hx2 ?_
        refine j_istore_n (ls' := [(2, .int x2), (0, .ref (z + aM 0)), (1, .int v1), (3, .int v3)]) E (lt_ rfl) rfl dX12_harvestOf_37 ?_
        refine j_iinc (ls' := [(3, .int (v3 + 1)), (2, .int x2), (0, .ref (z + aM 0)), (1, .int v1)]) E 3 rfl (lt_ rfl) (v3 + 1) (congrArg (fun q => v3 + q) ic_1) rfl dX12_harvestOf_38 ?_
        refine j_goto E 4 (by decide) dX12_harvestOf_41 ?_
        refine j_sub [2, 3, 1, 0] rfl ?_
        exact ih _ _ hf
set_option maxRecDepth 20000 in
theorem c_X12_harvestOf {l : Launch} {D : DD} {z : Nat} {X : XT} {o : Int64} {f1 : Nat} {M : MT} {v1 : Int32} {r : Int32} (hf : f_X12_harvestOf M v1 = some r) : CC l yX12_harvestOf cX12_harvestOf 4 (some .int) (rmk 2 0 0) D z [.ref (z + aM 0), .int v1] (GG D z (X, (f1 + 1, M, o))) (some (.int r)) (GG D z (X, (f1 + 1, M, o))) := by
  unfold f_X12_harvestOf at hf
  refine cc_of pn_X12 (le_ rfl) (ls := [(0, .ref (z + aM 0)), (1, .int v1)]) rfl ?_
  intro p e s m args below meth c E
  refine j_iconst E 0 ic_0 dX12_harvestOf_0 ?_
  refine j_istore_n (ls' := [(2, .int 0), (0, .ref (z + aM 0)), (1, .int v1)]) E (lt_ rfl) rfl dX12_harvestOf_1 ?_
  refine j_iconst E 0 ic_0 dX12_harvestOf_2 ?_
  refine j_istore_n (ls' := [(3, .int 0), (2, .int 0), (0, .ref (z + aM 0)), (1, .int v1)]) E (lt_ rfl) rfl dX12_harvestOf_3 ?_
  refine j_sub [2, 3, 1, 0] rfl ?_
  exact b_X12_harvestOf_4 E 2000 _ _ hf
def f_X12_limitOf (M : MT) (v1 : Int32) : Option Int32 :=
  bn1 (f_X12_ofPlot M v1 2) (fun r1 => some (r1 * (M.1 M.2.2 0)))
set_option maxRecDepth 20000 in
theorem c_X12_limitOf {l : Launch} {D : DD} {z : Nat} {X : XT} {o : Int64} {f1 : Nat} {M : MT} {v1 : Int32} {r : Int32} (hf : f_X12_limitOf M v1 = some r) : CC l yX12_limitOf cX12_limitOf 2 (some .int) (rmk 2 0 0) D z [.ref (z + aM 0), .int v1] (GG D z (X, (f1 + 1, M, o))) (some (.int r)) (GG D z (X, (f1 + 1, M, o))) := by
  unfold f_X12_limitOf at hf
  refine cc_of pn_X12 (le_ rfl) (ls := [(0, .ref (z + aM 0)), (1, .int v1)]) rfl ?_
  intro p e s m args below meth c E
  refine j_aload_n E 0 rfl dX12_limitOf_0 ?_
  refine j_iload_n E 1 rfl dX12_limitOf_1 ?_
  refine j_iconst E 2 ic_2 dX12_limitOf_2 ?_
  obtain ⟨r1, h1, hf⟩ := bn1_e hf
  refine j_invV [] [.int r1] E (c_X12_ofPlot h1) ml_X12_144 mv_X12_ofPlot rfl ⟨le_ rfl, le_ rfl⟩ (rcM cf_X12) rfl rfl (le_ rfl) ⟨le_ rfl, le_ rfl⟩ dX12_limitOf_3 ?_
  refine j_aload_n E 0 rfl dX12_limitOf_6 ?_
  refine j_getM (f := 3) E cf_X12 fl_X12_24 (lt_ rfl) rfl rfl dX12_limitOf_7 ?_
  refine j_iconst E 0 ic_0 dX12_limitOf_10 ?_
  refine j_ialdR E rfl (vi_0 (lt_ rfl)) (0) tn_0 dX12_limitOf_11 ?_
  refine j_imul E dX12_limitOf_12 ?_
  cases hf
  exact j_iret E rfl (le_ rfl) (le_ rfl) dX12_limitOf_13
def f_X12_gradeOf_2 (M : MT) (v1 : Int32) : Nat → Int32 → Option Int32
  | 0, _ => none
  | n + 1, v2 => if (M.1 M.2.2 3) ≤ v2 then (some (-1)) else (bnd (12 + v2) (fun x1 => gd (¬ (x1 < 0 ∨ 264 ≤ x1.toNatClampNeg)) (if v1 < (M.1 M.2.2 x1.toNatClampNeg) then (f_X12_gradeOf_2 M v1 n (v2 + 1)) else (some v2))))
def f_X12_gradeOf (M : MT) (v1 : Int32) : Option Int32 :=
  f_X12_gradeOf_2 M v1 2000 0
set_option maxRecDepth 20000 in
theorem b_X12_gradeOf_2 {p : Program} {l : Launch} {e : Env} {s : State} {m : MethodId} {args : Array Value} {below : List Frame} {meth : Method} {c : Code} {D : DD} {z : Nat} {X : XT} {o : Int64} {f1 : Nat} {M : MT} {v1 : Int32} (E : Cx p s m args meth c D z RX12 cX12_gradeOf 3 (some .int)) {r : Int32} : ∀ (n : Nat) (v2 : Int32) (hf : f_X12_gradeOf_2 M v1 n v2 = some r), J p l e (rmk 1 0 0) s m args below meth c D z (GG D z (X, (f1 + 1, M, o))) 0 0 (MQ below (QC z (some (.int r)) (GG D z (X, (f1 + 1, M, o)))) args s (rmk 1 0 0).cells (rmk 1 0 0).slots (Az z)) 3 2 [(0, .ref (z + aM 0)), (1, .int v1), (2, .int v2)] [] := by
  intro n
  induction n with
  | zero =>
    intro v2 hf
    exact none_e hf
  | succ n ih =>
    intro v2 hf
    rw [f_X12_gradeOf_2] at hf
    refine j_iload_n E 2 rfl dX12_gradeOf_2 ?_
    refine j_aload_n E 0 rfl dX12_gradeOf_3 ?_
    refine j_getM (f := 3) E cf_X12 fl_X12_24 (lt_ rfl) rfl rfl dX12_gradeOf_4 ?_
    refine j_iconst E 3 ic_3 dX12_gradeOf_7 ?_
    refine j_ialdR E rfl (vi_3 (lt_ rfl)) (3) tn_3 dX12_gradeOf_8 ?_
    refine j_icmp_ge E 33 (by decide) dX12_gradeOf_9 (fun c1 => ?_) (fun c1 => ?_)
    · rw [if_pos c1] at hf
      refine j_iconst E (-1) ic_m1 dX12_gradeOf_33 ?_
      cases hf
      exact j_iret E rfl (le_ rfl) (le_ rfl) dX12_gradeOf_34
    · rw [if_neg c1] at hf
      refine j_iload_n E 1 rfl dX12_gradeOf_12 ?_
      refine j_aload_n E 0 rfl dX12_gradeOf_13 ?_
      refine j_getM (f := 3) E cf_X12 fl_X12_24 (lt_ rfl) rfl rfl dX12_gradeOf_14 ?_
      refine j_bipush E 12 bp_12 dX12_gradeOf_17 ?_
      refine j_iload_n E 2 rfl dX12_gradeOf_19 ?_
      refine j_iadd E dX12_gradeOf_20 ?_
      obtain ⟨x1, hx1, hf⟩ := bnd_e hf
      refine j_name hx1 ?_
      obtain ⟨g1, hf⟩ := gd_e hf
      refine j_ialdR E rfl g1 (x1.toNatClampNeg) rfl dX12_gradeOf_21 ?_
      refine j_icmp_lt E 27 (by decide) dX12_gradeOf_22 (fun c2 => ?_) (fun c2 => ?_)
      · rw [if_pos c2] at hf
        refine j_iinc (ls' := [(2, .int (v2 + 1)), (0, .ref (z + aM 0)), (1, .int v1)]) E 2 rfl (lt_ rfl) (v2 + 1) (congrArg (fun q => v2 + q) ic_1) rfl dX12_gradeOf_27 ?_
        refine j_goto E 2 (by decide) dX12_gradeOf_30 ?_
        refine j_sub [1, 2, 0] rfl ?_
        exact ih _ hf
      · rw [if_neg c2] at hf
        refine j_iload_n E 2 rfl dX12_gradeOf_25 ?_
        cases hf
        exact j_iret E rfl (le_ rfl) (le_ rfl) dX12_gradeOf_26
set_option maxRecDepth 20000 in
theorem c_X12_gradeOf {l : Launch} {D : DD} {z : Nat} {X : XT} {o : Int64} {f1 : Nat} {M : MT} {v1 : Int32} {r : Int32} (hf : f_X12_gradeOf M v1 = some r) : CC l yX12_gradeOf cX12_gradeOf 3 (some .int) (rmk 1 0 0) D z [.ref (z + aM 0), .int v1] (GG D z (X, (f1 + 1, M, o))) (some (.int r)) (GG D z (X, (f1 + 1, M, o))) := by
  unfold f_X12_gradeOf at hf
  refine cc_of pn_X12 (le_ rfl) (ls := [(0, .ref (z + aM 0)), (1, .int v1)]) rfl ?_
  intro p e s m args below meth c E
  refine j_iconst E 0 ic_0 dX12_gradeOf_0 ?_
  refine j_istore_n (ls' := [(2, .int 0), (0, .ref (z + aM 0)), (1, .int v1)]) E (lt_ rfl) rfl dX12_gradeOf_1 ?_
  refine j_sub [1, 2, 0] rfl ?_
  exact b_X12_gradeOf_2 E 2000 _ hf
def f_X12_gradeAs (M : MT) (v1 : Int32) (v2 : Int32) (v3 : Int32) : Option Int32 :=
  bn1 (f_X12_harvestOf M v1) (fun r1 => bn1 (f_X12_limitOf M v1) (fun r2 => if (r1 + v2) ≤ r2 then (bn1 (f_X12_gradeOf M v3) (fun r3 => some r3)) else (some ((M.1 M.2.2 3) - 1))))
set_option maxRecDepth 20000 in
theorem c_X12_gradeAs {l : Launch} {D : DD} {z : Nat} {X : XT} {o : Int64} {f1 : Nat} {M : MT} {v1 : Int32} {v2 : Int32} {v3 : Int32} {r : Int32} (hf : f_X12_gradeAs M v1 v2 v3 = some r) : CC l yX12_gradeAs cX12_gradeAs 4 (some .int) (rmk 3 0 0) D z [.ref (z + aM 0), .int v1, .int v2, .int v3] (GG D z (X, (f1 + 1, M, o))) (some (.int r)) (GG D z (X, (f1 + 1, M, o))) := by
  unfold f_X12_gradeAs at hf
  refine cc_of pn_X12 (le_ rfl) (ls := [(0, .ref (z + aM 0)), (1, .int v1), (2, .int v2), (3, .int v3)]) rfl ?_
  intro p e s m args below meth c E
  refine j_aload_n E 0 rfl dX12_gradeAs_0 ?_
  refine j_iload_n E 1 rfl dX12_gradeAs_1 ?_
  obtain ⟨r1, h1, hf⟩ := bn1_e hf
  refine j_invV [] [.int r1] E (c_X12_harvestOf h1) ml_X12_167 mv_X12_harvestOf rfl ⟨le_ rfl, le_ rfl⟩ (rcM cf_X12) rfl rfl (le_ rfl) ⟨le_ rfl, le_ rfl⟩ dX12_gradeAs_2 ?_
  refine j_iload_n E 2 rfl dX12_gradeAs_5 ?_
  refine j_iadd E dX12_gradeAs_6 ?_
  refine j_aload_n E 0 rfl dX12_gradeAs_7 ?_
  refine j_iload_n E 1 rfl dX12_gradeAs_8 ?_
  obtain ⟨r2, h2, hf⟩ := bn1_e hf
  refine j_invV [.int (r1 + v2)] [.int r2, .int (r1 + v2)] E (c_X12_limitOf h2) ml_X12_170 mv_X12_limitOf rfl ⟨le_ rfl, le_ rfl⟩ (rcM cf_X12) rfl rfl (le_ rfl) ⟨le_ rfl, le_ rfl⟩ dX12_gradeAs_9 ?_
  refine j_icmp_le E 26 (by decide) dX12_gradeAs_12 (fun c1 => ?_) (fun c1 => ?_)
  · rw [if_pos c1] at hf
    refine j_aload_n E 0 rfl dX12_gradeAs_26 ?_
    refine j_iload_n E 3 rfl dX12_gradeAs_27 ?_
    obtain ⟨r3, h3, hf⟩ := bn1_e hf
    refine j_invV [] [.int r3] E (c_X12_gradeOf h3) ml_X12_161 mv_X12_gradeOf rfl ⟨le_ rfl, le_ rfl⟩ (rcM cf_X12) rfl rfl (le_ rfl) ⟨le_ rfl, le_ rfl⟩ dX12_gradeAs_28 ?_
    cases hf
    exact j_iret E rfl (le_ rfl) (le_ rfl) dX12_gradeAs_31
  · rw [if_neg c1] at hf
    refine j_aload_n E 0 rfl dX12_gradeAs_15 ?_
    refine j_getM (f := 3) E cf_X12 fl_X12_24 (lt_ rfl) rfl rfl dX12_gradeAs_16 ?_
    refine j_iconst E 3 ic_3 dX12_gradeAs_19 ?_
    refine j_ialdR E rfl (vi_3 (lt_ rfl)) (3) tn_3 dX12_gradeAs_20 ?_
    refine j_iconst E 1 ic_1 dX12_gradeAs_21 ?_
    refine j_isub E dX12_gradeAs_22 ?_
    refine j_goto E 31 (by decide) dX12_gradeAs_23 ?_
    cases hf
    exact j_iret E rfl (le_ rfl) (le_ rfl) dX12_gradeAs_31
def f_X12_setLoad (M : MT) (v1 : Int32) (v2 : Int32) (v3 : Int32) : Option MT :=
  gd (¬ (((76 + (6 * v1)) + v2) < 0 ∨ 264 ≤ ((76 + (6 * v1)) + v2).toNatClampNeg)) (bnd (mi M M.2.2 (((76 + (6 * v1)) + v2).toNatClampNeg) v3) (fun M1 => some M1))
set_option maxRecDepth 20000 in
theorem c_X12_setLoad {l : Launch} {D : DD} {z : Nat} {X : XT} {o : Int64} {f1 : Nat} {M : MT} {v1 : Int32} {v2 : Int32} {v3 : Int32} {M' : MT} (hf : f_X12_setLoad M v1 v2 v3 = some M') : CC l yX12_setLoad cX12_setLoad 4 none (rmk 1 0 0) D z [.ref (z + aM 0), .int v1, .int v2, .int v3] (GG D z (X, (f1 + 1, M, o))) none (GG D z (X, (f1 + 1, M', o))) := by
  unfold f_X12_setLoad at hf
  refine cc_of pn_X12 (le_ rfl) (ls := [(0, .ref (z + aM 0)), (1, .int v1), (2, .int v2), (3, .int v3)]) rfl ?_
  intro p e s m args below meth c E
  refine j_aload_n E 0 rfl dX12_setLoad_0 ?_
  refine j_getM (f := 3) E cf_X12 fl_X12_24 (lt_ rfl) rfl rfl dX12_setLoad_1 ?_
  refine j_bipush E 76 bp_76 dX12_setLoad_4 ?_
  refine j_bipush E 6 bp_6 dX12_setLoad_6 ?_
  refine j_iload_n E 1 rfl dX12_setLoad_8 ?_
  refine j_imul E dX12_setLoad_9 ?_
  refine j_iadd E dX12_setLoad_10 ?_
  refine j_iload_n E 2 rfl dX12_setLoad_11 ?_
  refine j_iadd E dX12_setLoad_12 ?_
  refine j_iload_n E 3 rfl dX12_setLoad_13 ?_
  obtain ⟨g1, hf⟩ := gd_e hf
  obtain ⟨M1, hM1, hf⟩ := bnd_e hf
  refine j_iastR E rfl g1 (((76 + (6 * v1)) + v2).toNatClampNeg) rfl hM1 dX12_setLoad_14 ?_
  cases hf
  exact j_vret E (le_ rfl) (le_ rfl) dX12_setLoad_15
def f_X12_layLoad (M : MT) (v1 : Int32) (v2 : Int32) (v3 : Int32) : Option (Int32 × MT) :=
  bn1 (f_X12_ofPlot M v1 1) (fun r1 => bn1 (f_X12_tankOf M r1 v2) (fun r2 => bn1 (f_X12_gradeAs M v1 v2 v3) (fun r3 => bnd (mi M M.2.2 7 ((M.1 M.2.2 7) + 1)) (fun M1 => bn1 (f_X12_setLoad M1 (M.1 M.2.2 7) 0 v1) (fun M2 => bn1 (f_X12_setLoad M2 (M.1 M.2.2 7) 1 v2) (fun M3 => bn1 (f_X12_setLoad M3 (M.1 M.2.2 7) 2 v3) (fun M4 => bn1 (f_X12_setLoad M4 (M.1 M.2.2 7) 3 r3) (fun M5 => bn1 (f_X12_setLoad M5 (M.1 M.2.2 7) 4 r2) (fun M6 => bn1 (f_X12_setLoad M6 (M.1 M.2.2 7) 5 (-1)) (fun M7 => bn1 (f_X12_setTank M7 r2 2 r1) (fun M8 => bn1 (f_X12_ofTank M8 r2 1) (fun r4 => bn1 (f_X12_setTank M8 r2 1 (r4 + v2)) (fun M9 => bn1 (f_X12_ofTank M9 r2 3) (fun r5 => bn1 (f_X12_setTank M9 r2 3 (r5 + (v2 * v3))) (fun M10 => some (r3, M10))))))))))))))))
set_option maxRecDepth 20000 in
theorem c_X12_layLoad {l : Launch} {D : DD} {z : Nat} {X : XT} {o : Int64} {f1 : Nat} {M : MT} {v1 : Int32} {v2 : Int32} {v3 : Int32} {r : Int32} {M' : MT} (hf : f_X12_layLoad M v1 v2 v3 = some (r, M')) : CC l yX12_layLoad cX12_layLoad 8 (some .int) (rmk 5 0 0) D z [.ref (z + aM 0), .int v1, .int v2, .int v3] (GG D z (X, (f1 + 1, M, o))) (some (.int r)) (GG D z (X, (f1 + 1, M', o))) := by
  unfold f_X12_layLoad at hf
  refine cc_of pn_X12 (le_ rfl) (ls := [(0, .ref (z + aM 0)), (1, .int v1), (2, .int v2), (3, .int v3)]) rfl ?_
  intro p e s m args below meth c E
  refine j_aload_n E 0 rfl dX12_layLoad_0 ?_
  refine j_iload_n E 1 rfl dX12_layLoad_1 ?_
  refine j_iconst E 1 ic_1 dX12_layLoad_2 ?_
  obtain ⟨r1, h1, hf⟩ := bn1_e hf
  refine j_invV [] [.int r1] E (c_X12_ofPlot h1) ml_X12_144 mv_X12_ofPlot rfl ⟨le_ rfl, le_ rfl⟩ (rcM cf_X12) rfl rfl (le_ rfl) ⟨le_ rfl, le_ rfl⟩ dX12_layLoad_3 ?_
  refine j_istore (ls' := [(4, .int r1), (0, .ref (z + aM 0)), (1, .int v1), (2, .int v2), (3, .int v3)]) E (lt_ rfl) rfl dX12_layLoad_6 ?_
  refine j_aload_n E 1 rfl dX12_layLoad_8 ?_
  refine j_iload E 0 rfl dX12_layLoad_9 ?_
  refine j_iload_n E 3 rfl dX12_layLoad_11 ?_
  obtain ⟨r2, h2, hf⟩ := bn1_e hf
  refine j_invV [] [.int r2] E (c_X12_tankOf h2) ml_X12_164 mv_X12_tankOf rfl ⟨le_ rfl, le_ rfl⟩ (rcM cf_X12) rfl rfl (le_ rfl) ⟨le_ rfl, le_ rfl⟩ dX12_layLoad_12 ?_
  refine j_istore (ls' := [(5, .int r2), (4, .int r1), (0, .ref (z + aM 0)), (1, .int v1), (2, .int v2), (3, .int v3)]) E (lt_ rfl) rfl dX12_layLoad_15 ?_
  refine j_aload_n E 2 rfl dX12_layLoad_17 ?_
  refine j_iload_n E 3 rfl dX12_layLoad_18 ?_
  refine j_iload_n E 4 rfl dX12_layLoad_19 ?_
  refine j_iload_n E 5 rfl dX12_layLoad_20 ?_
  obtain ⟨r3, h3, hf⟩ := bn1_e hf
  refine j_invV [] [.int r3] E (c_X12_gradeAs h3) ml_X12_173 mv_X12_gradeAs rfl ⟨le_ rfl, le_ rfl⟩ (rcM cf_X12) rfl rfl (le_ rfl) ⟨le_ rfl, le_ rfl⟩ dX12_layLoad_21 ?_
  refine j_istore (ls' := [(6, .int r3), (5, .int r2), (4, .int r1), (0, .ref (z + aM 0)), (1, .int v1), (2, .int v2), (3, .int v3)]) E (lt_ rfl) rfl dX12_layLoad_24 ?_
  refine j_aload_n E 3 rfl dX12_layLoad_26 ?_
  refine j_getM (f := 3) E cf_X12 fl_X12_24 (lt_ rfl) rfl rfl dX12_layLoad_27 ?_
  refine j_bipush E 7 bp_7 dX12_layLoad_30 ?_
  refine j_ialdR E rfl (vi_7 (lt_ rfl)) (7) tn_7 dX12_layLoad_32 ?_
  refine j_istore (ls' := [(7, .int (M.1 M.2.2 7)), (6, .int r3), (5, .int r2), (4, .int r1), (0, .ref (z + aM 0)), (1, .int v1), (2, .int v2), (3, .int v3)]) E (lt_ rfl) rfl dX12_layLoad_33 ?_
  refine j_aload_n E 4 rfl dX12_layLoad_35 ?_
  refine j_getM (f := 3) E cf_X12 fl_X12_24 (lt_ rfl) rfl rfl dX12_layLoad_36 ?_
  refine j_bipush E 7 bp_7 dX12_layLoad_39 ?_
  refine j_dup2 E rfl rfl dX12_layLoad_41 ?_
  refine j_ialdR E rfl (vi_7 (lt_ rfl)) (7) tn_7 dX12_layLoad_42 ?_
  refine j_iconst E 1 ic_1 dX12_layLoad_43 ?_
  refine j_iadd E dX12_layLoad_44 ?_
  obtain ⟨M1, hM1, hf⟩ := bnd_e hf
  refine j_iastR E rfl (vi_7 (lt_ rfl)) (7) tn_7 hM1 dX12_layLoad_45 ?_
  refine j_aload_n E 4 rfl dX12_layLoad_46 ?_
  refine j_iload E 0 rfl dX12_layLoad_47 ?_
  refine j_iconst E 0 ic_0 dX12_layLoad_49 ?_
  refine j_iload_n E 5 rfl dX12_layLoad_50 ?_
  obtain ⟨M2, h4, hf⟩ := bn1_e hf
  refine j_invV [] [] E (c_X12_setLoad h4) ml_X12_176 mv_X12_setLoad rfl ⟨le_ rfl, le_ rfl⟩ (rcM cf_X12) rfl rfl (le_ rfl) ⟨le_ rfl, le_ rfl⟩ dX12_layLoad_51 ?_
  refine j_aload_n E 4 rfl dX12_layLoad_54 ?_
  refine j_iload E 0 rfl dX12_layLoad_55 ?_
  refine j_iconst E 1 ic_1 dX12_layLoad_57 ?_
  refine j_iload_n E 6 rfl dX12_layLoad_58 ?_
  obtain ⟨M3, h5, hf⟩ := bn1_e hf
  refine j_invV [] [] E (c_X12_setLoad h5) ml_X12_176 mv_X12_setLoad rfl ⟨le_ rfl, le_ rfl⟩ (rcM cf_X12) rfl rfl (le_ rfl) ⟨le_ rfl, le_ rfl⟩ dX12_layLoad_59 ?_
  refine j_aload_n E 4 rfl dX12_layLoad_62 ?_
  refine j_iload E 0 rfl dX12_layLoad_63 ?_
  refine j_iconst E 2 ic_2 dX12_layLoad_65 ?_
  refine j_iload_n E 7 rfl dX12_layLoad_66 ?_
  obtain ⟨M4, h6, hf⟩ := bn1_e hf
  refine j_invV [] [] E (c_X12_setLoad h6) ml_X12_176 mv_X12_setLoad rfl ⟨le_ rfl, le_ rfl⟩ (rcM cf_X12) rfl rfl (le_ rfl) ⟨le_ rfl, le_ rfl⟩ dX12_layLoad_67 ?_
  refine j_aload_n E 4 rfl dX12_layLoad_70 ?_
  refine j_iload E 0 rfl dX12_layLoad_71 ?_
  refine j_iconst E 3 ic_3 dX12_layLoad_73 ?_
  refine j_iload E 1 rfl dX12_layLoad_74 ?_
  obtain ⟨M5, h7, hf⟩ := bn1_e hf
  refine j_invV [] [] E (c_X12_setLoad h7) ml_X12_176 mv_X12_setLoad rfl ⟨le_ rfl, le_ rfl⟩ (rcM cf_X12) rfl rfl (le_ rfl) ⟨le_ rfl, le_ rfl⟩ dX12_layLoad_76 ?_
  refine j_aload_n E 4 rfl dX12_layLoad_79 ?_
  refine j_iload E 0 rfl dX12_layLoad_80 ?_
  refine j_iconst E 4 ic_4 dX12_layLoad_82 ?_
  refine j_iload E 2 rfl dX12_layLoad_83 ?_
  obtain ⟨M6, h8, hf⟩ := bn1_e hf
  refine j_invV [] [] E (c_X12_setLoad h8) ml_X12_176 mv_X12_setLoad rfl ⟨le_ rfl, le_ rfl⟩ (rcM cf_X12) rfl rfl (le_ rfl) ⟨le_ rfl, le_ rfl⟩ dX12_layLoad_85 ?_
  refine j_aload_n E 4 rfl dX12_layLoad_88 ?_
  refine j_iload E 0 rfl dX12_layLoad_89 ?_
  refine j_iconst E 5 ic_5 dX12_layLoad_91 ?_
  refine j_iconst E (-1) ic_m1 dX12_layLoad_92 ?_
  obtain ⟨M7, h9, hf⟩ := bn1_e hf
  refine j_invV [] [] E (c_X12_setLoad h9) ml_X12_176 mv_X12_setLoad rfl ⟨le_ rfl, le_ rfl⟩ (rcM cf_X12) rfl rfl (le_ rfl) ⟨le_ rfl, le_ rfl⟩ dX12_layLoad_93 ?_
  refine j_aload_n E 4 rfl dX12_layLoad_96 ?_
  refine j_iload E 2 rfl dX12_layLoad_97 ?_
  refine j_iconst E 2 ic_2 dX12_layLoad_99 ?_
  refine j_iload E 3 rfl dX12_layLoad_100 ?_
  obtain ⟨M8, h10, hf⟩ := bn1_e hf
  refine j_invV [] [] E (c_X12_setTank h10) ml_X12_141 mv_X12_setTank rfl ⟨le_ rfl, le_ rfl⟩ (rcM cf_X12) rfl rfl (le_ rfl) ⟨le_ rfl, le_ rfl⟩ dX12_layLoad_102 ?_
  refine j_aload_n E 4 rfl dX12_layLoad_105 ?_
  refine j_iload E 2 rfl dX12_layLoad_106 ?_
  refine j_iconst E 1 ic_1 dX12_layLoad_108 ?_
  refine j_aload_n E 4 rfl dX12_layLoad_109 ?_
  refine j_iload E 2 rfl dX12_layLoad_110 ?_
  refine j_iconst E 1 ic_1 dX12_layLoad_112 ?_
  obtain ⟨r4, h11, hf⟩ := bn1_e hf
  refine j_invV [.int 1, .int r2, .ref (z + aM 0)] [.int r4, .int 1, .int r2, .ref (z + aM 0)] E (c_X12_ofTank h11) ml_X12_151 mv_X12_ofTank rfl ⟨le_ rfl, le_ rfl⟩ (rcM cf_X12) rfl rfl (le_ rfl) ⟨le_ rfl, le_ rfl⟩ dX12_layLoad_113 ?_
  refine j_iload_n E 6 rfl dX12_layLoad_116 ?_
  refine j_iadd E dX12_layLoad_117 ?_
  obtain ⟨M9, h12, hf⟩ := bn1_e hf
  refine j_invV [] [] E (c_X12_setTank h12) ml_X12_141 mv_X12_setTank rfl ⟨le_ rfl, le_ rfl⟩ (rcM cf_X12) rfl rfl (le_ rfl) ⟨le_ rfl, le_ rfl⟩ dX12_layLoad_118 ?_
  refine j_aload_n E 4 rfl dX12_layLoad_121 ?_
  refine j_iload E 2 rfl dX12_layLoad_122 ?_
  refine j_iconst E 3 ic_3 dX12_layLoad_124 ?_
  refine j_aload_n E 4 rfl dX12_layLoad_125 ?_
  refine j_iload E 2 rfl dX12_layLoad_126 ?_
  refine j_iconst E 3 ic_3 dX12_layLoad_128 ?_
  obtain ⟨r5, h13, hf⟩ := bn1_e hf
  refine j_invV [.int 3, .int r2, .ref (z + aM 0)] [.int r5, .int 3, .int r2, .ref (z + aM 0)] E (c_X12_ofTank h13) ml_X12_151 mv_X12_ofTank rfl ⟨le_ rfl, le_ rfl⟩ (rcM cf_X12) rfl rfl (le_ rfl) ⟨le_ rfl, le_ rfl⟩ dX12_layLoad_129 ?_
  refine j_iload_n E 6 rfl dX12_layLoad_132 ?_
  refine j_iload_n E 7 rfl dX12_layLoad_133 ?_
  refine j_imul E dX12_layLoad_134 ?_
  refine j_iadd E dX12_layLoad_135 ?_
  obtain ⟨M10, h14, hf⟩ := bn1_e hf
  refine j_invV [] [] E (c_X12_setTank h14) ml_X12_141 mv_X12_setTank rfl ⟨le_ rfl, le_ rfl⟩ (rcM cf_X12) rfl rfl (le_ rfl) ⟨le_ rfl, le_ rfl⟩ dX12_layLoad_136 ?_
  refine j_iload E 1 rfl dX12_layLoad_139 ?_
  cases hf
  exact j_iret E rfl (le_ rfl) (le_ rfl) dX12_layLoad_141
def f_X12_layFirst (M : MT) : Option MT :=
  bnd (mi M M.2.2 0 30) (fun M1 => bnd (mi M1 M1.2.2 1 5000) (fun M2 => bnd (mi M2 M2.2.2 2 5000) (fun M3 => bnd (mi M3 M3.2.2 3 3) (fun M4 => bnd (mi M4 M4.2.2 12 90) (fun M5 => bnd (mi M5 M5.2.2 13 75) (fun M6 => bnd (mi M6 M6.2.2 14 60) (fun M7 => bn1 (f_X12_spell 18) (fun r1 => bn1 (f_X12_layVariety M7 (r1.toInt32) 3) (fun M8 => bn1 (f_X12_spell 19) (fun r2 => bn1 (f_X12_layVariety M8 (r2.toInt32) 4) (fun M9 => bn1 (f_X12_setPriceNow M9 0 0 12) (fun M10 => bn1 (f_X12_setPriceNow M10 0 1 9) (fun M11 => bn1 (f_X12_setPriceNow M11 0 2 5) (fun M12 => bn1 (f_X12_setPriceNow M12 1 0 10) (fun M13 => bn1 (f_X12_setPriceNow M13 1 1 8) (fun M14 => bn1 (f_X12_spell 20) (fun r3 => bn1 (f_X12_layGrower M14 (r3.toInt32) 3) (fun M15 => bn1 (f_X12_spell 21) (fun r4 => bn1 (f_X12_layGrower M15 (r4.toInt32) 4) (fun M16 => bn1 (f_X12_layPlot M16 0 0 20) (fun M17 => bn1 (f_X12_layPlot M17 1 0 10) (fun M18 => bn1 (f_X12_layPlot M18 1 1 8) (fun M19 => bn1 (f_X12_layTank M19 700) (fun M20 => bn1 (f_X12_layTank M20 500) (fun M21 => bn1 (f_X12_layTank M21 300) (fun M22 => bn2 (f_X12_layLoad M22 0 400 92) (fun r5 M23 => bn2 (f_X12_layLoad M23 1 280 78) (fun r6 M24 => bn2 (f_X12_layLoad M24 2 200 76) (fun r7 M25 => bn2 (f_X12_layLoad M25 1 90 95) (fun r8 M26 => some M26))))))))))))))))))))))))))))))
set_option maxRecDepth 20000 in
theorem c_X12_layFirst {l : Launch} {D : DD} {z : Nat} {X : XT} {o : Int64} {f1 : Nat} {M : MT} {M' : MT} (hf : f_X12_layFirst M = some M') : CC l yX12_layFirst cX12_layFirst 1 none (rmk 6 0 0) D z [.ref (z + aM 0)] (GG D z (X, (f1 + 1, M, o))) none (GG D z (X, (f1 + 1, M', o))) := by
  unfold f_X12_layFirst at hf
  refine cc_of pn_X12 (le_ rfl) (ls := [(0, .ref (z + aM 0))]) rfl ?_
  intro p e s m args below meth c E
  refine j_aload_n E 0 rfl dX12_layFirst_0 ?_
  refine j_getM (f := 3) E cf_X12 fl_X12_24 (lt_ rfl) rfl rfl dX12_layFirst_1 ?_
  refine j_iconst E 0 ic_0 dX12_layFirst_4 ?_
  refine j_bipush E 30 bp_30 dX12_layFirst_5 ?_
  obtain ⟨M1, hM1, hf⟩ := bnd_e hf
  refine j_iastR E rfl (vi_0 (lt_ rfl)) (0) tn_0 hM1 dX12_layFirst_7 ?_
  refine j_aload_n E 0 rfl dX12_layFirst_8 ?_
  refine j_getM (f := 3) E cf_X12 fl_X12_24 (lt_ rfl) rfl rfl dX12_layFirst_9 ?_
  refine j_iconst E 1 ic_1 dX12_layFirst_12 ?_
  refine j_sipush E 5000 sp_5000 dX12_layFirst_13 ?_
  obtain ⟨M2, hM2, hf⟩ := bnd_e hf
  refine j_iastR E rfl (vi_1 (lt_ rfl)) (1) tn_1 hM2 dX12_layFirst_16 ?_
  refine j_aload_n E 0 rfl dX12_layFirst_17 ?_
  refine j_getM (f := 3) E cf_X12 fl_X12_24 (lt_ rfl) rfl rfl dX12_layFirst_18 ?_
  refine j_iconst E 2 ic_2 dX12_layFirst_21 ?_
  refine j_sipush E 5000 sp_5000 dX12_layFirst_22 ?_
  obtain ⟨M3, hM3, hf⟩ := bnd_e hf
  refine j_iastR E rfl (vi_2 (lt_ rfl)) (2) tn_2 hM3 dX12_layFirst_25 ?_
  refine j_aload_n E 0 rfl dX12_layFirst_26 ?_
  refine j_getM (f := 3) E cf_X12 fl_X12_24 (lt_ rfl) rfl rfl dX12_layFirst_27 ?_
  refine j_iconst E 3 ic_3 dX12_layFirst_30 ?_
  refine j_iconst E 3 ic_3 dX12_layFirst_31 ?_
  obtain ⟨M4, hM4, hf⟩ := bnd_e hf
  refine j_iastR E rfl (vi_3 (lt_ rfl)) (3) tn_3 hM4 dX12_layFirst_32 ?_
  refine j_aload_n E 0 rfl dX12_layFirst_33 ?_
  refine j_getM (f := 3) E cf_X12 fl_X12_24 (lt_ rfl) rfl rfl dX12_layFirst_34 ?_
  refine j_bipush E 12 bp_12 dX12_layFirst_37 ?_
  refine j_bipush E 90 bp_90 dX12_layFirst_39 ?_
  obtain ⟨M5, hM5, hf⟩ := bnd_e hf
  refine j_iastR E rfl (vi_12 (lt_ rfl)) (12) tn_12 hM5 dX12_layFirst_41 ?_
  refine j_aload_n E 0 rfl dX12_layFirst_42 ?_
  refine j_getM (f := 3) E cf_X12 fl_X12_24 (lt_ rfl) rfl rfl dX12_layFirst_43 ?_
  refine j_bipush E 13 bp_13 dX12_layFirst_46 ?_
  refine j_bipush E 75 bp_75 dX12_layFirst_48 ?_
  obtain ⟨M6, hM6, hf⟩ := bnd_e hf
  refine j_iastR E rfl (vi_13 (lt_ rfl)) (13) tn_13 hM6 dX12_layFirst_50 ?_
  refine j_aload_n E 0 rfl dX12_layFirst_51 ?_
  refine j_getM (f := 3) E cf_X12 fl_X12_24 (lt_ rfl) rfl rfl dX12_layFirst_52 ?_
  refine j_bipush E 14 bp_14 dX12_layFirst_55 ?_
  refine j_bipush E 60 bp_60 dX12_layFirst_57 ?_
  obtain ⟨M7, hM7, hf⟩ := bnd_e hf
  refine j_iastR E rfl (vi_14 (lt_ rfl)) (14) tn_14 hM7 dX12_layFirst_59 ?_
  refine j_aload_n E 0 rfl dX12_layFirst_60 ?_
  refine j_ldcS E sl_X12_111 sc_X12_111 dX12_layFirst_61 ?_
  obtain ⟨r1, h1, hf⟩ := bn1_e hf
  refine j_invS [.ref (z + aM 0)] [.long r1, .ref (z + aM 0)] E (c_X12_spell (lt_ rfl) h1) ml_X12_33 ms_X12_spell rfl ⟨le_ rfl, le_ rfl⟩ rfl rfl (le_ rfl) ⟨le_ rfl, le_ rfl⟩ dX12_layFirst_63 ?_
  refine j_l2i E dX12_layFirst_66 ?_
  refine j_iconst E 3 ic_3 dX12_layFirst_67 ?_
  obtain ⟨M8, h2, hf⟩ := bn1_e hf
  refine j_invV [] [] E (c_X12_layVariety h2) ml_X12_113 mv_X12_layVariety rfl ⟨le_ rfl, le_ rfl⟩ (rcM cf_X12) rfl rfl (le_ rfl) ⟨le_ rfl, le_ rfl⟩ dX12_layFirst_68 ?_
  refine j_aload_n E 0 rfl dX12_layFirst_71 ?_
  refine j_ldcS E sl_X12_117 sc_X12_117 dX12_layFirst_72 ?_
  obtain ⟨r2, h3, hf⟩ := bn1_e hf
  refine j_invS [.ref (z + aM 0)] [.long r2, .ref (z + aM 0)] E (c_X12_spell (lt_ rfl) h3) ml_X12_33 ms_X12_spell rfl ⟨le_ rfl, le_ rfl⟩ rfl rfl (le_ rfl) ⟨le_ rfl, le_ rfl⟩ dX12_layFirst_74 ?_
  refine j_l2i E dX12_layFirst_77 ?_
  refine j_iconst E 4 ic_4 dX12_layFirst_78 ?_
  obtain ⟨M9, h4, hf⟩ := bn1_e hf
  refine j_invV [] [] E (c_X12_layVariety h4) ml_X12_113 mv_X12_layVariety rfl ⟨le_ rfl, le_ rfl⟩ (rcM cf_X12) rfl rfl (le_ rfl) ⟨le_ rfl, le_ rfl⟩ dX12_layFirst_79 ?_
  refine j_aload_n E 0 rfl dX12_layFirst_82 ?_
  refine j_iconst E 0 ic_0 dX12_layFirst_83 ?_
  refine j_iconst E 0 ic_0 dX12_layFirst_84 ?_
  refine j_bipush E 12 bp_12 dX12_layFirst_85 ?_
  obtain ⟨M10, h5, hf⟩ := bn1_e hf
  refine j_invV [] [] E (c_X12_setPriceNow h5) ml_X12_119 mv_X12_setPriceNow rfl ⟨le_ rfl, le_ rfl⟩ (rcM cf_X12) rfl rfl (le_ rfl) ⟨le_ rfl, le_ rfl⟩ dX12_layFirst_87 ?_
  refine j_aload_n E 0 rfl dX12_layFirst_90 ?_
  refine j_iconst E 0 ic_0 dX12_layFirst_91 ?_
  refine j_iconst E 1 ic_1 dX12_layFirst_92 ?_
  refine j_bipush E 9 bp_9 dX12_layFirst_93 ?_
  obtain ⟨M11, h6, hf⟩ := bn1_e hf
  refine j_invV [] [] E (c_X12_setPriceNow h6) ml_X12_119 mv_X12_setPriceNow rfl ⟨le_ rfl, le_ rfl⟩ (rcM cf_X12) rfl rfl (le_ rfl) ⟨le_ rfl, le_ rfl⟩ dX12_layFirst_95 ?_
  refine j_aload_n E 0 rfl dX12_layFirst_98 ?_
  refine j_iconst E 0 ic_0 dX12_layFirst_99 ?_
  refine j_iconst E 2 ic_2 dX12_layFirst_100 ?_
  refine j_iconst E 5 ic_5 dX12_layFirst_101 ?_
  obtain ⟨M12, h7, hf⟩ := bn1_e hf
  refine j_invV [] [] E (c_X12_setPriceNow h7) ml_X12_119 mv_X12_setPriceNow rfl ⟨le_ rfl, le_ rfl⟩ (rcM cf_X12) rfl rfl (le_ rfl) ⟨le_ rfl, le_ rfl⟩ dX12_layFirst_102 ?_
  refine j_aload_n E 0 rfl dX12_layFirst_105 ?_
  refine j_iconst E 1 ic_1 dX12_layFirst_106 ?_
  refine j_iconst E 0 ic_0 dX12_layFirst_107 ?_
  refine j_bipush E 10 bp_10 dX12_layFirst_108 ?_
  obtain ⟨M13, h8, hf⟩ := bn1_e hf
  refine j_invV [] [] E (c_X12_setPriceNow h8) ml_X12_119 mv_X12_setPriceNow rfl ⟨le_ rfl, le_ rfl⟩ (rcM cf_X12) rfl rfl (le_ rfl) ⟨le_ rfl, le_ rfl⟩ dX12_layFirst_110 ?_
  refine j_aload_n E 0 rfl dX12_layFirst_113 ?_
  refine j_iconst E 1 ic_1 dX12_layFirst_114 ?_
  refine j_iconst E 1 ic_1 dX12_layFirst_115 ?_
  refine j_bipush E 8 bp_8 dX12_layFirst_116 ?_
  obtain ⟨M14, h9, hf⟩ := bn1_e hf
  refine j_invV [] [] E (c_X12_setPriceNow h9) ml_X12_119 mv_X12_setPriceNow rfl ⟨le_ rfl, le_ rfl⟩ (rcM cf_X12) rfl rfl (le_ rfl) ⟨le_ rfl, le_ rfl⟩ dX12_layFirst_118 ?_
  refine j_aload_n E 0 rfl dX12_layFirst_121 ?_
  refine j_ldcS E sl_X12_123 sc_X12_123 dX12_layFirst_122 ?_
  obtain ⟨r3, h10, hf⟩ := bn1_e hf
  refine j_invS [.ref (z + aM 0)] [.long r3, .ref (z + aM 0)] E (c_X12_spell (lt_ rfl) h10) ml_X12_33 ms_X12_spell rfl ⟨le_ rfl, le_ rfl⟩ rfl rfl (le_ rfl) ⟨le_ rfl, le_ rfl⟩ dX12_layFirst_124 ?_
  refine j_l2i E dX12_layFirst_127 ?_
  refine j_iconst E 3 ic_3 dX12_layFirst_128 ?_
  obtain ⟨M15, h11, hf⟩ := bn1_e hf
  refine j_invV [] [] E (c_X12_layGrower h11) ml_X12_125 mv_X12_layGrower rfl ⟨le_ rfl, le_ rfl⟩ (rcM cf_X12) rfl rfl (le_ rfl) ⟨le_ rfl, le_ rfl⟩ dX12_layFirst_129 ?_
  refine j_aload_n E 0 rfl dX12_layFirst_132 ?_
  refine j_ldcS E sl_X12_128 sc_X12_128 dX12_layFirst_133 ?_
  obtain ⟨r4, h12, hf⟩ := bn1_e hf
  refine j_invS [.ref (z + aM 0)] [.long r4, .ref (z + aM 0)] E (c_X12_spell (lt_ rfl) h12) ml_X12_33 ms_X12_spell rfl ⟨le_ rfl, le_ rfl⟩ rfl rfl (le_ rfl) ⟨le_ rfl, le_ rfl⟩ dX12_layFirst_135 ?_
  refine j_l2i E dX12_layFirst_138 ?_
  refine j_iconst E 4 ic_4 dX12_layFirst_139 ?_
  obtain ⟨M16, h13, hf⟩ := bn1_e hf
  refine j_invV [] [] E (c_X12_layGrower h13) ml_X12_125 mv_X12_layGrower rfl ⟨le_ rfl, le_ rfl⟩ (rcM cf_X12) rfl rfl (le_ rfl) ⟨le_ rfl, le_ rfl⟩ dX12_layFirst_140 ?_
  refine j_aload_n E 0 rfl dX12_layFirst_143 ?_
  refine j_iconst E 0 ic_0 dX12_layFirst_144 ?_
  refine j_iconst E 0 ic_0 dX12_layFirst_145 ?_
  refine j_bipush E 20 bp_20 dX12_layFirst_146 ?_
  obtain ⟨M17, h14, hf⟩ := bn1_e hf
  refine j_invV [] [] E (c_X12_layPlot h14) ml_X12_130 mv_X12_layPlot rfl ⟨le_ rfl, le_ rfl⟩ (rcM cf_X12) rfl rfl (le_ rfl) ⟨le_ rfl, le_ rfl⟩ dX12_layFirst_148 ?_
  refine j_aload_n E 0 rfl dX12_layFirst_151 ?_
  refine j_iconst E 1 ic_1 dX12_layFirst_152 ?_
  refine j_iconst E 0 ic_0 dX12_layFirst_153 ?_
  refine j_bipush E 10 bp_10 dX12_layFirst_154 ?_
  obtain ⟨M18, h15, hf⟩ := bn1_e hf
  refine j_invV [] [] E (c_X12_layPlot h15) ml_X12_130 mv_X12_layPlot rfl ⟨le_ rfl, le_ rfl⟩ (rcM cf_X12) rfl rfl (le_ rfl) ⟨le_ rfl, le_ rfl⟩ dX12_layFirst_156 ?_
  refine j_aload_n E 0 rfl dX12_layFirst_159 ?_
  refine j_iconst E 1 ic_1 dX12_layFirst_160 ?_
  refine j_iconst E 1 ic_1 dX12_layFirst_161 ?_
  refine j_bipush E 8 bp_8 dX12_layFirst_162 ?_
  obtain ⟨M19, h16, hf⟩ := bn1_e hf
  refine j_invV [] [] E (c_X12_layPlot h16) ml_X12_130 mv_X12_layPlot rfl ⟨le_ rfl, le_ rfl⟩ (rcM cf_X12) rfl rfl (le_ rfl) ⟨le_ rfl, le_ rfl⟩ dX12_layFirst_164 ?_
  refine j_aload_n E 0 rfl dX12_layFirst_167 ?_
  refine j_sipush E 700 sp_700 dX12_layFirst_168 ?_
  obtain ⟨M20, h17, hf⟩ := bn1_e hf
  refine j_invV [] [] E (c_X12_layTank h17) ml_X12_133 mv_X12_layTank rfl ⟨le_ rfl, le_ rfl⟩ (rcM cf_X12) rfl rfl (le_ rfl) ⟨le_ rfl, le_ rfl⟩ dX12_layFirst_171 ?_
  refine j_aload_n E 0 rfl dX12_layFirst_174 ?_
  refine j_sipush E 500 sp_500 dX12_layFirst_175 ?_
  obtain ⟨M21, h18, hf⟩ := bn1_e hf
  refine j_invV [] [] E (c_X12_layTank h18) ml_X12_133 mv_X12_layTank rfl ⟨le_ rfl, le_ rfl⟩ (rcM cf_X12) rfl rfl (le_ rfl) ⟨le_ rfl, le_ rfl⟩ dX12_layFirst_178 ?_
  refine j_aload_n E 0 rfl dX12_layFirst_181 ?_
  refine j_sipush E 300 sp_300 dX12_layFirst_182 ?_
  obtain ⟨M22, h19, hf⟩ := bn1_e hf
  refine j_invV [] [] E (c_X12_layTank h19) ml_X12_133 mv_X12_layTank rfl ⟨le_ rfl, le_ rfl⟩ (rcM cf_X12) rfl rfl (le_ rfl) ⟨le_ rfl, le_ rfl⟩ dX12_layFirst_185 ?_
  refine j_aload_n E 0 rfl dX12_layFirst_188 ?_
  refine j_iconst E 0 ic_0 dX12_layFirst_189 ?_
  refine j_sipush E 400 sp_400 dX12_layFirst_190 ?_
  refine j_bipush E 92 bp_92 dX12_layFirst_193 ?_
  obtain ⟨r5, M23, h20, hf⟩ := bn2_e hf
  refine j_invV [] [.int r5] E (c_X12_layLoad h20) ml_X12_137 mv_X12_layLoad rfl ⟨le_ rfl, le_ rfl⟩ (rcM cf_X12) rfl rfl (le_ rfl) ⟨le_ rfl, le_ rfl⟩ dX12_layFirst_195 ?_
  refine j_pop E rfl dX12_layFirst_198 ?_
  refine j_aload_n E 0 rfl dX12_layFirst_199 ?_
  refine j_iconst E 1 ic_1 dX12_layFirst_200 ?_
  refine j_sipush E 280 sp_280 dX12_layFirst_201 ?_
  refine j_bipush E 78 bp_78 dX12_layFirst_204 ?_
  obtain ⟨r6, M24, h21, hf⟩ := bn2_e hf
  refine j_invV [] [.int r6] E (c_X12_layLoad h21) ml_X12_137 mv_X12_layLoad rfl ⟨le_ rfl, le_ rfl⟩ (rcM cf_X12) rfl rfl (le_ rfl) ⟨le_ rfl, le_ rfl⟩ dX12_layFirst_206 ?_
  refine j_pop E rfl dX12_layFirst_209 ?_
  refine j_aload_n E 0 rfl dX12_layFirst_210 ?_
  refine j_iconst E 2 ic_2 dX12_layFirst_211 ?_
  refine j_sipush E 200 sp_200 dX12_layFirst_212 ?_
  refine j_bipush E 76 bp_76 dX12_layFirst_215 ?_
  obtain ⟨r7, M25, h22, hf⟩ := bn2_e hf
  refine j_invV [] [.int r7] E (c_X12_layLoad h22) ml_X12_137 mv_X12_layLoad rfl ⟨le_ rfl, le_ rfl⟩ (rcM cf_X12) rfl rfl (le_ rfl) ⟨le_ rfl, le_ rfl⟩ dX12_layFirst_217 ?_
  refine j_pop E rfl dX12_layFirst_220 ?_
  refine j_aload_n E 0 rfl dX12_layFirst_221 ?_
  refine j_iconst E 1 ic_1 dX12_layFirst_222 ?_
  refine j_bipush E 90 bp_90 dX12_layFirst_223 ?_
  refine j_bipush E 95 bp_95 dX12_layFirst_225 ?_
  obtain ⟨r8, M26, h23, hf⟩ := bn2_e hf
  refine j_invV [] [.int r8] E (c_X12_layLoad h23) ml_X12_137 mv_X12_layLoad rfl ⟨le_ rfl, le_ rfl⟩ (rcM cf_X12) rfl rfl (le_ rfl) ⟨le_ rfl, le_ rfl⟩ dX12_layFirst_227 ?_
  refine j_pop E rfl dX12_layFirst_230 ?_
  cases hf
  exact j_vret E (le_ rfl) (le_ rfl) dX12_layFirst_231
def f_X12_priceOf (M : MT) (v1 : Int32) (v2 : Int32) : Option Int32 :=
  bnd (((16 + (6 * v1)) + 2) + v2) (fun x1 => gd (¬ (x1 < 0 ∨ 264 ≤ x1.toNatClampNeg)) (some (M.1 M.2.2 x1.toNatClampNeg)))
set_option maxRecDepth 20000 in
theorem c_X12_priceOf {l : Launch} {D : DD} {z : Nat} {X : XT} {o : Int64} {f1 : Nat} {M : MT} {v1 : Int32} {v2 : Int32} {r : Int32} (hf : f_X12_priceOf M v1 v2 = some r) : CC l yX12_priceOf cX12_priceOf 3 (some .int) (rmk 1 0 0) D z [.ref (z + aM 0), .int v1, .int v2] (GG D z (X, (f1 + 1, M, o))) (some (.int r)) (GG D z (X, (f1 + 1, M, o))) := by
  unfold f_X12_priceOf at hf
  refine cc_of pn_X12 (le_ rfl) (ls := [(0, .ref (z + aM 0)), (1, .int v1), (2, .int v2)]) rfl ?_
  intro p e s m args below meth c E
  refine j_aload_n E 0 rfl dX12_priceOf_0 ?_
  refine j_getM (f := 3) E cf_X12 fl_X12_24 (lt_ rfl) rfl rfl dX12_priceOf_1 ?_
  refine j_bipush E 16 bp_16 dX12_priceOf_4 ?_
  refine j_bipush E 6 bp_6 dX12_priceOf_6 ?_
  refine j_iload_n E 1 rfl dX12_priceOf_8 ?_
  refine j_imul E dX12_priceOf_9 ?_
  refine j_iadd E dX12_priceOf_10 ?_
  refine j_iconst E 2 ic_2 dX12_priceOf_11 ?_
  refine j_iadd E dX12_priceOf_12 ?_
  refine j_iload_n E 2 rfl dX12_priceOf_13 ?_
  refine j_iadd E dX12_priceOf_14 ?_
  obtain ⟨x1, hx1, hf⟩ := bnd_e hf
  refine j_name hx1 ?_
  obtain ⟨g1, hf⟩ := gd_e hf
  refine j_ialdR E rfl g1 (x1.toNatClampNeg) rfl dX12_priceOf_15 ?_
  cases hf
  exact j_iret E rfl (le_ rfl) (le_ rfl) dX12_priceOf_16
def f_X12_ofLot (M : MT) (v1 : Int32) (v2 : Int32) : Option Int32 :=
  bnd ((216 + (4 * v1)) + v2) (fun x1 => gd (¬ (x1 < 0 ∨ 264 ≤ x1.toNatClampNeg)) (some (M.1 M.2.2 x1.toNatClampNeg)))
set_option maxRecDepth 20000 in
theorem c_X12_ofLot {l : Launch} {D : DD} {z : Nat} {X : XT} {o : Int64} {f1 : Nat} {M : MT} {v1 : Int32} {v2 : Int32} {r : Int32} (hf : f_X12_ofLot M v1 v2 = some r) : CC l yX12_ofLot cX12_ofLot 3 (some .int) (rmk 1 0 0) D z [.ref (z + aM 0), .int v1, .int v2] (GG D z (X, (f1 + 1, M, o))) (some (.int r)) (GG D z (X, (f1 + 1, M, o))) := by
  unfold f_X12_ofLot at hf
  refine cc_of pn_X12 (le_ rfl) (ls := [(0, .ref (z + aM 0)), (1, .int v1), (2, .int v2)]) rfl ?_
  intro p e s m args below meth c E
  refine j_aload_n E 0 rfl dX12_ofLot_0 ?_
  refine j_getM (f := 3) E cf_X12 fl_X12_24 (lt_ rfl) rfl rfl dX12_ofLot_1 ?_
  refine j_sipush E 216 sp_216 dX12_ofLot_4 ?_
  refine j_iconst E 4 ic_4 dX12_ofLot_7 ?_
  refine j_iload_n E 1 rfl dX12_ofLot_8 ?_
  refine j_imul E dX12_ofLot_9 ?_
  refine j_iadd E dX12_ofLot_10 ?_
  refine j_iload_n E 2 rfl dX12_ofLot_11 ?_
  refine j_iadd E dX12_ofLot_12 ?_
  obtain ⟨x1, hx1, hf⟩ := bnd_e hf
  refine j_name hx1 ?_
  obtain ⟨g1, hf⟩ := gd_e hf
  refine j_ialdR E rfl g1 (x1.toNatClampNeg) rfl dX12_ofLot_13 ?_
  cases hf
  exact j_iret E rfl (le_ rfl) (le_ rfl) dX12_ofLot_14
def f_X12_setLot (M : MT) (v1 : Int32) (v2 : Int32) (v3 : Int32) : Option MT :=
  gd (¬ (((216 + (4 * v1)) + v2) < 0 ∨ 264 ≤ ((216 + (4 * v1)) + v2).toNatClampNeg)) (bnd (mi M M.2.2 (((216 + (4 * v1)) + v2).toNatClampNeg) v3) (fun M1 => some M1))
set_option maxRecDepth 20000 in
theorem c_X12_setLot {l : Launch} {D : DD} {z : Nat} {X : XT} {o : Int64} {f1 : Nat} {M : MT} {v1 : Int32} {v2 : Int32} {v3 : Int32} {M' : MT} (hf : f_X12_setLot M v1 v2 v3 = some M') : CC l yX12_setLot cX12_setLot 4 none (rmk 1 0 0) D z [.ref (z + aM 0), .int v1, .int v2, .int v3] (GG D z (X, (f1 + 1, M, o))) none (GG D z (X, (f1 + 1, M', o))) := by
  unfold f_X12_setLot at hf
  refine cc_of pn_X12 (le_ rfl) (ls := [(0, .ref (z + aM 0)), (1, .int v1), (2, .int v2), (3, .int v3)]) rfl ?_
  intro p e s m args below meth c E
  refine j_aload_n E 0 rfl dX12_setLot_0 ?_
  refine j_getM (f := 3) E cf_X12 fl_X12_24 (lt_ rfl) rfl rfl dX12_setLot_1 ?_
  refine j_sipush E 216 sp_216 dX12_setLot_4 ?_
  refine j_iconst E 4 ic_4 dX12_setLot_7 ?_
  refine j_iload_n E 1 rfl dX12_setLot_8 ?_
  refine j_imul E dX12_setLot_9 ?_
  refine j_iadd E dX12_setLot_10 ?_
  refine j_iload_n E 2 rfl dX12_setLot_11 ?_
  refine j_iadd E dX12_setLot_12 ?_
  refine j_iload_n E 3 rfl dX12_setLot_13 ?_
  obtain ⟨g1, hf⟩ := gd_e hf
  obtain ⟨M1, hM1, hf⟩ := bnd_e hf
  refine j_iastR E rfl g1 (((216 + (4 * v1)) + v2).toNatClampNeg) rfl hM1 dX12_setLot_14 ?_
  cases hf
  exact j_vret E (le_ rfl) (le_ rfl) dX12_setLot_15
def f_X12_reasonOf (M : MT) (v1 : Int32) (v2 : Int32) (v3 : Int32) : Option Int32 :=
  if (M.1 M.2.2 7) = 20 then (some 1) else (bn1 (f_X12_gradeOf M v3) (fun r1 => if r1 = (-1) then (some 2) else (bn1 (f_X12_ofPlot M v1 1) (fun r2 => bn1 (f_X12_tankOf M r2 v2) (fun r3 => if r3 = (-1) then (some 3) else (some 0))))))
set_option maxRecDepth 20000 in
theorem c_X12_reasonOf {l : Launch} {D : DD} {z : Nat} {X : XT} {o : Int64} {f1 : Nat} {M : MT} {v1 : Int32} {v2 : Int32} {v3 : Int32} {r : Int32} (hf : f_X12_reasonOf M v1 v2 v3 = some r) : CC l yX12_reasonOf cX12_reasonOf 4 (some .int) (rmk 5 0 0) D z [.ref (z + aM 0), .int v1, .int v2, .int v3] (GG D z (X, (f1 + 1, M, o))) (some (.int r)) (GG D z (X, (f1 + 1, M, o))) := by
  unfold f_X12_reasonOf at hf
  refine cc_of pn_X12 (le_ rfl) (ls := [(0, .ref (z + aM 0)), (1, .int v1), (2, .int v2), (3, .int v3)]) rfl ?_
  intro p e s m args below meth c E
  refine j_aload_n E 0 rfl dX12_reasonOf_0 ?_
  refine j_getM (f := 3) E cf_X12 fl_X12_24 (lt_ rfl) rfl rfl dX12_reasonOf_1 ?_
  refine j_bipush E 7 bp_7 dX12_reasonOf_4 ?_
  refine j_ialdR E rfl (vi_7 (lt_ rfl)) (7) tn_7 dX12_reasonOf_6 ?_
  refine j_bipush E 20 bp_20 dX12_reasonOf_7 ?_
  refine j_icmp_ne E 14 (by decide) dX12_reasonOf_9 (fun c1 => ?_) (fun c1 => ?_)
  · rw [if_neg c1] at hf
    refine j_aload_n E 0 rfl dX12_reasonOf_14 ?_
    refine j_iload_n E 3 rfl dX12_reasonOf_15 ?_
    obtain ⟨r1, h1, hf⟩ := bn1_e hf
    refine j_invV [] [.int r1] E (c_X12_gradeOf h1) ml_X12_161 mv_X12_gradeOf rfl ⟨le_ rfl, le_ rfl⟩ (rcM cf_X12) rfl rfl (le_ rfl) ⟨le_ rfl, le_ rfl⟩ dX12_reasonOf_16 ?_
    refine j_iconst E (-1) ic_m1 dX12_reasonOf_19 ?_
    refine j_icmp_ne E 25 (by decide) dX12_reasonOf_20 (fun c2 => ?_) (fun c2 => ?_)
    · rw [if_neg c2] at hf
      refine j_aload_n E 0 rfl dX12_reasonOf_25 ?_
      refine j_aload_n E 0 rfl dX12_reasonOf_26 ?_
      refine j_iload_n E 1 rfl dX12_reasonOf_27 ?_
      refine j_iconst E 1 ic_1 dX12_reasonOf_28 ?_
      obtain ⟨r2, h2, hf⟩ := bn1_e hf
      refine j_invV [.ref (z + aM 0)] [.int r2, .ref (z + aM 0)] E (c_X12_ofPlot h2) ml_X12_144 mv_X12_ofPlot rfl ⟨le_ rfl, le_ rfl⟩ (rcM cf_X12) rfl rfl (le_ rfl) ⟨le_ rfl, le_ rfl⟩ dX12_reasonOf_29 ?_
      refine j_iload_n E 2 rfl dX12_reasonOf_32 ?_
      obtain ⟨r3, h3, hf⟩ := bn1_e hf
      refine j_invV [] [.int r3] E (c_X12_tankOf h3) ml_X12_164 mv_X12_tankOf rfl ⟨le_ rfl, le_ rfl⟩ (rcM cf_X12) rfl rfl (le_ rfl) ⟨le_ rfl, le_ rfl⟩ dX12_reasonOf_33 ?_
      refine j_iconst E (-1) ic_m1 dX12_reasonOf_36 ?_
      refine j_icmp_ne E 44 (by decide) dX12_reasonOf_37 (fun c3 => ?_) (fun c3 => ?_)
      · rw [if_neg c3] at hf
        refine j_iconst E 0 ic_0 dX12_reasonOf_44 ?_
        cases hf
        exact j_iret E rfl (le_ rfl) (le_ rfl) dX12_reasonOf_45
      · rw [if_pos c3] at hf
        refine j_iconst E 3 ic_3 dX12_reasonOf_40 ?_
        refine j_goto E 45 (by decide) dX12_reasonOf_41 ?_
        cases hf
        exact j_iret E rfl (le_ rfl) (le_ rfl) dX12_reasonOf_45
    · rw [if_pos c2] at hf
      refine j_iconst E 2 ic_2 dX12_reasonOf_23 ?_
      cases hf
      exact j_iret E rfl (le_ rfl) (le_ rfl) dX12_reasonOf_24
  · rw [if_pos c1] at hf
    refine j_iconst E 1 ic_1 dX12_reasonOf_12 ?_
    cases hf
    exact j_iret E rfl (le_ rfl) (le_ rfl) dX12_reasonOf_13
def f_X12_meanIn (M : MT) (v1 : Int32) : Option Int32 :=
  bn1 (f_X12_ofTank M v1 1) (fun r1 => if r1 = 0 then (some 0) else (bn1 (f_X12_ofTank M v1 3) (fun r2 => bn1 (f_X12_ofTank M v1 1) (fun r3 => gd (¬ r3 = 0) (some (r2 / r3))))))
set_option maxRecDepth 20000 in
theorem c_X12_meanIn {l : Launch} {D : DD} {z : Nat} {X : XT} {o : Int64} {f1 : Nat} {M : MT} {v1 : Int32} {r : Int32} (hf : f_X12_meanIn M v1 = some r) : CC l yX12_meanIn cX12_meanIn 2 (some .int) (rmk 2 0 0) D z [.ref (z + aM 0), .int v1] (GG D z (X, (f1 + 1, M, o))) (some (.int r)) (GG D z (X, (f1 + 1, M, o))) := by
  unfold f_X12_meanIn at hf
  refine cc_of pn_X12 (le_ rfl) (ls := [(0, .ref (z + aM 0)), (1, .int v1)]) rfl ?_
  intro p e s m args below meth c E
  refine j_aload_n E 0 rfl dX12_meanIn_0 ?_
  refine j_iload_n E 1 rfl dX12_meanIn_1 ?_
  refine j_iconst E 1 ic_1 dX12_meanIn_2 ?_
  obtain ⟨r1, h1, hf⟩ := bn1_e hf
  refine j_invV [] [.int r1] E (c_X12_ofTank h1) ml_X12_151 mv_X12_ofTank rfl ⟨le_ rfl, le_ rfl⟩ (rcM cf_X12) rfl rfl (le_ rfl) ⟨le_ rfl, le_ rfl⟩ dX12_meanIn_3 ?_
  refine j_if_ne E 13 (by decide) dX12_meanIn_6 (fun c1 => ?_) (fun c1 => ?_)
  · rw [if_neg c1] at hf
    refine j_aload_n E 0 rfl dX12_meanIn_13 ?_
    refine j_iload_n E 1 rfl dX12_meanIn_14 ?_
    refine j_iconst E 3 ic_3 dX12_meanIn_15 ?_
    obtain ⟨r2, h2, hf⟩ := bn1_e hf
    refine j_invV [] [.int r2] E (c_X12_ofTank h2) ml_X12_151 mv_X12_ofTank rfl ⟨le_ rfl, le_ rfl⟩ (rcM cf_X12) rfl rfl (le_ rfl) ⟨le_ rfl, le_ rfl⟩ dX12_meanIn_16 ?_
    refine j_aload_n E 0 rfl dX12_meanIn_19 ?_
    refine j_iload_n E 1 rfl dX12_meanIn_20 ?_
    refine j_iconst E 1 ic_1 dX12_meanIn_21 ?_
    obtain ⟨r3, h3, hf⟩ := bn1_e hf
    refine j_invV [.int r2] [.int r3, .int r2] E (c_X12_ofTank h3) ml_X12_151 mv_X12_ofTank rfl ⟨le_ rfl, le_ rfl⟩ (rcM cf_X12) rfl rfl (le_ rfl) ⟨le_ rfl, le_ rfl⟩ dX12_meanIn_22 ?_
    obtain ⟨g1, hf⟩ := gd_e hf
    refine j_idiv E g1 dX12_meanIn_25 ?_
    cases hf
    exact j_iret E rfl (le_ rfl) (le_ rfl) dX12_meanIn_26
  · rw [if_pos c1] at hf
    refine j_iconst E 0 ic_0 dX12_meanIn_9 ?_
    refine j_goto E 26 (by decide) dX12_meanIn_10 ?_
    cases hf
    exact j_iret E rfl (le_ rfl) (le_ rfl) dX12_meanIn_26
def f_X12_varietyOf (M : MT) (v1 : Int32) : Option Int32 :=
  bn1 (f_X12_ofLoad M v1 0) (fun r1 => bn1 (f_X12_ofPlot M r1 1) (fun r2 => some r2))
set_option maxRecDepth 20000 in
theorem c_X12_varietyOf {l : Launch} {D : DD} {z : Nat} {X : XT} {o : Int64} {f1 : Nat} {M : MT} {v1 : Int32} {r : Int32} (hf : f_X12_varietyOf M v1 = some r) : CC l yX12_varietyOf cX12_varietyOf 2 (some .int) (rmk 2 0 0) D z [.ref (z + aM 0), .int v1] (GG D z (X, (f1 + 1, M, o))) (some (.int r)) (GG D z (X, (f1 + 1, M, o))) := by
  unfold f_X12_varietyOf at hf
  refine cc_of pn_X12 (le_ rfl) (ls := [(0, .ref (z + aM 0)), (1, .int v1)]) rfl ?_
  intro p e s m args below meth c E
  refine j_aload_n E 0 rfl dX12_varietyOf_0 ?_
  refine j_aload_n E 0 rfl dX12_varietyOf_1 ?_
  refine j_iload_n E 1 rfl dX12_varietyOf_2 ?_
  refine j_iconst E 0 ic_0 dX12_varietyOf_3 ?_
  obtain ⟨r1, h1, hf⟩ := bn1_e hf
  refine j_invV [.ref (z + aM 0)] [.int r1, .ref (z + aM 0)] E (c_X12_ofLoad h1) ml_X12_148 mv_X12_ofLoad rfl ⟨le_ rfl, le_ rfl⟩ (rcM cf_X12) rfl rfl (le_ rfl) ⟨le_ rfl, le_ rfl⟩ dX12_varietyOf_4 ?_
  refine j_iconst E 1 ic_1 dX12_varietyOf_7 ?_
  obtain ⟨r2, h2, hf⟩ := bn1_e hf
  refine j_invV [] [.int r2] E (c_X12_ofPlot h2) ml_X12_144 mv_X12_ofPlot rfl ⟨le_ rfl, le_ rfl⟩ (rcM cf_X12) rfl rfl (le_ rfl) ⟨le_ rfl, le_ rfl⟩ dX12_varietyOf_8 ?_
  cases hf
  exact j_iret E rfl (le_ rfl) (le_ rfl) dX12_varietyOf_11
def f_X12_growerOf (M : MT) (v1 : Int32) : Option Int32 :=
  bn1 (f_X12_ofLoad M v1 0) (fun r1 => bn1 (f_X12_ofPlot M r1 0) (fun r2 => some r2))
set_option maxRecDepth 20000 in
theorem c_X12_growerOf {l : Launch} {D : DD} {z : Nat} {X : XT} {o : Int64} {f1 : Nat} {M : MT} {v1 : Int32} {r : Int32} (hf : f_X12_growerOf M v1 = some r) : CC l yX12_growerOf cX12_growerOf 2 (some .int) (rmk 2 0 0) D z [.ref (z + aM 0), .int v1] (GG D z (X, (f1 + 1, M, o))) (some (.int r)) (GG D z (X, (f1 + 1, M, o))) := by
  unfold f_X12_growerOf at hf
  refine cc_of pn_X12 (le_ rfl) (ls := [(0, .ref (z + aM 0)), (1, .int v1)]) rfl ?_
  intro p e s m args below meth c E
  refine j_aload_n E 0 rfl dX12_growerOf_0 ?_
  refine j_aload_n E 0 rfl dX12_growerOf_1 ?_
  refine j_iload_n E 1 rfl dX12_growerOf_2 ?_
  refine j_iconst E 0 ic_0 dX12_growerOf_3 ?_
  obtain ⟨r1, h1, hf⟩ := bn1_e hf
  refine j_invV [.ref (z + aM 0)] [.int r1, .ref (z + aM 0)] E (c_X12_ofLoad h1) ml_X12_148 mv_X12_ofLoad rfl ⟨le_ rfl, le_ rfl⟩ (rcM cf_X12) rfl rfl (le_ rfl) ⟨le_ rfl, le_ rfl⟩ dX12_growerOf_4 ?_
  refine j_iconst E 0 ic_0 dX12_growerOf_7 ?_
  obtain ⟨r2, h2, hf⟩ := bn1_e hf
  refine j_invV [] [.int r2] E (c_X12_ofPlot h2) ml_X12_144 mv_X12_ofPlot rfl ⟨le_ rfl, le_ rfl⟩ (rcM cf_X12) rfl rfl (le_ rfl) ⟨le_ rfl, le_ rfl⟩ dX12_growerOf_8 ?_
  cases hf
  exact j_iret E rfl (le_ rfl) (le_ rfl) dX12_growerOf_11
def f_X12_isOpen (M : MT) (v1 : Int32) : Option Int32 :=
  bn1 (f_X12_ofLoad M v1 5) (fun r1 => if r1 = (-1) then (some 1) else (some 0))
set_option maxRecDepth 20000 in
theorem c_X12_isOpen {l : Launch} {D : DD} {z : Nat} {X : XT} {o : Int64} {f1 : Nat} {M : MT} {v1 : Int32} {r : Int32} (hf : f_X12_isOpen M v1 = some r) : CC l yX12_isOpen cX12_isOpen 2 (some .boolean) (rmk 2 0 0) D z [.ref (z + aM 0), .int v1] (GG D z (X, (f1 + 1, M, o))) (some (.int r)) (GG D z (X, (f1 + 1, M, o))) := by
  unfold f_X12_isOpen at hf
  refine cc_of pn_X12 (le_ rfl) (ls := [(0, .ref (z + aM 0)), (1, .int v1)]) rfl ?_
  intro p e s m args below meth c E
  refine j_aload_n E 0 rfl dX12_isOpen_0 ?_
  refine j_iload_n E 1 rfl dX12_isOpen_1 ?_
  refine j_iconst E 5 ic_5 dX12_isOpen_2 ?_
  obtain ⟨r1, h1, hf⟩ := bn1_e hf
  refine j_invV [] [.int r1] E (c_X12_ofLoad h1) ml_X12_148 mv_X12_ofLoad rfl ⟨le_ rfl, le_ rfl⟩ (rcM cf_X12) rfl rfl (le_ rfl) ⟨le_ rfl, le_ rfl⟩ dX12_isOpen_3 ?_
  refine j_iconst E (-1) ic_m1 dX12_isOpen_6 ?_
  refine j_icmp_ne E 14 (by decide) dX12_isOpen_7 (fun c1 => ?_) (fun c1 => ?_)
  · rw [if_neg c1] at hf
    refine j_iconst E 0 ic_0 dX12_isOpen_14 ?_
    cases hf
    exact j_iret E rfl (le_ rfl) (le_ rfl) dX12_isOpen_15
  · rw [if_pos c1] at hf
    refine j_iconst E 1 ic_1 dX12_isOpen_10 ?_
    refine j_goto E 15 (by decide) dX12_isOpen_11 ?_
    cases hf
    exact j_iret E rfl (le_ rfl) (le_ rfl) dX12_isOpen_15
def f_X12_valueNow (M : MT) (v1 : Int32) : Option Int32 :=
  bn1 (f_X12_isOpen M v1) (fun r1 => if r1 = 0 then (bn1 (f_X12_ofLoad M v1 5) (fun r2 => some r2)) else (bn1 (f_X12_ofLoad M v1 1) (fun r3 => bn1 (f_X12_varietyOf M v1) (fun r4 => bn1 (f_X12_ofLoad M v1 3) (fun r5 => bn1 (f_X12_priceOf M r4 r5) (fun r6 => some (r3 * r6)))))))
set_option maxRecDepth 20000 in
theorem c_X12_valueNow {l : Launch} {D : DD} {z : Nat} {X : XT} {o : Int64} {f1 : Nat} {M : MT} {v1 : Int32} {r : Int32} (hf : f_X12_valueNow M v1 = some r) : CC l yX12_valueNow cX12_valueNow 2 (some .int) (rmk 3 0 0) D z [.ref (z + aM 0), .int v1] (GG D z (X, (f1 + 1, M, o))) (some (.int r)) (GG D z (X, (f1 + 1, M, o))) := by
  unfold f_X12_valueNow at hf
  refine cc_of pn_X12 (le_ rfl) (ls := [(0, .ref (z + aM 0)), (1, .int v1)]) rfl ?_
  intro p e s m args below meth c E
  refine j_aload_n E 0 rfl dX12_valueNow_0 ?_
  refine j_iload_n E 1 rfl dX12_valueNow_1 ?_
  obtain ⟨r1, h1, hf⟩ := bn1_e hf
  refine j_invV [] [.int r1] E (c_X12_isOpen h1) ml_X12_179 mv_X12_isOpen rfl ⟨le_ rfl, le_ rfl⟩ (rcM cf_X12) rfl rfl (le_ rfl) ⟨le_ rfl, le_ rfl⟩ dX12_valueNow_2 ?_
  refine j_if_eq E 33 (by decide) dX12_valueNow_5 (fun c1 => ?_) (fun c1 => ?_)
  · rw [if_pos c1] at hf
    refine j_aload_n E 0 rfl dX12_valueNow_33 ?_
    refine j_iload_n E 1 rfl dX12_valueNow_34 ?_
    refine j_iconst E 5 ic_5 dX12_valueNow_35 ?_
    obtain ⟨r2, h2, hf⟩ := bn1_e hf
    refine j_invV [] [.int r2] E (c_X12_ofLoad h2) ml_X12_148 mv_X12_ofLoad rfl ⟨le_ rfl, le_ rfl⟩ (rcM cf_X12) rfl rfl (le_ rfl) ⟨le_ rfl, le_ rfl⟩ dX12_valueNow_36 ?_
    cases hf
    exact j_iret E rfl (le_ rfl) (le_ rfl) dX12_valueNow_39
  · rw [if_neg c1] at hf
    refine j_aload_n E 0 rfl dX12_valueNow_8 ?_
    refine j_iload_n E 1 rfl dX12_valueNow_9 ?_
    refine j_iconst E 1 ic_1 dX12_valueNow_10 ?_
    obtain ⟨r3, h3, hf⟩ := bn1_e hf
    refine j_invV [] [.int r3] E (c_X12_ofLoad h3) ml_X12_148 mv_X12_ofLoad rfl ⟨le_ rfl, le_ rfl⟩ (rcM cf_X12) rfl rfl (le_ rfl) ⟨le_ rfl, le_ rfl⟩ dX12_valueNow_11 ?_
    refine j_aload_n E 0 rfl dX12_valueNow_14 ?_
    refine j_aload_n E 0 rfl dX12_valueNow_15 ?_
    refine j_iload_n E 1 rfl dX12_valueNow_16 ?_
    obtain ⟨r4, h4, hf⟩ := bn1_e hf
    refine j_invV [.ref (z + aM 0), .int r3] [.int r4, .ref (z + aM 0), .int r3] E (c_X12_varietyOf h4) ml_X12_183 mv_X12_varietyOf rfl ⟨le_ rfl, le_ rfl⟩ (rcM cf_X12) rfl rfl (le_ rfl) ⟨le_ rfl, le_ rfl⟩ dX12_valueNow_17 ?_
    refine j_aload_n E 0 rfl dX12_valueNow_20 ?_
    refine j_iload_n E 1 rfl dX12_valueNow_21 ?_
    refine j_iconst E 3 ic_3 dX12_valueNow_22 ?_
    obtain ⟨r5, h5, hf⟩ := bn1_e hf
    refine j_invV [.int r4, .ref (z + aM 0), .int r3] [.int r5, .int r4, .ref (z + aM 0), .int r3] E (c_X12_ofLoad h5) ml_X12_148 mv_X12_ofLoad rfl ⟨le_ rfl, le_ rfl⟩ (rcM cf_X12) rfl rfl (le_ rfl) ⟨le_ rfl, le_ rfl⟩ dX12_valueNow_23 ?_
    obtain ⟨r6, h6, hf⟩ := bn1_e hf
    refine j_invV [.int r3] [.int r6, .int r3] E (c_X12_priceOf h6) ml_X12_186 mv_X12_priceOf rfl ⟨le_ rfl, le_ rfl⟩ (rcM cf_X12) rfl rfl (le_ rfl) ⟨le_ rfl, le_ rfl⟩ dX12_valueNow_26 ?_
    refine j_imul E dX12_valueNow_29 ?_
    refine j_goto E 39 (by decide) dX12_valueNow_30 ?_
    cases hf
    exact j_iret E rfl (le_ rfl) (le_ rfl) dX12_valueNow_39
def f_X12_mayBottle (M : MT) (v1 : Int32) (v2 : Int32) : Option Int32 :=
  bn1 (f_X12_ofTank M v1 1) (fun r1 => if r1 < v2 then (some 0) else (if 12 ≤ (M.1 M.2.2 9) then (some 0) else (some 1)))
set_option maxRecDepth 20000 in
theorem c_X12_mayBottle {l : Launch} {D : DD} {z : Nat} {X : XT} {o : Int64} {f1 : Nat} {M : MT} {v1 : Int32} {v2 : Int32} {r : Int32} (hf : f_X12_mayBottle M v1 v2 = some r) : CC l yX12_mayBottle cX12_mayBottle 3 (some .boolean) (rmk 2 0 0) D z [.ref (z + aM 0), .int v1, .int v2] (GG D z (X, (f1 + 1, M, o))) (some (.int r)) (GG D z (X, (f1 + 1, M, o))) := by
  unfold f_X12_mayBottle at hf
  refine cc_of pn_X12 (le_ rfl) (ls := [(0, .ref (z + aM 0)), (1, .int v1), (2, .int v2)]) rfl ?_
  intro p e s m args below meth c E
  refine j_aload_n E 0 rfl dX12_mayBottle_0 ?_
  refine j_iload_n E 1 rfl dX12_mayBottle_1 ?_
  refine j_iconst E 1 ic_1 dX12_mayBottle_2 ?_
  obtain ⟨r1, h1, hf⟩ := bn1_e hf
  refine j_invV [] [.int r1] E (c_X12_ofTank h1) ml_X12_151 mv_X12_ofTank rfl ⟨le_ rfl, le_ rfl⟩ (rcM cf_X12) rfl rfl (le_ rfl) ⟨le_ rfl, le_ rfl⟩ dX12_mayBottle_3 ?_
  refine j_iload_n E 2 rfl dX12_mayBottle_6 ?_
  refine j_icmp_lt E 26 (by decide) dX12_mayBottle_7 (fun c1 => ?_) (fun c1 => ?_)
  · rw [if_pos c1] at hf
    refine j_iconst E 0 ic_0 dX12_mayBottle_26 ?_
    cases hf
    exact j_iret E rfl (le_ rfl) (le_ rfl) dX12_mayBottle_27
  · rw [if_neg c1] at hf
    refine j_aload_n E 0 rfl dX12_mayBottle_10 ?_
    refine j_getM (f := 3) E cf_X12 fl_X12_24 (lt_ rfl) rfl rfl dX12_mayBottle_11 ?_
    refine j_bipush E 9 bp_9 dX12_mayBottle_14 ?_
    refine j_ialdR E rfl (vi_9 (lt_ rfl)) (9) tn_9 dX12_mayBottle_16 ?_
    refine j_bipush E 12 bp_12 dX12_mayBottle_17 ?_
    refine j_icmp_ge E 26 (by decide) dX12_mayBottle_19 (fun c2 => ?_) (fun c2 => ?_)
    · rw [if_pos c2] at hf
      refine j_iconst E 0 ic_0 dX12_mayBottle_26 ?_
      cases hf
      exact j_iret E rfl (le_ rfl) (le_ rfl) dX12_mayBottle_27
    · rw [if_neg c2] at hf
      refine j_iconst E 1 ic_1 dX12_mayBottle_22 ?_
      refine j_goto E 27 (by decide) dX12_mayBottle_23 ?_
      cases hf
      exact j_iret E rfl (le_ rfl) (le_ rfl) dX12_mayBottle_27
def f_X12_empty (M : MT) (v1 : Int32) : Option MT :=
  bn1 (f_X12_setTank M v1 1 0) (fun M1 => bn1 (f_X12_setTank M1 v1 2 (-1)) (fun M2 => bn1 (f_X12_setTank M2 v1 3 0) (fun M3 => some M3)))
set_option maxRecDepth 20000 in
theorem c_X12_empty {l : Launch} {D : DD} {z : Nat} {X : XT} {o : Int64} {f1 : Nat} {M : MT} {v1 : Int32} {M' : MT} (hf : f_X12_empty M v1 = some M') : CC l yX12_empty cX12_empty 2 none (rmk 2 0 0) D z [.ref (z + aM 0), .int v1] (GG D z (X, (f1 + 1, M, o))) none (GG D z (X, (f1 + 1, M', o))) := by
  unfold f_X12_empty at hf
  refine cc_of pn_X12 (le_ rfl) (ls := [(0, .ref (z + aM 0)), (1, .int v1)]) rfl ?_
  intro p e s m args below meth c E
  refine j_aload_n E 0 rfl dX12_empty_0 ?_
  refine j_iload_n E 1 rfl dX12_empty_1 ?_
  refine j_iconst E 1 ic_1 dX12_empty_2 ?_
  refine j_iconst E 0 ic_0 dX12_empty_3 ?_
  obtain ⟨M1, h1, hf⟩ := bn1_e hf
  refine j_invV [] [] E (c_X12_setTank h1) ml_X12_141 mv_X12_setTank rfl ⟨le_ rfl, le_ rfl⟩ (rcM cf_X12) rfl rfl (le_ rfl) ⟨le_ rfl, le_ rfl⟩ dX12_empty_4 ?_
  refine j_aload_n E 0 rfl dX12_empty_7 ?_
  refine j_iload_n E 1 rfl dX12_empty_8 ?_
  refine j_iconst E 2 ic_2 dX12_empty_9 ?_
  refine j_iconst E (-1) ic_m1 dX12_empty_10 ?_
  obtain ⟨M2, h2, hf⟩ := bn1_e hf
  refine j_invV [] [] E (c_X12_setTank h2) ml_X12_141 mv_X12_setTank rfl ⟨le_ rfl, le_ rfl⟩ (rcM cf_X12) rfl rfl (le_ rfl) ⟨le_ rfl, le_ rfl⟩ dX12_empty_11 ?_
  refine j_aload_n E 0 rfl dX12_empty_14 ?_
  refine j_iload_n E 1 rfl dX12_empty_15 ?_
  refine j_iconst E 3 ic_3 dX12_empty_16 ?_
  refine j_iconst E 0 ic_0 dX12_empty_17 ?_
  obtain ⟨M3, h3, hf⟩ := bn1_e hf
  refine j_invV [] [] E (c_X12_setTank h3) ml_X12_141 mv_X12_setTank rfl ⟨le_ rfl, le_ rfl⟩ (rcM cf_X12) rfl rfl (le_ rfl) ⟨le_ rfl, le_ rfl⟩ dX12_empty_18 ?_
  cases hf
  exact j_vret E (le_ rfl) (le_ rfl) dX12_empty_21
def f_X12_bottleNow (M : MT) (v1 : Int32) (v2 : Int32) : Option (Int32 × MT) :=
  bn1 (f_X12_meanIn M v1) (fun r1 => bnd (mi M M.2.2 9 ((M.1 M.2.2 9) + 1)) (fun M1 => bn1 (f_X12_ofTank M1 v1 2) (fun r2 => bn1 (f_X12_setLot M1 (M.1 M.2.2 9) 0 r2) (fun M2 => bn1 (f_X12_setLot M2 (M.1 M.2.2 9) 1 r1) (fun M3 => bn1 (f_X12_setLot M3 (M.1 M.2.2 9) 2 v2) (fun M4 => bn1 (f_X12_setLot M4 (M.1 M.2.2 9) 3 v2) (fun M5 => bn1 (f_X12_ofTank M5 v1 1) (fun r3 => bn1 (f_X12_setTank M5 v1 1 (r3 - v2)) (fun M6 => bn1 (f_X12_ofTank M6 v1 3) (fun r4 => bn1 (f_X12_setTank M6 v1 3 (r4 - (v2 * r1))) (fun M7 => bn1 (f_X12_ofTank M7 v1 1) (fun r5 => if r5 = 0 then (bn1 (f_X12_empty M7 v1) (fun M8 => some ((M.1 M.2.2 9), M8))) else (some ((M.1 M.2.2 9), M7))))))))))))))
set_option maxRecDepth 20000 in
theorem c_X12_bottleNow {l : Launch} {D : DD} {z : Nat} {X : XT} {o : Int64} {f1 : Nat} {M : MT} {v1 : Int32} {v2 : Int32} {r : Int32} {M' : MT} (hf : f_X12_bottleNow M v1 v2 = some (r, M')) : CC l yX12_bottleNow cX12_bottleNow 5 (some .int) (rmk 3 0 0) D z [.ref (z + aM 0), .int v1, .int v2] (GG D z (X, (f1 + 1, M, o))) (some (.int r)) (GG D z (X, (f1 + 1, M', o))) := by
  unfold f_X12_bottleNow at hf
  refine cc_of pn_X12 (le_ rfl) (ls := [(0, .ref (z + aM 0)), (1, .int v1), (2, .int v2)]) rfl ?_
  intro p e s m args below meth c E
  refine j_aload_n E 0 rfl dX12_bottleNow_0 ?_
  refine j_getM (f := 3) E cf_X12 fl_X12_24 (lt_ rfl) rfl rfl dX12_bottleNow_1 ?_
  refine j_bipush E 9 bp_9 dX12_bottleNow_4 ?_
  refine j_ialdR E rfl (vi_9 (lt_ rfl)) (9) tn_9 dX12_bottleNow_6 ?_
  refine j_istore_n (ls' := [(3, .int (M.1 M.2.2 9)), (0, .ref (z + aM 0)), (1, .int v1), (2, .int v2)]) E (lt_ rfl) rfl dX12_bottleNow_7 ?_
  refine j_aload_n E 1 rfl dX12_bottleNow_8 ?_
  refine j_iload_n E 2 rfl dX12_bottleNow_9 ?_
  obtain ⟨r1, h1, hf⟩ := bn1_e hf
  refine j_invV [] [.int r1] E (c_X12_meanIn h1) ml_X12_189 mv_X12_meanIn rfl ⟨le_ rfl, le_ rfl⟩ (rcM cf_X12) rfl rfl (le_ rfl) ⟨le_ rfl, le_ rfl⟩ dX12_bottleNow_10 ?_
  refine j_istore (ls' := [(4, .int r1), (3, .int (M.1 M.2.2 9)), (0, .ref (z + aM 0)), (1, .int v1), (2, .int v2)]) E (lt_ rfl) rfl dX12_bottleNow_13 ?_
  refine j_aload_n E 2 rfl dX12_bottleNow_15 ?_
  refine j_getM (f := 3) E cf_X12 fl_X12_24 (lt_ rfl) rfl rfl dX12_bottleNow_16 ?_
  refine j_bipush E 9 bp_9 dX12_bottleNow_19 ?_
  refine j_dup2 E rfl rfl dX12_bottleNow_21 ?_
  refine j_ialdR E rfl (vi_9 (lt_ rfl)) (9) tn_9 dX12_bottleNow_22 ?_
  refine j_iconst E 1 ic_1 dX12_bottleNow_23 ?_
  refine j_iadd E dX12_bottleNow_24 ?_
  obtain ⟨M1, hM1, hf⟩ := bnd_e hf
  refine j_iastR E rfl (vi_9 (lt_ rfl)) (9) tn_9 hM1 dX12_bottleNow_25 ?_
  refine j_aload_n E 2 rfl dX12_bottleNow_26 ?_
  refine j_iload_n E 1 rfl dX12_bottleNow_27 ?_
  refine j_iconst E 0 ic_0 dX12_bottleNow_28 ?_
  refine j_aload_n E 2 rfl dX12_bottleNow_29 ?_
  refine j_iload_n E 3 rfl dX12_bottleNow_30 ?_
  refine j_iconst E 2 ic_2 dX12_bottleNow_31 ?_
  obtain ⟨r2, h2, hf⟩ := bn1_e hf
  refine j_invV [.int 0, .int (M.1 M.2.2 9), .ref (z + aM 0)] [.int r2, .int 0, .int (M.1 M.2.2 9), .ref (z + aM 0)] E (c_X12_ofTank h2) ml_X12_151 mv_X12_ofTank rfl ⟨le_ rfl, le_ rfl⟩ (rcM cf_X12) rfl rfl (le_ rfl) ⟨le_ rfl, le_ rfl⟩ dX12_bottleNow_32 ?_
  obtain ⟨M2, h3, hf⟩ := bn1_e hf
  refine j_invV [] [] E (c_X12_setLot h3) ml_X12_192 mv_X12_setLot rfl ⟨le_ rfl, le_ rfl⟩ (rcM cf_X12) rfl rfl (le_ rfl) ⟨le_ rfl, le_ rfl⟩ dX12_bottleNow_35 ?_
  refine j_aload_n E 2 rfl dX12_bottleNow_38 ?_
  refine j_iload_n E 1 rfl dX12_bottleNow_39 ?_
  refine j_iconst E 1 ic_1 dX12_bottleNow_40 ?_
  refine j_iload E 0 rfl dX12_bottleNow_41 ?_
  obtain ⟨M3, h4, hf⟩ := bn1_e hf
  refine j_invV [] [] E (c_X12_setLot h4) ml_X12_192 mv_X12_setLot rfl ⟨le_ rfl, le_ rfl⟩ (rcM cf_X12) rfl rfl (le_ rfl) ⟨le_ rfl, le_ rfl⟩ dX12_bottleNow_43 ?_
  refine j_aload_n E 2 rfl dX12_bottleNow_46 ?_
  refine j_iload_n E 1 rfl dX12_bottleNow_47 ?_
  refine j_iconst E 2 ic_2 dX12_bottleNow_48 ?_
  refine j_iload_n E 4 rfl dX12_bottleNow_49 ?_
  obtain ⟨M4, h5, hf⟩ := bn1_e hf
  refine j_invV [] [] E (c_X12_setLot h5) ml_X12_192 mv_X12_setLot rfl ⟨le_ rfl, le_ rfl⟩ (rcM cf_X12) rfl rfl (le_ rfl) ⟨le_ rfl, le_ rfl⟩ dX12_bottleNow_50 ?_
  refine j_aload_n E 2 rfl dX12_bottleNow_53 ?_
  refine j_iload_n E 1 rfl dX12_bottleNow_54 ?_
  refine j_iconst E 3 ic_3 dX12_bottleNow_55 ?_
  refine j_iload_n E 4 rfl dX12_bottleNow_56 ?_
  obtain ⟨M5, h6, hf⟩ := bn1_e hf
  refine j_invV [] [] E (c_X12_setLot h6) ml_X12_192 mv_X12_setLot rfl ⟨le_ rfl, le_ rfl⟩ (rcM cf_X12) rfl rfl (le_ rfl) ⟨le_ rfl, le_ rfl⟩ dX12_bottleNow_57 ?_
  refine j_aload_n E 2 rfl dX12_bottleNow_60 ?_
  refine j_iload_n E 3 rfl dX12_bottleNow_61 ?_
  refine j_iconst E 1 ic_1 dX12_bottleNow_62 ?_
  refine j_aload_n E 2 rfl dX12_bottleNow_63 ?_
  refine j_iload_n E 3 rfl dX12_bottleNow_64 ?_
  refine j_iconst E 1 ic_1 dX12_bottleNow_65 ?_
  obtain ⟨r3, h7, hf⟩ := bn1_e hf
  refine j_invV [.int 1, .int v1, .ref (z + aM 0)] [.int r3, .int 1, .int v1, .ref (z + aM 0)] E (c_X12_ofTank h7) ml_X12_151 mv_X12_ofTank rfl ⟨le_ rfl, le_ rfl⟩ (rcM cf_X12) rfl rfl (le_ rfl) ⟨le_ rfl, le_ rfl⟩ dX12_bottleNow_66 ?_
  refine j_iload_n E 4 rfl dX12_bottleNow_69 ?_
  refine j_isub E dX12_bottleNow_70 ?_
  obtain ⟨M6, h8, hf⟩ := bn1_e hf
  refine j_invV [] [] E (c_X12_setTank h8) ml_X12_141 mv_X12_setTank rfl ⟨le_ rfl, le_ rfl⟩ (rcM cf_X12) rfl rfl (le_ rfl) ⟨le_ rfl, le_ rfl⟩ dX12_bottleNow_71 ?_
  refine j_aload_n E 2 rfl dX12_bottleNow_74 ?_
  refine j_iload_n E 3 rfl dX12_bottleNow_75 ?_
  refine j_iconst E 3 ic_3 dX12_bottleNow_76 ?_
  refine j_aload_n E 2 rfl dX12_bottleNow_77 ?_
  refine j_iload_n E 3 rfl dX12_bottleNow_78 ?_
  refine j_iconst E 3 ic_3 dX12_bottleNow_79 ?_
  obtain ⟨r4, h9, hf⟩ := bn1_e hf
  refine j_invV [.int 3, .int v1, .ref (z + aM 0)] [.int r4, .int 3, .int v1, .ref (z + aM 0)] E (c_X12_ofTank h9) ml_X12_151 mv_X12_ofTank rfl ⟨le_ rfl, le_ rfl⟩ (rcM cf_X12) rfl rfl (le_ rfl) ⟨le_ rfl, le_ rfl⟩ dX12_bottleNow_80 ?_
  refine j_iload_n E 4 rfl dX12_bottleNow_83 ?_
  refine j_iload E 0 rfl dX12_bottleNow_84 ?_
  refine j_imul E dX12_bottleNow_86 ?_
  refine j_isub E dX12_bottleNow_87 ?_
  obtain ⟨M7, h10, hf⟩ := bn1_e hf
  refine j_invV [] [] E (c_X12_setTank h10) ml_X12_141 mv_X12_setTank rfl ⟨le_ rfl, le_ rfl⟩ (rcM cf_X12) rfl rfl (le_ rfl) ⟨le_ rfl, le_ rfl⟩ dX12_bottleNow_88 ?_
  refine j_aload_n E 2 rfl dX12_bottleNow_91 ?_
  refine j_iload_n E 3 rfl dX12_bottleNow_92 ?_
  refine j_iconst E 1 ic_1 dX12_bottleNow_93 ?_
  obtain ⟨r5, h11, hf⟩ := bn1_e hf
  refine j_invV [] [.int r5] E (c_X12_ofTank h11) ml_X12_151 mv_X12_ofTank rfl ⟨le_ rfl, le_ rfl⟩ (rcM cf_X12) rfl rfl (le_ rfl) ⟨le_ rfl, le_ rfl⟩ dX12_bottleNow_94 ?_
  refine j_if_ne E 105 (by decide) dX12_bottleNow_97 (fun c1 => ?_) (fun c1 => ?_)
  · rw [if_neg c1] at hf
    refine j_iload_n E 1 rfl dX12_bottleNow_105 ?_
    cases hf
    exact j_iret E rfl (le_ rfl) (le_ rfl) dX12_bottleNow_106
  · rw [if_pos c1] at hf
    refine j_aload_n E 2 rfl dX12_bottleNow_100 ?_
    refine j_iload_n E 3 rfl dX12_bottleNow_101 ?_
    obtain ⟨M8, h12, hf⟩ := bn1_e hf
    refine j_invV [] [] E (c_X12_empty h12) ml_X12_195 mv_X12_empty rfl ⟨le_ rfl, le_ rfl⟩ (rcM cf_X12) rfl rfl (le_ rfl) ⟨le_ rfl, le_ rfl⟩ dX12_bottleNow_102 ?_
    refine j_iload_n E 1 rfl dX12_bottleNow_105 ?_
    cases hf
    exact j_iret E rfl (le_ rfl) (le_ rfl) dX12_bottleNow_106
def f_X12_maySell (M : MT) (v1 : Int32) (v2 : Int32) (v3 : Int32) : Option Int32 :=
  bn1 (f_X12_ofLot M v1 3) (fun r1 => if r1 < v2 then (some 0) else (if 0 < (lg_cmp (((M.1 M.2.2 2).toInt64) + ((v2.toInt64) * (v3.toInt64))) 1000000000) then (some 0) else (some 1)))
set_option maxRecDepth 20000 in
theorem c_X12_maySell {l : Launch} {D : DD} {z : Nat} {X : XT} {o : Int64} {f1 : Nat} {M : MT} {v1 : Int32} {v2 : Int32} {v3 : Int32} {r : Int32} (hf : f_X12_maySell M v1 v2 v3 = some r) : CC l yX12_maySell cX12_maySell 4 (some .boolean) (rmk 2 0 0) D z [.ref (z + aM 0), .int v1, .int v2, .int v3] (GG D z (X, (f1 + 1, M, o))) (some (.int r)) (GG D z (X, (f1 + 1, M, o))) := by
  unfold f_X12_maySell at hf
  refine cc_of pn_X12 (le_ rfl) (ls := [(0, .ref (z + aM 0)), (1, .int v1), (2, .int v2), (3, .int v3)]) rfl ?_
  intro p e s m args below meth c E
  refine j_aload_n E 0 rfl dX12_maySell_0 ?_
  refine j_iload_n E 1 rfl dX12_maySell_1 ?_
  refine j_iconst E 3 ic_3 dX12_maySell_2 ?_
  obtain ⟨r1, h1, hf⟩ := bn1_e hf
  refine j_invV [] [.int r1] E (c_X12_ofLot h1) ml_X12_198 mv_X12_ofLot rfl ⟨le_ rfl, le_ rfl⟩ (rcM cf_X12) rfl rfl (le_ rfl) ⟨le_ rfl, le_ rfl⟩ dX12_maySell_3 ?_
  refine j_iload_n E 2 rfl dX12_maySell_6 ?_
  refine j_icmp_lt E 34 (by decide) dX12_maySell_7 (fun c1 => ?_) (fun c1 => ?_)
  · rw [if_pos c1] at hf
    refine j_iconst E 0 ic_0 dX12_maySell_34 ?_
    cases hf
    exact j_iret E rfl (le_ rfl) (le_ rfl) dX12_maySell_35
  · rw [if_neg c1] at hf
    refine j_aload_n E 0 rfl dX12_maySell_10 ?_
    refine j_getM (f := 3) E cf_X12 fl_X12_24 (lt_ rfl) rfl rfl dX12_maySell_11 ?_
    refine j_iconst E 2 ic_2 dX12_maySell_14 ?_
    refine j_ialdR E rfl (vi_2 (lt_ rfl)) (2) tn_2 dX12_maySell_15 ?_
    refine j_i2l E dX12_maySell_16 ?_
    refine j_iload_n E 2 rfl dX12_maySell_17 ?_
    refine j_i2l E dX12_maySell_18 ?_
    refine j_iload_n E 3 rfl dX12_maySell_19 ?_
    refine j_i2l E dX12_maySell_20 ?_
    refine j_lmul E dX12_maySell_21 ?_
    refine j_ladd E dX12_maySell_22 ?_
    refine j_ldc2 E ct_X12_201 dX12_maySell_23 ?_
    refine j_lcmp E dX12_maySell_26 ?_
    refine j_if_gt E 34 (by decide) dX12_maySell_27 (fun c2 => ?_) (fun c2 => ?_)
    · rw [if_pos c2] at hf
      refine j_iconst E 0 ic_0 dX12_maySell_34 ?_
      cases hf
      exact j_iret E rfl (le_ rfl) (le_ rfl) dX12_maySell_35
    · rw [if_neg c2] at hf
      refine j_iconst E 1 ic_1 dX12_maySell_30 ?_
      refine j_goto E 35 (by decide) dX12_maySell_31 ?_
      cases hf
      exact j_iret E rfl (le_ rfl) (le_ rfl) dX12_maySell_35
def f_X12_sellNow (M : MT) (v1 : Int32) (v2 : Int32) (v3 : Int32) : Option (Int32 × MT) :=
  bn1 (f_X12_ofLot M v1 3) (fun r1 => bn1 (f_X12_setLot M v1 3 (r1 - v2)) (fun M1 => bnd (mi M1 M1.2.2 2 ((M1.1 M1.2.2 2) + (v2 * v3))) (fun M2 => bnd (mi M2 M2.2.2 10 ((M2.1 M2.2.2 10) + (v2 * v3))) (fun M3 => some ((M3.1 M3.2.2 2), M3)))))
set_option maxRecDepth 20000 in
theorem c_X12_sellNow {l : Launch} {D : DD} {z : Nat} {X : XT} {o : Int64} {f1 : Nat} {M : MT} {v1 : Int32} {v2 : Int32} {v3 : Int32} {r : Int32} {M' : MT} (hf : f_X12_sellNow M v1 v2 v3 = some (r, M')) : CC l yX12_sellNow cX12_sellNow 4 (some .int) (rmk 2 0 0) D z [.ref (z + aM 0), .int v1, .int v2, .int v3] (GG D z (X, (f1 + 1, M, o))) (some (.int r)) (GG D z (X, (f1 + 1, M', o))) := by
  unfold f_X12_sellNow at hf
  refine cc_of pn_X12 (le_ rfl) (ls := [(0, .ref (z + aM 0)), (1, .int v1), (2, .int v2), (3, .int v3)]) rfl ?_
  intro p e s m args below meth c E
  refine j_aload_n E 0 rfl dX12_sellNow_0 ?_
  refine j_iload_n E 1 rfl dX12_sellNow_1 ?_
  refine j_iconst E 3 ic_3 dX12_sellNow_2 ?_
  refine j_aload_n E 0 rfl dX12_sellNow_3 ?_
  refine j_iload_n E 1 rfl dX12_sellNow_4 ?_
  refine j_iconst E 3 ic_3 dX12_sellNow_5 ?_
  obtain ⟨r1, h1, hf⟩ := bn1_e hf
  refine j_invV [.int 3, .int v1, .ref (z + aM 0)] [.int r1, .int 3, .int v1, .ref (z + aM 0)] E (c_X12_ofLot h1) ml_X12_198 mv_X12_ofLot rfl ⟨le_ rfl, le_ rfl⟩ (rcM cf_X12) rfl rfl (le_ rfl) ⟨le_ rfl, le_ rfl⟩ dX12_sellNow_6 ?_
  refine j_iload_n E 2 rfl dX12_sellNow_9 ?_
  refine j_isub E dX12_sellNow_10 ?_
  obtain ⟨M1, h2, hf⟩ := bn1_e hf
  refine j_invV [] [] E (c_X12_setLot h2) ml_X12_192 mv_X12_setLot rfl ⟨le_ rfl, le_ rfl⟩ (rcM cf_X12) rfl rfl (le_ rfl) ⟨le_ rfl, le_ rfl⟩ dX12_sellNow_11 ?_
  refine j_aload_n E 0 rfl dX12_sellNow_14 ?_
  refine j_getM (f := 3) E cf_X12 fl_X12_24 (lt_ rfl) rfl rfl dX12_sellNow_15 ?_
  refine j_iconst E 2 ic_2 dX12_sellNow_18 ?_
  refine j_dup2 E rfl rfl dX12_sellNow_19 ?_
  refine j_ialdR E rfl (vi_2 (lt_ rfl)) (2) tn_2 dX12_sellNow_20 ?_
  refine j_iload_n E 2 rfl dX12_sellNow_21 ?_
  refine j_iload_n E 3 rfl dX12_sellNow_22 ?_
  refine j_imul E dX12_sellNow_23 ?_
  refine j_iadd E dX12_sellNow_24 ?_
  obtain ⟨M2, hM2, hf⟩ := bnd_e hf
  refine j_iastR E rfl (vi_2 (lt_ rfl)) (2) tn_2 hM2 dX12_sellNow_25 ?_
  refine j_aload_n E 0 rfl dX12_sellNow_26 ?_
  refine j_getM (f := 3) E cf_X12 fl_X12_24 (lt_ rfl) rfl rfl dX12_sellNow_27 ?_
  refine j_bipush E 10 bp_10 dX12_sellNow_30 ?_
  refine j_dup2 E rfl rfl dX12_sellNow_32 ?_
  refine j_ialdR E rfl (vi_10 (lt_ rfl)) (10) tn_10 dX12_sellNow_33 ?_
  refine j_iload_n E 2 rfl dX12_sellNow_34 ?_
  refine j_iload_n E 3 rfl dX12_sellNow_35 ?_
  refine j_imul E dX12_sellNow_36 ?_
  refine j_iadd E dX12_sellNow_37 ?_
  obtain ⟨M3, hM3, hf⟩ := bnd_e hf
  refine j_iastR E rfl (vi_10 (lt_ rfl)) (10) tn_10 hM3 dX12_sellNow_38 ?_
  refine j_aload_n E 0 rfl dX12_sellNow_39 ?_
  refine j_getM (f := 3) E cf_X12 fl_X12_24 (lt_ rfl) rfl rfl dX12_sellNow_40 ?_
  refine j_iconst E 2 ic_2 dX12_sellNow_43 ?_
  refine j_ialdR E rfl (vi_2 (lt_ rfl)) (2) tn_2 dX12_sellNow_44 ?_
  cases hf
  exact j_iret E rfl (le_ rfl) (le_ rfl) dX12_sellNow_45
def f_X12_payNow (M : MT) (v1 : Int32) : Option (Int32 × MT) :=
  bn1 (f_X12_valueNow M v1) (fun r1 => bn1 (f_X12_setLoad M v1 5 r1) (fun M1 => bnd (mi M1 M1.2.2 2 ((M1.1 M1.2.2 2) - r1)) (fun M2 => bnd (mi M2 M2.2.2 11 ((M2.1 M2.2.2 11) + r1)) (fun M3 => some (r1, M3)))))
set_option maxRecDepth 20000 in
theorem c_X12_payNow {l : Launch} {D : DD} {z : Nat} {X : XT} {o : Int64} {f1 : Nat} {M : MT} {v1 : Int32} {r : Int32} {M' : MT} (hf : f_X12_payNow M v1 = some (r, M')) : CC l yX12_payNow cX12_payNow 3 (some .int) (rmk 4 0 0) D z [.ref (z + aM 0), .int v1] (GG D z (X, (f1 + 1, M, o))) (some (.int r)) (GG D z (X, (f1 + 1, M', o))) := by
  unfold f_X12_payNow at hf
  refine cc_of pn_X12 (le_ rfl) (ls := [(0, .ref (z + aM 0)), (1, .int v1)]) rfl ?_
  intro p e s m args below meth c E
  refine j_aload_n E 0 rfl dX12_payNow_0 ?_
  refine j_iload_n E 1 rfl dX12_payNow_1 ?_
  obtain ⟨r1, h1, hf⟩ := bn1_e hf
  refine j_invV [] [.int r1] E (c_X12_valueNow h1) ml_X12_203 mv_X12_valueNow rfl ⟨le_ rfl, le_ rfl⟩ (rcM cf_X12) rfl rfl (le_ rfl) ⟨le_ rfl, le_ rfl⟩ dX12_payNow_2 ?_
  refine j_istore_n (ls' := [(2, .int r1), (0, .ref (z + aM 0)), (1, .int v1)]) E (lt_ rfl) rfl dX12_payNow_5 ?_
  refine j_aload_n E 1 rfl dX12_payNow_6 ?_
  refine j_iload_n E 2 rfl dX12_payNow_7 ?_
  refine j_iconst E 5 ic_5 dX12_payNow_8 ?_
  refine j_iload_n E 0 rfl dX12_payNow_9 ?_
  obtain ⟨M1, h2, hf⟩ := bn1_e hf
  refine j_invV [] [] E (c_X12_setLoad h2) ml_X12_176 mv_X12_setLoad rfl ⟨le_ rfl, le_ rfl⟩ (rcM cf_X12) rfl rfl (le_ rfl) ⟨le_ rfl, le_ rfl⟩ dX12_payNow_10 ?_
  refine j_aload_n E 1 rfl dX12_payNow_13 ?_
  refine j_getM (f := 3) E cf_X12 fl_X12_24 (lt_ rfl) rfl rfl dX12_payNow_14 ?_
  refine j_iconst E 2 ic_2 dX12_payNow_17 ?_
  refine j_dup2 E rfl rfl dX12_payNow_18 ?_
  refine j_ialdR E rfl (vi_2 (lt_ rfl)) (2) tn_2 dX12_payNow_19 ?_
  refine j_iload_n E 0 rfl dX12_payNow_20 ?_
  refine j_isub E dX12_payNow_21 ?_
  obtain ⟨M2, hM2, hf⟩ := bnd_e hf
  refine j_iastR E rfl (vi_2 (lt_ rfl)) (2) tn_2 hM2 dX12_payNow_22 ?_
  refine j_aload_n E 1 rfl dX12_payNow_23 ?_
  refine j_getM (f := 3) E cf_X12 fl_X12_24 (lt_ rfl) rfl rfl dX12_payNow_24 ?_
  refine j_bipush E 11 bp_11 dX12_payNow_27 ?_
  refine j_dup2 E rfl rfl dX12_payNow_29 ?_
  refine j_ialdR E rfl (vi_11 (lt_ rfl)) (11) tn_11 dX12_payNow_30 ?_
  refine j_iload_n E 0 rfl dX12_payNow_31 ?_
  refine j_iadd E dX12_payNow_32 ?_
  obtain ⟨M3, hM3, hf⟩ := bnd_e hf
  refine j_iastR E rfl (vi_11 (lt_ rfl)) (11) tn_11 hM3 dX12_payNow_33 ?_
  refine j_iload_n E 0 rfl dX12_payNow_34 ?_
  cases hf
  exact j_iret E rfl (le_ rfl) (le_ rfl) dX12_payNow_35
def f_X12_openOf_4 (M : MT) (v1 : Int32) : Nat → Int32 → Int32 → Option Int32
  | 0, _, _ => none
  | n + 1, v2, v3 => if (M.1 M.2.2 7) ≤ v3 then (some v2) else (bn1 (f_X12_growerOf M v3) (fun r1 => if r1 = v1 then (bn1 (f_X12_isOpen M v3) (fun r2 => if r2 = 0 then (bnd (v2 + 0) (fun x2 => f_X12_openOf_4 M v1 n x2 (v3 + 1))) else (bn1 (f_X12_valueNow M v3) (fun r3 => bnd (v2 + r3) (fun x3 => f_X12_openOf_4 M v1 n x3 (v3 + 1)))))) else (bnd (v2 + 0) (fun x1 => f_X12_openOf_4 M v1 n x1 (v3 + 1)))))
def f_X12_openOf (M : MT) (v1 : Int32) : Option Int32 :=
  f_X12_openOf_4 M v1 2000 0 0
set_option maxRecDepth 20000 in
theorem b_X12_openOf_4 {p : Program} {l : Launch} {e : Env} {s : State} {m : MethodId} {args : Array Value} {below : List Frame} {meth : Method} {c : Code} {D : DD} {z : Nat} {X : XT} {o : Int64} {f1 : Nat} {M : MT} {v1 : Int32} (E : Cx p s m args meth c D z RX12 cX12_openOf 4 (some .int)) {r : Int32} : ∀ (n : Nat) (v2 : Int32) (v3 : Int32) (hf : f_X12_openOf_4 M v1 n v2 v3 = some r), J p l e (rmk 4 0 0) s m args below meth c D z (GG D z (X, (f1 + 1, M, o))) 0 0 (MQ below (QC z (some (.int r)) (GG D z (X, (f1 + 1, M, o)))) args s (rmk 4 0 0).cells (rmk 4 0 0).slots (Az z)) 4 4 [(0, .ref (z + aM 0)), (1, .int v1), (2, .int v2), (3, .int v3)] [] := by
  intro n
  induction n with
  | zero =>
    intro v2 v3 hf
    exact none_e hf
  | succ n ih =>
    intro v2 v3 hf
    rw [f_X12_openOf_4] at hf
    refine j_iload_n E 3 rfl dX12_openOf_4 ?_
    refine j_aload_n E 0 rfl dX12_openOf_5 ?_
    refine j_getM (f := 3) E cf_X12 fl_X12_24 (lt_ rfl) rfl rfl dX12_openOf_6 ?_
    refine j_bipush E 7 bp_7 dX12_openOf_9 ?_
    refine j_ialdR E rfl (vi_7 (lt_ rfl)) (7) tn_7 dX12_openOf_11 ?_
    refine j_icmp_ge E 50 (by decide) dX12_openOf_12 (fun c1 => ?_) (fun c1 => ?_)
    · rw [if_pos c1] at hf
      refine j_iload_n E 2 rfl dX12_openOf_50 ?_
      cases hf
      exact j_iret E rfl (le_ rfl) (le_ rfl) dX12_openOf_51
    · rw [if_neg c1] at hf
      refine j_iload_n E 2 rfl dX12_openOf_15 ?_
      refine j_aload_n E 0 rfl dX12_openOf_16 ?_
      refine j_iload_n E 3 rfl dX12_openOf_17 ?_
      obtain ⟨r1, h1, hf⟩ := bn1_e hf
      refine j_invV [.int v2] [.int r1, .int v2] E (c_X12_growerOf h1) ml_X12_206 mv_X12_growerOf rfl ⟨le_ rfl, le_ rfl⟩ (rcM cf_X12) rfl rfl (le_ rfl) ⟨le_ rfl, le_ rfl⟩ dX12_openOf_18 ?_
      refine j_iload_n E 1 rfl dX12_openOf_21 ?_
      refine j_icmp_ne E 41 (by decide) dX12_openOf_22 (fun c2 => ?_) (fun c2 => ?_)
      · rw [if_neg c2] at hf
        refine j_iconst E 0 ic_0 dX12_openOf_41 ?_
        refine j_iadd E dX12_openOf_42 ?_
        obtain ⟨x1, hx1, hf⟩ := bnd_e hf
        refine j_name hx1 ?_
        refine j_istore_n (ls' := [(2, .int x1), (0, .ref (z + aM 0)), (1, .int v1), (3, .int v3)]) E (lt_ rfl) rfl dX12_openOf_43 ?_
        refine j_iinc (ls' := [(3, .int (v3 + 1)), (2, .int x1), (0, .ref (z + aM 0)), (1, .int v1)]) E 3 rfl (lt_ rfl) (v3 + 1) (congrArg (fun q => v3 + q) ic_1) rfl dX12_openOf_44 ?_
        refine j_goto E 4 (by decide) dX12_openOf_47 ?_
        refine j_sub [2, 3, 1, 0] rfl ?_
        exact ih _ _ hf
      · rw [if_pos c2] at hf
        refine j_aload_n E 0 rfl dX12_openOf_25 ?_
        refine j_iload_n E 3 rfl dX12_openOf_26 ?_
        obtain ⟨r2, h2, hf⟩ := bn1_e hf
        refine j_invV [.int v2] [.int r2, .int v2] E (c_X12_isOpen h2) ml_X12_179 mv_X12_isOpen rfl ⟨le_ rfl, le_ rfl⟩ (rcM cf_X12) rfl rfl (le_ rfl) ⟨le_ rfl, le_ rfl⟩ dX12_openOf_27 ?_
        refine j_if_eq E 41 (by decide) dX12_openOf_30 (fun c3 => ?_) (fun c3 => ?_)
        · rw [if_pos c3] at hf
          refine j_iconst E 0 ic_0 dX12_openOf_41 ?_
          refine j_iadd E dX12_openOf_42 ?_
          obtain ⟨x2, hx2, hf⟩ := bnd_e hf
          refine j_name hx2 ?_
          refine j_istore_n (ls' := [(2, .int x2), (0, .ref (z + aM 0)), (1, .int v1), (3, .int v3)]) E (lt_ rfl) rfl dX12_openOf_43 ?_
          refine j_iinc (ls' := [(3, .int (v3 + 1)), (2, .int x2), (0, .ref (z + aM 0)), (1, .int v1)]) E 3 rfl (lt_ rfl) (v3 + 1) (congrArg (fun q => v3 + q) ic_1) rfl dX12_openOf_44 ?_
          refine j_goto E 4 (by decide) dX12_openOf_47 ?_
          refine j_sub [2, 3, 1, 0] rfl ?_
          exact ih _ _ hf
        · rw [if_neg c3] at hf
          refine j_aload_n E 0 rfl dX12_openOf_33 ?_
          refine j_iload_n E 3 rfl dX12_openOf_34 ?_
          obtain ⟨r3, h3, hf⟩ := bn1_e hf
          refine j_invV [.int v2] [.int r3, .int v2] E (c_X12_valueNow h3) ml_X12_203 mv_X12_valueNow rfl ⟨le_ rfl, le_ rfl⟩ (rcM cf_X12) rfl rfl (le_ rfl) ⟨le_ rfl, le_ rfl⟩ dX12_openOf_35 ?_
          refine j_goto E 42 (by decide) dX12_openOf_38 ?_
          refine j_iadd E dX12_openOf_42 ?_
          obtain ⟨x3, hx3, hf⟩ := bnd_e hf
          refine j_name hx3 ?_
          refine j_istore_n (ls' := [(2, .int x3), (0, .ref (z + aM 0)), (1, .int v1), (3, .int v3)]) E (lt_ rfl) rfl dX12_openOf_43 ?_
          refine j_iinc (ls' := [(3, .int (v3 + 1)), (2, .int x3), (0, .ref (z + aM 0)), (1, .int v1)]) E 3 rfl (lt_ rfl) (v3 + 1) (congrArg (fun q => v3 + q) ic_1) rfl dX12_openOf_44 ?_
          refine j_goto E 4 (by decide) dX12_openOf_47 ?_
          refine j_sub [2, 3, 1, 0] rfl ?_
          exact ih _ _ hf
set_option maxRecDepth 20000 in
theorem c_X12_openOf {l : Launch} {D : DD} {z : Nat} {X : XT} {o : Int64} {f1 : Nat} {M : MT} {v1 : Int32} {r : Int32} (hf : f_X12_openOf M v1 = some r) : CC l yX12_openOf cX12_openOf 4 (some .int) (rmk 4 0 0) D z [.ref (z + aM 0), .int v1] (GG D z (X, (f1 + 1, M, o))) (some (.int r)) (GG D z (X, (f1 + 1, M, o))) := by
  unfold f_X12_openOf at hf
  refine cc_of pn_X12 (le_ rfl) (ls := [(0, .ref (z + aM 0)), (1, .int v1)]) rfl ?_
  intro p e s m args below meth c E
  refine j_iconst E 0 ic_0 dX12_openOf_0 ?_
  refine j_istore_n (ls' := [(2, .int 0), (0, .ref (z + aM 0)), (1, .int v1)]) E (lt_ rfl) rfl dX12_openOf_1 ?_
  refine j_iconst E 0 ic_0 dX12_openOf_2 ?_
  refine j_istore_n (ls' := [(3, .int 0), (2, .int 0), (0, .ref (z + aM 0)), (1, .int v1)]) E (lt_ rfl) rfl dX12_openOf_3 ?_
  refine j_sub [2, 3, 1, 0] rfl ?_
  exact b_X12_openOf_4 E 2000 _ _ hf
def f_X12_openLoads_4 (M : MT) (v1 : Int32) : Nat → Int32 → Int32 → Option Int32
  | 0, _, _ => none
  | n + 1, v2, v3 => if (M.1 M.2.2 7) ≤ v3 then (some v2) else (bn1 (f_X12_growerOf M v3) (fun r1 => if r1 = v1 then (bn1 (f_X12_isOpen M v3) (fun r2 => if r2 = 0 then (bnd (v2 + 0) (fun x2 => f_X12_openLoads_4 M v1 n x2 (v3 + 1))) else (bnd (v2 + 1) (fun x3 => f_X12_openLoads_4 M v1 n x3 (v3 + 1))))) else (bnd (v2 + 0) (fun x1 => f_X12_openLoads_4 M v1 n x1 (v3 + 1)))))
def f_X12_openLoads (M : MT) (v1 : Int32) : Option Int32 :=
  f_X12_openLoads_4 M v1 2000 0 0
set_option maxRecDepth 20000 in
theorem b_X12_openLoads_4 {p : Program} {l : Launch} {e : Env} {s : State} {m : MethodId} {args : Array Value} {below : List Frame} {meth : Method} {c : Code} {D : DD} {z : Nat} {X : XT} {o : Int64} {f1 : Nat} {M : MT} {v1 : Int32} (E : Cx p s m args meth c D z RX12 cX12_openLoads 4 (some .int)) {r : Int32} : ∀ (n : Nat) (v2 : Int32) (v3 : Int32) (hf : f_X12_openLoads_4 M v1 n v2 v3 = some r), J p l e (rmk 3 0 0) s m args below meth c D z (GG D z (X, (f1 + 1, M, o))) 0 0 (MQ below (QC z (some (.int r)) (GG D z (X, (f1 + 1, M, o)))) args s (rmk 3 0 0).cells (rmk 3 0 0).slots (Az z)) 4 4 [(0, .ref (z + aM 0)), (1, .int v1), (2, .int v2), (3, .int v3)] [] := by
  intro n
  induction n with
  | zero =>
    intro v2 v3 hf
    exact none_e hf
  | succ n ih =>
    intro v2 v3 hf
    rw [f_X12_openLoads_4] at hf
    refine j_iload_n E 3 rfl dX12_openLoads_4 ?_
    refine j_aload_n E 0 rfl dX12_openLoads_5 ?_
    refine j_getM (f := 3) E cf_X12 fl_X12_24 (lt_ rfl) rfl rfl dX12_openLoads_6 ?_
    refine j_bipush E 7 bp_7 dX12_openLoads_9 ?_
    refine j_ialdR E rfl (vi_7 (lt_ rfl)) (7) tn_7 dX12_openLoads_11 ?_
    refine j_icmp_ge E 46 (by decide) dX12_openLoads_12 (fun c1 => ?_) (fun c1 => ?_)
    · rw [if_pos c1] at hf
      refine j_iload_n E 2 rfl dX12_openLoads_46 ?_
      cases hf
      exact j_iret E rfl (le_ rfl) (le_ rfl) dX12_openLoads_47
    · rw [if_neg c1] at hf
      refine j_iload_n E 2 rfl dX12_openLoads_15 ?_
      refine j_aload_n E 0 rfl dX12_openLoads_16 ?_
      refine j_iload_n E 3 rfl dX12_openLoads_17 ?_
      obtain ⟨r1, h1, hf⟩ := bn1_e hf
      refine j_invV [.int v2] [.int r1, .int v2] E (c_X12_growerOf h1) ml_X12_206 mv_X12_growerOf rfl ⟨le_ rfl, le_ rfl⟩ (rcM cf_X12) rfl rfl (le_ rfl) ⟨le_ rfl, le_ rfl⟩ dX12_openLoads_18 ?_
      refine j_iload_n E 1 rfl dX12_openLoads_21 ?_
      refine j_icmp_ne E 37 (by decide) dX12_openLoads_22 (fun c2 => ?_) (fun c2 => ?_)
      · rw [if_neg c2] at hf
        refine j_iconst E 0 ic_0 dX12_openLoads_37 ?_
        refine j_iadd E dX12_openLoads_38 ?_
        obtain ⟨x1, hx1, hf⟩ := bnd_e hf
        refine j_name hx1 ?_
        refine j_istore_n (ls' := [(2, .int x1), (0, .ref (z + aM 0)), (1, .int v1), (3, .int v3)]) E (lt_ rfl) rfl dX12_openLoads_39 ?_
        refine j_iinc (ls' := [(3, .int (v3 + 1)), (2, .int x1), (0, .ref (z + aM 0)), (1, .int v1)]) E 3 rfl (lt_ rfl) (v3 + 1) (congrArg (fun q => v3 + q) ic_1) rfl dX12_openLoads_40 ?_
        refine j_goto E 4 (by decide) dX12_openLoads_43 ?_
        refine j_sub [2, 3, 1, 0] rfl ?_
        exact ih _ _ hf
      · rw [if_pos c2] at hf
        refine j_aload_n E 0 rfl dX12_openLoads_25 ?_
        refine j_iload_n E 3 rfl dX12_openLoads_26 ?_
        obtain ⟨r2, h2, hf⟩ := bn1_e hf
        refine j_invV [.int v2] [.int r2, .int v2] E (c_X12_isOpen h2) ml_X12_179 mv_X12_isOpen rfl ⟨le_ rfl, le_ rfl⟩ (rcM cf_X12) rfl rfl (le_ rfl) ⟨le_ rfl, le_ rfl⟩ dX12_openLoads_27 ?_
        refine j_if_eq E 37 (by decide) dX12_openLoads_30 (fun c3 => ?_) (fun c3 => ?_)
        · rw [if_pos c3] at hf
          refine j_iconst E 0 ic_0 dX12_openLoads_37 ?_
          refine j_iadd E dX12_openLoads_38 ?_
          obtain ⟨x2, hx2, hf⟩ := bnd_e hf
          refine j_name hx2 ?_
          refine j_istore_n (ls' := [(2, .int x2), (0, .ref (z + aM 0)), (1, .int v1), (3, .int v3)]) E (lt_ rfl) rfl dX12_openLoads_39 ?_
          refine j_iinc (ls' := [(3, .int (v3 + 1)), (2, .int x2), (0, .ref (z + aM 0)), (1, .int v1)]) E 3 rfl (lt_ rfl) (v3 + 1) (congrArg (fun q => v3 + q) ic_1) rfl dX12_openLoads_40 ?_
          refine j_goto E 4 (by decide) dX12_openLoads_43 ?_
          refine j_sub [2, 3, 1, 0] rfl ?_
          exact ih _ _ hf
        · rw [if_neg c3] at hf
          refine j_iconst E 1 ic_1 dX12_openLoads_33 ?_
          refine j_goto E 38 (by decide) dX12_openLoads_34 ?_
          refine j_iadd E dX12_openLoads_38 ?_
          obtain ⟨x3, hx3, hf⟩ := bnd_e hf
          refine j_name hx3 ?_
          refine j_istore_n (ls' := [(2, .int x3), (0, .ref (z + aM 0)), (1, .int v1), (3, .int v3)]) E (lt_ rfl) rfl dX12_openLoads_39 ?_
          refine j_iinc (ls' := [(3, .int (v3 + 1)), (2, .int x3), (0, .ref (z + aM 0)), (1, .int v1)]) E 3 rfl (lt_ rfl) (v3 + 1) (congrArg (fun q => v3 + q) ic_1) rfl dX12_openLoads_40 ?_
          refine j_goto E 4 (by decide) dX12_openLoads_43 ?_
          refine j_sub [2, 3, 1, 0] rfl ?_
          exact ih _ _ hf
set_option maxRecDepth 20000 in
theorem c_X12_openLoads {l : Launch} {D : DD} {z : Nat} {X : XT} {o : Int64} {f1 : Nat} {M : MT} {v1 : Int32} {r : Int32} (hf : f_X12_openLoads M v1 = some r) : CC l yX12_openLoads cX12_openLoads 4 (some .int) (rmk 3 0 0) D z [.ref (z + aM 0), .int v1] (GG D z (X, (f1 + 1, M, o))) (some (.int r)) (GG D z (X, (f1 + 1, M, o))) := by
  unfold f_X12_openLoads at hf
  refine cc_of pn_X12 (le_ rfl) (ls := [(0, .ref (z + aM 0)), (1, .int v1)]) rfl ?_
  intro p e s m args below meth c E
  refine j_iconst E 0 ic_0 dX12_openLoads_0 ?_
  refine j_istore_n (ls' := [(2, .int 0), (0, .ref (z + aM 0)), (1, .int v1)]) E (lt_ rfl) rfl dX12_openLoads_1 ?_
  refine j_iconst E 0 ic_0 dX12_openLoads_2 ?_
  refine j_istore_n (ls' := [(3, .int 0), (2, .int 0), (0, .ref (z + aM 0)), (1, .int v1)]) E (lt_ rfl) rfl dX12_openLoads_3 ?_
  refine j_sub [2, 3, 1, 0] rfl ?_
  exact b_X12_openLoads_4 E 2000 _ _ hf
def f_X12_mayPayGrower (M : MT) (v1 : Int32) : Option Int32 :=
  bn1 (f_X12_openLoads M v1) (fun r1 => if r1 ≤ 0 then (some 0) else (bn1 (f_X12_openOf M v1) (fun r2 => if (M.1 M.2.2 2) < r2 then (some 0) else (some 1))))
set_option maxRecDepth 20000 in
theorem c_X12_mayPayGrower {l : Launch} {D : DD} {z : Nat} {X : XT} {o : Int64} {f1 : Nat} {M : MT} {v1 : Int32} {r : Int32} (hf : f_X12_mayPayGrower M v1 = some r) : CC l yX12_mayPayGrower cX12_mayPayGrower 2 (some .boolean) (rmk 5 0 0) D z [.ref (z + aM 0), .int v1] (GG D z (X, (f1 + 1, M, o))) (some (.int r)) (GG D z (X, (f1 + 1, M, o))) := by
  unfold f_X12_mayPayGrower at hf
  refine cc_of pn_X12 (le_ rfl) (ls := [(0, .ref (z + aM 0)), (1, .int v1)]) rfl ?_
  intro p e s m args below meth c E
  refine j_aload_n E 0 rfl dX12_mayPayGrower_0 ?_
  refine j_iload_n E 1 rfl dX12_mayPayGrower_1 ?_
  obtain ⟨r1, h1, hf⟩ := bn1_e hf
  refine j_invV [] [.int r1] E (c_X12_openLoads h1) ml_X12_209 mv_X12_openLoads rfl ⟨le_ rfl, le_ rfl⟩ (rcM cf_X12) rfl rfl (le_ rfl) ⟨le_ rfl, le_ rfl⟩ dX12_mayPayGrower_2 ?_
  refine j_if_le E 26 (by decide) dX12_mayPayGrower_5 (fun c1 => ?_) (fun c1 => ?_)
  · rw [if_pos c1] at hf
    refine j_iconst E 0 ic_0 dX12_mayPayGrower_26 ?_
    cases hf
    exact j_iret E rfl (le_ rfl) (le_ rfl) dX12_mayPayGrower_27
  · rw [if_neg c1] at hf
    refine j_aload_n E 0 rfl dX12_mayPayGrower_8 ?_
    refine j_iload_n E 1 rfl dX12_mayPayGrower_9 ?_
    obtain ⟨r2, h2, hf⟩ := bn1_e hf
    refine j_invV [] [.int r2] E (c_X12_openOf h2) ml_X12_212 mv_X12_openOf rfl ⟨le_ rfl, le_ rfl⟩ (rcM cf_X12) rfl rfl (le_ rfl) ⟨le_ rfl, le_ rfl⟩ dX12_mayPayGrower_10 ?_
    refine j_aload_n E 0 rfl dX12_mayPayGrower_13 ?_
    refine j_getM (f := 3) E cf_X12 fl_X12_24 (lt_ rfl) rfl rfl dX12_mayPayGrower_14 ?_
    refine j_iconst E 2 ic_2 dX12_mayPayGrower_17 ?_
    refine j_ialdR E rfl (vi_2 (lt_ rfl)) (2) tn_2 dX12_mayPayGrower_18 ?_
    refine j_icmp_gt E 26 (by decide) dX12_mayPayGrower_19 (fun c2 => ?_) (fun c2 => ?_)
    · rw [if_pos c2] at hf
      refine j_iconst E 0 ic_0 dX12_mayPayGrower_26 ?_
      cases hf
      exact j_iret E rfl (le_ rfl) (le_ rfl) dX12_mayPayGrower_27
    · rw [if_neg c2] at hf
      refine j_iconst E 1 ic_1 dX12_mayPayGrower_22 ?_
      refine j_goto E 27 (by decide) dX12_mayPayGrower_23 ?_
      cases hf
      exact j_iret E rfl (le_ rfl) (le_ rfl) dX12_mayPayGrower_27
def f_X12_payAllOf_4 (v1 : Int32) : Nat → MT → Int32 → Int32 → Option (Int32 × MT)
  | 0, _, _, _ => none
  | n + 1, M, v2, v3 => if (M.1 M.2.2 7) ≤ v3 then (some (v2, M)) else (bn1 (f_X12_growerOf M v3) (fun r1 => if r1 = v1 then (bn1 (f_X12_isOpen M v3) (fun r2 => if r2 = 0 then (bnd (v2 + 0) (fun x2 => f_X12_payAllOf_4 v1 n M x2 (v3 + 1))) else (bn2 (f_X12_payNow M v3) (fun r3 M1 => bnd (v2 + r3) (fun x3 => f_X12_payAllOf_4 v1 n M1 x3 (v3 + 1)))))) else (bnd (v2 + 0) (fun x1 => f_X12_payAllOf_4 v1 n M x1 (v3 + 1)))))
def f_X12_payAllOf (M : MT) (v1 : Int32) : Option (Int32 × MT) :=
  f_X12_payAllOf_4 v1 2000 M 0 0
set_option maxRecDepth 20000 in
theorem b_X12_payAllOf_4 {p : Program} {l : Launch} {e : Env} {s : State} {m : MethodId} {args : Array Value} {below : List Frame} {meth : Method} {c : Code} {D : DD} {z : Nat} {X : XT} {o : Int64} {f1 : Nat} {v1 : Int32} (E : Cx p s m args meth c D z RX12 cX12_payAllOf 4 (some .int)) {r : Int32} {M' : MT} : ∀ (n : Nat) (M : MT) (v2 : Int32) (v3 : Int32) (hf : f_X12_payAllOf_4 v1 n M v2 v3 = some (r, M')), J p l e (rmk 5 0 0) s m args below meth c D z (GG D z (X, (f1 + 1, M, o))) 0 0 (MQ below (QC z (some (.int r)) (GG D z (X, (f1 + 1, M', o)))) args s (rmk 5 0 0).cells (rmk 5 0 0).slots (Az z)) 4 4 [(0, .ref (z + aM 0)), (1, .int v1), (2, .int v2), (3, .int v3)] [] := by
  intro n
  induction n with
  | zero =>
    intro M v2 v3 hf
    exact none_e hf
  | succ n ih =>
    intro M v2 v3 hf
    rw [f_X12_payAllOf_4] at hf
    refine j_iload_n E 3 rfl dX12_payAllOf_4 ?_
    refine j_aload_n E 0 rfl dX12_payAllOf_5 ?_
    refine j_getM (f := 3) E cf_X12 fl_X12_24 (lt_ rfl) rfl rfl dX12_payAllOf_6 ?_
    refine j_bipush E 7 bp_7 dX12_payAllOf_9 ?_
    refine j_ialdR E rfl (vi_7 (lt_ rfl)) (7) tn_7 dX12_payAllOf_11 ?_
    refine j_icmp_ge E 50 (by decide) dX12_payAllOf_12 (fun c1 => ?_) (fun c1 => ?_)
    · rw [if_pos c1] at hf
      refine j_iload_n E 2 rfl dX12_payAllOf_50 ?_
      cases hf
      exact j_iret E rfl (le_ rfl) (le_ rfl) dX12_payAllOf_51
    · rw [if_neg c1] at hf
      refine j_iload_n E 2 rfl dX12_payAllOf_15 ?_
      refine j_aload_n E 0 rfl dX12_payAllOf_16 ?_
      refine j_iload_n E 3 rfl dX12_payAllOf_17 ?_
      obtain ⟨r1, h1, hf⟩ := bn1_e hf
      refine j_invV [.int v2] [.int r1, .int v2] E (c_X12_growerOf h1) ml_X12_206 mv_X12_growerOf rfl ⟨le_ rfl, le_ rfl⟩ (rcM cf_X12) rfl rfl (le_ rfl) ⟨le_ rfl, le_ rfl⟩ dX12_payAllOf_18 ?_
      refine j_iload_n E 1 rfl dX12_payAllOf_21 ?_
      refine j_icmp_ne E 41 (by decide) dX12_payAllOf_22 (fun c2 => ?_) (fun c2 => ?_)
      · rw [if_neg c2] at hf
        refine j_iconst E 0 ic_0 dX12_payAllOf_41 ?_
        refine j_iadd E dX12_payAllOf_42 ?_
        obtain ⟨x1, hx1, hf⟩ := bnd_e hf
        refine j_name hx1 ?_
        refine j_istore_n (ls' := [(2, .int x1), (0, .ref (z + aM 0)), (1, .int v1), (3, .int v3)]) E (lt_ rfl) rfl dX12_payAllOf_43 ?_
        refine j_iinc (ls' := [(3, .int (v3 + 1)), (2, .int x1), (0, .ref (z + aM 0)), (1, .int v1)]) E 3 rfl (lt_ rfl) (v3 + 1) (congrArg (fun q => v3 + q) ic_1) rfl dX12_payAllOf_44 ?_
        refine j_goto E 4 (by decide) dX12_payAllOf_47 ?_
        refine j_sub [2, 3, 1, 0] rfl ?_
        exact ih _ _ _ hf
      · rw [if_pos c2] at hf
        refine j_aload_n E 0 rfl dX12_payAllOf_25 ?_
        refine j_iload_n E 3 rfl dX12_payAllOf_26 ?_
        obtain ⟨r2, h2, hf⟩ := bn1_e hf
        refine j_invV [.int v2] [.int r2, .int v2] E (c_X12_isOpen h2) ml_X12_179 mv_X12_isOpen rfl ⟨le_ rfl, le_ rfl⟩ (rcM cf_X12) rfl rfl (le_ rfl) ⟨le_ rfl, le_ rfl⟩ dX12_payAllOf_27 ?_
        refine j_if_eq E 41 (by decide) dX12_payAllOf_30 (fun c3 => ?_) (fun c3 => ?_)
        · rw [if_pos c3] at hf
          refine j_iconst E 0 ic_0 dX12_payAllOf_41 ?_
          refine j_iadd E dX12_payAllOf_42 ?_
          obtain ⟨x2, hx2, hf⟩ := bnd_e hf
          refine j_name hx2 ?_
          refine j_istore_n (ls' := [(2, .int x2), (0, .ref (z + aM 0)), (1, .int v1), (3, .int v3)]) E (lt_ rfl) rfl dX12_payAllOf_43 ?_
          refine j_iinc (ls' := [(3, .int (v3 + 1)), (2, .int x2), (0, .ref (z + aM 0)), (1, .int v1)]) E 3 rfl (lt_ rfl) (v3 + 1) (congrArg (fun q => v3 + q) ic_1) rfl dX12_payAllOf_44 ?_
          refine j_goto E 4 (by decide) dX12_payAllOf_47 ?_
          refine j_sub [2, 3, 1, 0] rfl ?_
          exact ih _ _ _ hf
        · rw [if_neg c3] at hf
          refine j_aload_n E 0 rfl dX12_payAllOf_33 ?_
          refine j_iload_n E 3 rfl dX12_payAllOf_34 ?_
          obtain ⟨r3, M1, h3, hf⟩ := bn2_e hf
          refine j_invV [.int v2] [.int r3, .int v2] E (c_X12_payNow h3) ml_X12_215 mv_X12_payNow rfl ⟨le_ rfl, le_ rfl⟩ (rcM cf_X12) rfl rfl (le_ rfl) ⟨le_ rfl, le_ rfl⟩ dX12_payAllOf_35 ?_
          refine j_goto E 42 (by decide) dX12_payAllOf_38 ?_
          refine j_iadd E dX12_payAllOf_42 ?_
          obtain ⟨x3, hx3, hf⟩ := bnd_e hf
          refine j_name hx3 ?_
          refine j_istore_n (ls' := [(2, .int x3), (0, .ref (z + aM 0)), (1, .int v1), (3, .int v3)]) E (lt_ rfl) rfl dX12_payAllOf_43 ?_
          refine j_iinc (ls' := [(3, .int (v3 + 1)), (2, .int x3), (0, .ref (z + aM 0)), (1, .int v1)]) E 3 rfl (lt_ rfl) (v3 + 1) (congrArg (fun q => v3 + q) ic_1) rfl dX12_payAllOf_44 ?_
          refine j_goto E 4 (by decide) dX12_payAllOf_47 ?_
          refine j_sub [2, 3, 1, 0] rfl ?_
          exact ih _ _ _ hf
set_option maxRecDepth 20000 in
theorem c_X12_payAllOf {l : Launch} {D : DD} {z : Nat} {X : XT} {o : Int64} {f1 : Nat} {M : MT} {v1 : Int32} {r : Int32} {M' : MT} (hf : f_X12_payAllOf M v1 = some (r, M')) : CC l yX12_payAllOf cX12_payAllOf 4 (some .int) (rmk 5 0 0) D z [.ref (z + aM 0), .int v1] (GG D z (X, (f1 + 1, M, o))) (some (.int r)) (GG D z (X, (f1 + 1, M', o))) := by
  unfold f_X12_payAllOf at hf
  refine cc_of pn_X12 (le_ rfl) (ls := [(0, .ref (z + aM 0)), (1, .int v1)]) rfl ?_
  intro p e s m args below meth c E
  refine j_iconst E 0 ic_0 dX12_payAllOf_0 ?_
  refine j_istore_n (ls' := [(2, .int 0), (0, .ref (z + aM 0)), (1, .int v1)]) E (lt_ rfl) rfl dX12_payAllOf_1 ?_
  refine j_iconst E 0 ic_0 dX12_payAllOf_2 ?_
  refine j_istore_n (ls' := [(3, .int 0), (2, .int 0), (0, .ref (z + aM 0)), (1, .int v1)]) E (lt_ rfl) rfl dX12_payAllOf_3 ?_
  refine j_sub [2, 3, 1, 0] rfl ?_
  exact b_X12_payAllOf_4 E 2000 _ _ _ hf
def f_X12_mayPump (M : MT) (v1 : Int32) (v2 : Int32) : Option Int32 :=
  bn1 (f_X12_ofTank M v2 2) (fun r1 => if r1 = (-1) then (bn1 (f_X12_ofTank M v1 1) (fun r2 => if r2 ≤ 0 then (some 0) else (bn1 (f_X12_roomIn M v2) (fun r3 => bn1 (f_X12_ofTank M v1 1) (fun r4 => if r3 < r4 then (some 0) else (some 1)))))) else (bn1 (f_X12_ofTank M v2 2) (fun r5 => bn1 (f_X12_ofTank M v1 2) (fun r6 => if r5 = r6 then (bn1 (f_X12_ofTank M v1 1) (fun r8 => if r8 ≤ 0 then (some 0) else (bn1 (f_X12_roomIn M v2) (fun r9 => bn1 (f_X12_ofTank M v1 1) (fun r10 => if r9 < r10 then (some 0) else (some 1)))))) else (bn1 (f_X12_ofTank M v1 1) (fun r7 => if r7 ≤ 0 then (some 0) else (some 0)))))))
set_option maxRecDepth 20000 in
theorem c_X12_mayPump {l : Launch} {D : DD} {z : Nat} {X : XT} {o : Int64} {f1 : Nat} {M : MT} {v1 : Int32} {v2 : Int32} {r : Int32} (hf : f_X12_mayPump M v1 v2 = some r) : CC l yX12_mayPump cX12_mayPump 4 (some .boolean) (rmk 3 0 0) D z [.ref (z + aM 0), .int v1, .int v2] (GG D z (X, (f1 + 1, M, o))) (some (.int r)) (GG D z (X, (f1 + 1, M, o))) := by
  unfold f_X12_mayPump at hf
  refine cc_of pn_X12 (le_ rfl) (ls := [(0, .ref (z + aM 0)), (1, .int v1), (2, .int v2)]) rfl ?_
  intro p e s m args below meth c E
  refine j_aload_n E 0 rfl dX12_mayPump_0 ?_
  refine j_iload_n E 2 rfl dX12_mayPump_1 ?_
  refine j_iconst E 2 ic_2 dX12_mayPump_2 ?_
  obtain ⟨r1, h1, hf⟩ := bn1_e hf
  refine j_invV [] [.int r1] E (c_X12_ofTank h1) ml_X12_151 mv_X12_ofTank rfl ⟨le_ rfl, le_ rfl⟩ (rcM cf_X12) rfl rfl (le_ rfl) ⟨le_ rfl, le_ rfl⟩ dX12_mayPump_3 ?_
  refine j_iconst E (-1) ic_m1 dX12_mayPump_6 ?_
  refine j_icmp_eq E 25 (by decide) dX12_mayPump_7 (fun c1 => ?_) (fun c1 => ?_)
  · rw [if_pos c1] at hf
    refine j_iconst E 1 ic_1 dX12_mayPump_25 ?_
    refine j_goto E 30 (by decide) dX12_mayPump_26 ?_
    refine j_istore_n (ls' := [(3, .int 1), (0, .ref (z + aM 0)), (1, .int v1), (2, .int v2)]) E (lt_ rfl) rfl dX12_mayPump_30 ?_
    refine j_aload_n E 1 rfl dX12_mayPump_31 ?_
    refine j_iload_n E 2 rfl dX12_mayPump_32 ?_
    refine j_iconst E 1 ic_1 dX12_mayPump_33 ?_
    obtain ⟨r2, h2, hf⟩ := bn1_e hf
    refine j_invV [] [.int r2] E (c_X12_ofTank h2) ml_X12_151 mv_X12_ofTank rfl ⟨le_ rfl, le_ rfl⟩ (rcM cf_X12) rfl rfl (le_ rfl) ⟨le_ rfl, le_ rfl⟩ dX12_mayPump_34 ?_
    refine j_if_le E 62 (by decide) dX12_mayPump_37 (fun c2 => ?_) (fun c2 => ?_)
    · rw [if_pos c2] at hf
      refine j_iconst E 0 ic_0 dX12_mayPump_62 ?_
      cases hf
      exact j_iret E rfl (le_ rfl) (le_ rfl) dX12_mayPump_63
    · rw [if_neg c2] at hf
      refine j_iload_n E 0 rfl dX12_mayPump_40 ?_
      refine j_if_eq E 62 (by decide) dX12_mayPump_41 (fun q => absurd q (by decide)) (fun _ => ?_)
      refine j_aload_n E 1 rfl dX12_mayPump_44 ?_
      refine j_iload_n E 3 rfl dX12_mayPump_45 ?_
      obtain ⟨r3, h3, hf⟩ := bn1_e hf
      refine j_invV [] [.int r3] E (c_X12_roomIn h3) ml_X12_154 mv_X12_roomIn rfl ⟨le_ rfl, le_ rfl⟩ (rcM cf_X12) rfl rfl (le_ rfl) ⟨le_ rfl, le_ rfl⟩ dX12_mayPump_46 ?_
      refine j_aload_n E 1 rfl dX12_mayPump_49 ?_
      refine j_iload_n E 2 rfl dX12_mayPump_50 ?_
      refine j_iconst E 1 ic_1 dX12_mayPump_51 ?_
      obtain ⟨r4, h4, hf⟩ := bn1_e hf
      refine j_invV [.int r3] [.int r4, .int r3] E (c_X12_ofTank h4) ml_X12_151 mv_X12_ofTank rfl ⟨le_ rfl, le_ rfl⟩ (rcM cf_X12) rfl rfl (le_ rfl) ⟨le_ rfl, le_ rfl⟩ dX12_mayPump_52 ?_
      refine j_icmp_lt E 62 (by decide) dX12_mayPump_55 (fun c3 => ?_) (fun c3 => ?_)
      · rw [if_pos c3] at hf
        refine j_iconst E 0 ic_0 dX12_mayPump_62 ?_
        cases hf
        exact j_iret E rfl (le_ rfl) (le_ rfl) dX12_mayPump_63
      · rw [if_neg c3] at hf
        refine j_iconst E 1 ic_1 dX12_mayPump_58 ?_
        refine j_goto E 63 (by decide) dX12_mayPump_59 ?_
        cases hf
        exact j_iret E rfl (le_ rfl) (le_ rfl) dX12_mayPump_63
  · rw [if_neg c1] at hf
    refine j_aload_n E 0 rfl dX12_mayPump_10 ?_
    refine j_iload_n E 2 rfl dX12_mayPump_11 ?_
    refine j_iconst E 2 ic_2 dX12_mayPump_12 ?_
    obtain ⟨r5, h5, hf⟩ := bn1_e hf
    refine j_invV [] [.int r5] E (c_X12_ofTank h5) ml_X12_151 mv_X12_ofTank rfl ⟨le_ rfl, le_ rfl⟩ (rcM cf_X12) rfl rfl (le_ rfl) ⟨le_ rfl, le_ rfl⟩ dX12_mayPump_13 ?_
    refine j_aload_n E 0 rfl dX12_mayPump_16 ?_
    refine j_iload_n E 1 rfl dX12_mayPump_17 ?_
    refine j_iconst E 2 ic_2 dX12_mayPump_18 ?_
    obtain ⟨r6, h6, hf⟩ := bn1_e hf
    refine j_invV [.int r5] [.int r6, .int r5] E (c_X12_ofTank h6) ml_X12_151 mv_X12_ofTank rfl ⟨le_ rfl, le_ rfl⟩ (rcM cf_X12) rfl rfl (le_ rfl) ⟨le_ rfl, le_ rfl⟩ dX12_mayPump_19 ?_
    refine j_icmp_ne E 29 (by decide) dX12_mayPump_22 (fun c4 => ?_) (fun c4 => ?_)
    · rw [if_neg c4] at hf
      refine j_iconst E 0 ic_0 dX12_mayPump_29 ?_
      refine j_istore_n (ls' := [(3, .int 0), (0, .ref (z + aM 0)), (1, .int v1), (2, .int v2)]) E (lt_ rfl) rfl dX12_mayPump_30 ?_
      refine j_aload_n E 1 rfl dX12_mayPump_31 ?_
      refine j_iload_n E 2 rfl dX12_mayPump_32 ?_
      refine j_iconst E 1 ic_1 dX12_mayPump_33 ?_
      obtain ⟨r7, h7, hf⟩ := bn1_e hf
      refine j_invV [] [.int r7] E (c_X12_ofTank h7) ml_X12_151 mv_X12_ofTank rfl ⟨le_ rfl, le_ rfl⟩ (rcM cf_X12) rfl rfl (le_ rfl) ⟨le_ rfl, le_ rfl⟩ dX12_mayPump_34 ?_
      refine j_if_le E 62 (by decide) dX12_mayPump_37 (fun c5 => ?_) (fun c5 => ?_)
      · rw [if_pos c5] at hf
        refine j_iconst E 0 ic_0 dX12_mayPump_62 ?_
        cases hf
        exact j_iret E rfl (le_ rfl) (le_ rfl) dX12_mayPump_63
      · rw [if_neg c5] at hf
        refine j_iload_n E 0 rfl dX12_mayPump_40 ?_
        refine j_if_eq E 62 (by decide) dX12_mayPump_41 (fun _ => ?_) (fun q => absurd q (by decide))
        refine j_iconst E 0 ic_0 dX12_mayPump_62 ?_
        cases hf
        exact j_iret E rfl (le_ rfl) (le_ rfl) dX12_mayPump_63
    · rw [if_pos c4] at hf
      refine j_iconst E 1 ic_1 dX12_mayPump_25 ?_
      refine j_goto E 30 (by decide) dX12_mayPump_26 ?_
      refine j_istore_n (ls' := [(3, .int 1), (0, .ref (z + aM 0)), (1, .int v1), (2, .int v2)]) E (lt_ rfl) rfl dX12_mayPump_30 ?_
      refine j_aload_n E 1 rfl dX12_mayPump_31 ?_
      refine j_iload_n E 2 rfl dX12_mayPump_32 ?_
      refine j_iconst E 1 ic_1 dX12_mayPump_33 ?_
      obtain ⟨r8, h8, hf⟩ := bn1_e hf
      refine j_invV [] [.int r8] E (c_X12_ofTank h8) ml_X12_151 mv_X12_ofTank rfl ⟨le_ rfl, le_ rfl⟩ (rcM cf_X12) rfl rfl (le_ rfl) ⟨le_ rfl, le_ rfl⟩ dX12_mayPump_34 ?_
      refine j_if_le E 62 (by decide) dX12_mayPump_37 (fun c6 => ?_) (fun c6 => ?_)
      · rw [if_pos c6] at hf
        refine j_iconst E 0 ic_0 dX12_mayPump_62 ?_
        cases hf
        exact j_iret E rfl (le_ rfl) (le_ rfl) dX12_mayPump_63
      · rw [if_neg c6] at hf
        refine j_iload_n E 0 rfl dX12_mayPump_40 ?_
        refine j_if_eq E 62 (by decide) dX12_mayPump_41 (fun q => absurd q (by decide)) (fun _ => ?_)
        refine j_aload_n E 1 rfl dX12_mayPump_44 ?_
        refine j_iload_n E 3 rfl dX12_mayPump_45 ?_
        obtain ⟨r9, h9, hf⟩ := bn1_e hf
        refine j_invV [] [.int r9] E (c_X12_roomIn h9) ml_X12_154 mv_X12_roomIn rfl ⟨le_ rfl, le_ rfl⟩ (rcM cf_X12) rfl rfl (le_ rfl) ⟨le_ rfl, le_ rfl⟩ dX12_mayPump_46 ?_
        refine j_aload_n E 1 rfl dX12_mayPump_49 ?_
        refine j_iload_n E 2 rfl dX12_mayPump_50 ?_
        refine j_iconst E 1 ic_1 dX12_mayPump_51 ?_
        obtain ⟨r10, h10, hf⟩ := bn1_e hf
        refine j_invV [.int r9] [.int r10, .int r9] E (c_X12_ofTank h10) ml_X12_151 mv_X12_ofTank rfl ⟨le_ rfl, le_ rfl⟩ (rcM cf_X12) rfl rfl (le_ rfl) ⟨le_ rfl, le_ rfl⟩ dX12_mayPump_52 ?_
        refine j_icmp_lt E 62 (by decide) dX12_mayPump_55 (fun c7 => ?_) (fun c7 => ?_)
        · rw [if_pos c7] at hf
          refine j_iconst E 0 ic_0 dX12_mayPump_62 ?_
          cases hf
          exact j_iret E rfl (le_ rfl) (le_ rfl) dX12_mayPump_63
        · rw [if_neg c7] at hf
          refine j_iconst E 1 ic_1 dX12_mayPump_58 ?_
          refine j_goto E 63 (by decide) dX12_mayPump_59 ?_
          cases hf
          exact j_iret E rfl (le_ rfl) (le_ rfl) dX12_mayPump_63
def f_X12_pumpNow (M : MT) (v1 : Int32) (v2 : Int32) : Option (Int32 × MT) :=
  bn1 (f_X12_ofTank M v1 2) (fun r1 => bn1 (f_X12_setTank M v2 2 r1) (fun M1 => bn1 (f_X12_ofTank M1 v2 1) (fun r2 => bn1 (f_X12_ofTank M1 v1 1) (fun r3 => bn1 (f_X12_setTank M1 v2 1 (r2 + r3)) (fun M2 => bn1 (f_X12_ofTank M2 v2 3) (fun r4 => bn1 (f_X12_ofTank M2 v1 3) (fun r5 => bn1 (f_X12_setTank M2 v2 3 (r4 + r5)) (fun M3 => bn1 (f_X12_empty M3 v1) (fun M4 => bn1 (f_X12_ofTank M4 v2 1) (fun r6 => some (r6, M4)))))))))))
set_option maxRecDepth 20000 in
theorem c_X12_pumpNow {l : Launch} {D : DD} {z : Nat} {X : XT} {o : Int64} {f1 : Nat} {M : MT} {v1 : Int32} {v2 : Int32} {r : Int32} {M' : MT} (hf : f_X12_pumpNow M v1 v2 = some (r, M')) : CC l yX12_pumpNow cX12_pumpNow 3 (some .int) (rmk 3 0 0) D z [.ref (z + aM 0), .int v1, .int v2] (GG D z (X, (f1 + 1, M, o))) (some (.int r)) (GG D z (X, (f1 + 1, M', o))) := by
  unfold f_X12_pumpNow at hf
  refine cc_of pn_X12 (le_ rfl) (ls := [(0, .ref (z + aM 0)), (1, .int v1), (2, .int v2)]) rfl ?_
  intro p e s m args below meth c E
  refine j_aload_n E 0 rfl dX12_pumpNow_0 ?_
  refine j_iload_n E 2 rfl dX12_pumpNow_1 ?_
  refine j_iconst E 2 ic_2 dX12_pumpNow_2 ?_
  refine j_aload_n E 0 rfl dX12_pumpNow_3 ?_
  refine j_iload_n E 1 rfl dX12_pumpNow_4 ?_
  refine j_iconst E 2 ic_2 dX12_pumpNow_5 ?_
  obtain ⟨r1, h1, hf⟩ := bn1_e hf
  refine j_invV [.int 2, .int v2, .ref (z + aM 0)] [.int r1, .int 2, .int v2, .ref (z + aM 0)] E (c_X12_ofTank h1) ml_X12_151 mv_X12_ofTank rfl ⟨le_ rfl, le_ rfl⟩ (rcM cf_X12) rfl rfl (le_ rfl) ⟨le_ rfl, le_ rfl⟩ dX12_pumpNow_6 ?_
  obtain ⟨M1, h2, hf⟩ := bn1_e hf
  refine j_invV [] [] E (c_X12_setTank h2) ml_X12_141 mv_X12_setTank rfl ⟨le_ rfl, le_ rfl⟩ (rcM cf_X12) rfl rfl (le_ rfl) ⟨le_ rfl, le_ rfl⟩ dX12_pumpNow_9 ?_
  refine j_aload_n E 0 rfl dX12_pumpNow_12 ?_
  refine j_iload_n E 2 rfl dX12_pumpNow_13 ?_
  refine j_iconst E 1 ic_1 dX12_pumpNow_14 ?_
  refine j_aload_n E 0 rfl dX12_pumpNow_15 ?_
  refine j_iload_n E 2 rfl dX12_pumpNow_16 ?_
  refine j_iconst E 1 ic_1 dX12_pumpNow_17 ?_
  obtain ⟨r2, h3, hf⟩ := bn1_e hf
  refine j_invV [.int 1, .int v2, .ref (z + aM 0)] [.int r2, .int 1, .int v2, .ref (z + aM 0)] E (c_X12_ofTank h3) ml_X12_151 mv_X12_ofTank rfl ⟨le_ rfl, le_ rfl⟩ (rcM cf_X12) rfl rfl (le_ rfl) ⟨le_ rfl, le_ rfl⟩ dX12_pumpNow_18 ?_
  refine j_aload_n E 0 rfl dX12_pumpNow_21 ?_
  refine j_iload_n E 1 rfl dX12_pumpNow_22 ?_
  refine j_iconst E 1 ic_1 dX12_pumpNow_23 ?_
  obtain ⟨r3, h4, hf⟩ := bn1_e hf
  refine j_invV [.int r2, .int 1, .int v2, .ref (z + aM 0)] [.int r3, .int r2, .int 1, .int v2, .ref (z + aM 0)] E (c_X12_ofTank h4) ml_X12_151 mv_X12_ofTank rfl ⟨le_ rfl, le_ rfl⟩ (rcM cf_X12) rfl rfl (le_ rfl) ⟨le_ rfl, le_ rfl⟩ dX12_pumpNow_24 ?_
  refine j_iadd E dX12_pumpNow_27 ?_
  obtain ⟨M2, h5, hf⟩ := bn1_e hf
  refine j_invV [] [] E (c_X12_setTank h5) ml_X12_141 mv_X12_setTank rfl ⟨le_ rfl, le_ rfl⟩ (rcM cf_X12) rfl rfl (le_ rfl) ⟨le_ rfl, le_ rfl⟩ dX12_pumpNow_28 ?_
  refine j_aload_n E 0 rfl dX12_pumpNow_31 ?_
  refine j_iload_n E 2 rfl dX12_pumpNow_32 ?_
  refine j_iconst E 3 ic_3 dX12_pumpNow_33 ?_
  refine j_aload_n E 0 rfl dX12_pumpNow_34 ?_
  refine j_iload_n E 2 rfl dX12_pumpNow_35 ?_
  refine j_iconst E 3 ic_3 dX12_pumpNow_36 ?_
  obtain ⟨r4, h6, hf⟩ := bn1_e hf
  refine j_invV [.int 3, .int v2, .ref (z + aM 0)] [.int r4, .int 3, .int v2, .ref (z + aM 0)] E (c_X12_ofTank h6) ml_X12_151 mv_X12_ofTank rfl ⟨le_ rfl, le_ rfl⟩ (rcM cf_X12) rfl rfl (le_ rfl) ⟨le_ rfl, le_ rfl⟩ dX12_pumpNow_37 ?_
  refine j_aload_n E 0 rfl dX12_pumpNow_40 ?_
  refine j_iload_n E 1 rfl dX12_pumpNow_41 ?_
  refine j_iconst E 3 ic_3 dX12_pumpNow_42 ?_
  obtain ⟨r5, h7, hf⟩ := bn1_e hf
  refine j_invV [.int r4, .int 3, .int v2, .ref (z + aM 0)] [.int r5, .int r4, .int 3, .int v2, .ref (z + aM 0)] E (c_X12_ofTank h7) ml_X12_151 mv_X12_ofTank rfl ⟨le_ rfl, le_ rfl⟩ (rcM cf_X12) rfl rfl (le_ rfl) ⟨le_ rfl, le_ rfl⟩ dX12_pumpNow_43 ?_
  refine j_iadd E dX12_pumpNow_46 ?_
  obtain ⟨M3, h8, hf⟩ := bn1_e hf
  refine j_invV [] [] E (c_X12_setTank h8) ml_X12_141 mv_X12_setTank rfl ⟨le_ rfl, le_ rfl⟩ (rcM cf_X12) rfl rfl (le_ rfl) ⟨le_ rfl, le_ rfl⟩ dX12_pumpNow_47 ?_
  refine j_aload_n E 0 rfl dX12_pumpNow_50 ?_
  refine j_iload_n E 1 rfl dX12_pumpNow_51 ?_
  obtain ⟨M4, h9, hf⟩ := bn1_e hf
  refine j_invV [] [] E (c_X12_empty h9) ml_X12_195 mv_X12_empty rfl ⟨le_ rfl, le_ rfl⟩ (rcM cf_X12) rfl rfl (le_ rfl) ⟨le_ rfl, le_ rfl⟩ dX12_pumpNow_52 ?_
  refine j_aload_n E 0 rfl dX12_pumpNow_55 ?_
  refine j_iload_n E 2 rfl dX12_pumpNow_56 ?_
  refine j_iconst E 1 ic_1 dX12_pumpNow_57 ?_
  obtain ⟨r6, h10, hf⟩ := bn1_e hf
  refine j_invV [] [.int r6] E (c_X12_ofTank h10) ml_X12_151 mv_X12_ofTank rfl ⟨le_ rfl, le_ rfl⟩ (rcM cf_X12) rfl rfl (le_ rfl) ⟨le_ rfl, le_ rfl⟩ dX12_pumpNow_58 ?_
  cases hf
  exact j_iret E rfl (le_ rfl) (le_ rfl) dX12_pumpNow_61
def f_X12_byteAt (M : MT) (v1 : Int32) : Option Int32 :=
  if (M.1 0 5) ≤ v1 then (some (-1)) else (gd (¬ (v1 < 0 ∨ 600 ≤ v1.toNatClampNeg)) (some ((M.1 3 v1.toNatClampNeg) &&& 255)))
set_option maxRecDepth 20000 in
theorem c_X12_byteAt {l : Launch} {D : DD} {z : Nat} {X : XT} {o : Int64} {f1 : Nat} {M : MT} {v1 : Int32} {r : Int32} (hf : f_X12_byteAt M v1 = some r) : CC l yX12_byteAt cX12_byteAt 2 (some .int) (rmk 1 0 0) D z [.ref (z + aM 0), .int v1] (GG D z (X, (f1 + 1, M, o))) (some (.int r)) (GG D z (X, (f1 + 1, M, o))) := by
  unfold f_X12_byteAt at hf
  refine cc_of pn_X12 (le_ rfl) (ls := [(0, .ref (z + aM 0)), (1, .int v1)]) rfl ?_
  intro p e s m args below meth c E
  refine j_iload_n E 1 rfl dX12_byteAt_0 ?_
  refine j_aload_n E 0 rfl dX12_byteAt_1 ?_
  refine j_getM (f := 5) E cf_X12 fl_X12_218 (lt_ rfl) rfl rfl dX12_byteAt_2 ?_
  refine j_icmp_ge E 21 (by decide) dX12_byteAt_5 (fun c1 => ?_) (fun c1 => ?_)
  · rw [if_pos c1] at hf
    refine j_iconst E (-1) ic_m1 dX12_byteAt_21 ?_
    cases hf
    exact j_iret E rfl (le_ rfl) (le_ rfl) dX12_byteAt_22
  · rw [if_neg c1] at hf
    refine j_aload_n E 0 rfl dX12_byteAt_8 ?_
    refine j_getM (f := 4) E cf_X12 fl_X12_27 (lt_ rfl) rfl rfl dX12_byteAt_9 ?_
    refine j_iload_n E 1 rfl dX12_byteAt_12 ?_
    obtain ⟨g1, hf⟩ := gd_e hf
    refine j_baldM E (lt_ rfl) entM3 g1 (v1.toNatClampNeg) rfl dX12_byteAt_13 ?_
    refine j_sipush E 255 sp_255 dX12_byteAt_14 ?_
    refine j_iand E dX12_byteAt_17 ?_
    refine j_goto E 22 (by decide) dX12_byteAt_18 ?_
    cases hf
    exact j_iret E rfl (le_ rfl) (le_ rfl) dX12_byteAt_22
def f_X12_isLetter (v0 : Int32) : Option Int32 :=
  if v0 < 97 then (some 0) else (if 122 < v0 then (some 0) else (some 1))
set_option maxRecDepth 20000 in
theorem c_X12_isLetter {l : Launch} {D : DD} {z : Nat} {P0 : Heap → Prop} {v0 : Int32} {r : Int32} (hf : f_X12_isLetter v0 = some r) : CC l yX12_isLetter cX12_isLetter 1 (some .boolean) (rmk 1 0 0) D z [.int v0] P0 (some (.int r)) P0 := by
  unfold f_X12_isLetter at hf
  refine cc_of pn_X12 (le_ rfl) (ls := [(0, .int v0)]) rfl ?_
  intro p e s m args below meth c E
  refine j_iload_n E 0 rfl dX12_isLetter_0 ?_
  refine j_bipush E 97 bp_97 dX12_isLetter_1 ?_
  refine j_icmp_lt E 16 (by decide) dX12_isLetter_3 (fun c1 => ?_) (fun c1 => ?_)
  · rw [if_pos c1] at hf
    refine j_iconst E 0 ic_0 dX12_isLetter_16 ?_
    cases hf
    exact j_iret E rfl (le_ rfl) (le_ rfl) dX12_isLetter_17
  · rw [if_neg c1] at hf
    refine j_iload_n E 0 rfl dX12_isLetter_6 ?_
    refine j_bipush E 122 bp_122 dX12_isLetter_7 ?_
    refine j_icmp_gt E 16 (by decide) dX12_isLetter_9 (fun c2 => ?_) (fun c2 => ?_)
    · rw [if_pos c2] at hf
      refine j_iconst E 0 ic_0 dX12_isLetter_16 ?_
      cases hf
      exact j_iret E rfl (le_ rfl) (le_ rfl) dX12_isLetter_17
    · rw [if_neg c2] at hf
      refine j_iconst E 1 ic_1 dX12_isLetter_12 ?_
      refine j_goto E 17 (by decide) dX12_isLetter_13 ?_
      cases hf
      exact j_iret E rfl (le_ rfl) (le_ rfl) dX12_isLetter_17
def f_X12_isDigit (v0 : Int32) : Option Int32 :=
  if v0 < 48 then (some 0) else (if 57 < v0 then (some 0) else (some 1))
set_option maxRecDepth 20000 in
theorem c_X12_isDigit {l : Launch} {D : DD} {z : Nat} {P0 : Heap → Prop} {v0 : Int32} {r : Int32} (hf : f_X12_isDigit v0 = some r) : CC l yX12_isDigit cX12_isDigit 1 (some .boolean) (rmk 1 0 0) D z [.int v0] P0 (some (.int r)) P0 := by
  unfold f_X12_isDigit at hf
  refine cc_of pn_X12 (le_ rfl) (ls := [(0, .int v0)]) rfl ?_
  intro p e s m args below meth c E
  refine j_iload_n E 0 rfl dX12_isDigit_0 ?_
  refine j_bipush E 48 bp_48 dX12_isDigit_1 ?_
  refine j_icmp_lt E 16 (by decide) dX12_isDigit_3 (fun c1 => ?_) (fun c1 => ?_)
  · rw [if_pos c1] at hf
    refine j_iconst E 0 ic_0 dX12_isDigit_16 ?_
    cases hf
    exact j_iret E rfl (le_ rfl) (le_ rfl) dX12_isDigit_17
  · rw [if_neg c1] at hf
    refine j_iload_n E 0 rfl dX12_isDigit_6 ?_
    refine j_bipush E 57 bp_57 dX12_isDigit_7 ?_
    refine j_icmp_gt E 16 (by decide) dX12_isDigit_9 (fun c2 => ?_) (fun c2 => ?_)
    · rw [if_pos c2] at hf
      refine j_iconst E 0 ic_0 dX12_isDigit_16 ?_
      cases hf
      exact j_iret E rfl (le_ rfl) (le_ rfl) dX12_isDigit_17
    · rw [if_neg c2] at hf
      refine j_iconst E 1 ic_1 dX12_isDigit_12 ?_
      refine j_goto E 17 (by decide) dX12_isDigit_13 ?_
      cases hf
      exact j_iret E rfl (le_ rfl) (le_ rfl) dX12_isDigit_17
def f_X12_goOn_188 : Nat → MT → Option MT
  | 0, _ => none
  | n + 1, M => bn1 (f_X12_byteAt M (M.1 0 6)) (fun r1 => bn1 (f_X12_isDigit r1) (fun r2 => if r2 = 0 then (some M) else (if (M.1 0 11) ≤ 99999 then (bn1 (f_X12_byteAt M (M.1 0 6)) (fun r3 => bnd (mi M 0 11 (((10 * (M.1 0 11)) + r3) - 48)) (fun M1 => bnd (mi M1 0 6 ((M1.1 0 6) + 1)) (fun M2 => f_X12_goOn_188 n M2)))) else (bnd (mi M 0 11 999999) (fun M3 => bnd (mi M3 0 6 ((M3.1 0 6) + 1)) (fun M4 => f_X12_goOn_188 n M4))))))
def f_X12_goOn_96 : Nat → MT → Option MT
  | 0, _ => none
  | n + 1, M => bn1 (f_X12_byteAt M (M.1 0 6)) (fun r1 => bn1 (f_X12_isLetter r1) (fun r2 => if r2 = 0 then (some M) else (if 12 ≤ (M.1 0 9) then (bnd (ml M 10 (-1)) (fun M1 => bnd (mi M1 0 9 ((M1.1 0 9) + 1)) (fun M2 => bnd (mi M2 0 6 ((M2.1 0 6) + 1)) (fun M3 => f_X12_goOn_96 n M3)))) else (bn1 (f_X12_byteAt M (M.1 0 6)) (fun r3 => bnd (ml M 10 ((((27 * (M.2.1 10)) + (r3.toInt64)) - 97) + 1)) (fun M4 => bnd (mi M4 0 9 ((M4.1 0 9) + 1)) (fun M5 => bnd (mi M5 0 6 ((M5.1 0 6) + 1)) (fun M6 => f_X12_goOn_96 n M6))))))))
def f_X12_goOn_0 : Nat → MT → Option MT
  | 0, _ => none
  | n + 1, M => bn1 (f_X12_byteAt M (M.1 0 6)) (fun r1 => if r1 = 32 then (bnd (mi M 0 6 ((M.1 0 6) + 1)) (fun M1 => f_X12_goOn_0 n M1)) else (bn1 (f_X12_byteAt M (M.1 0 6)) (fun r2 => if r2 = 10 then (bnd (mi M 0 6 ((M.1 0 6) + 1)) (fun M12 => f_X12_goOn_0 n M12)) else (bnd (mi M 0 8 (M.1 0 6)) (fun M2 => bnd (mi M2 0 9 0) (fun M3 => bnd (ml M3 10 0) (fun M4 => bnd (mi M4 0 11 0) (fun M5 => bn1 (f_X12_byteAt M5 (M5.1 0 6)) (fun r3 => if r3 = (-1) then (bnd (mi M5 0 7 0) (fun M11 => some M11)) else (bn1 (f_X12_isLetter r3) (fun r4 => if r4 = 0 then (bn1 (f_X12_isDigit r3) (fun r5 => if r5 = 0 then (bnd (mi M5 0 7 3) (fun M6 => bnd (mi M6 0 11 r3) (fun M7 => bnd (mi M7 0 6 ((M7.1 0 6) + 1)) (fun M8 => some M8)))) else (bnd (mi M5 0 7 2) (fun M9 => f_X12_goOn_188 2000 M9)))) else (bnd (mi M5 0 7 1) (fun M10 => f_X12_goOn_96 2000 M10)))))))))))))
def f_X12_goOn (M : MT) : Option MT :=
  f_X12_goOn_0 2000 M
set_option maxRecDepth 20000 in
theorem b_X12_goOn_188 {p : Program} {l : Launch} {e : Env} {s : State} {m : MethodId} {args : Array Value} {below : List Frame} {meth : Method} {c : Code} {D : DD} {z : Nat} {X : XT} {o : Int64} {f1 : Nat} (E : Cx p s m args meth c D z RX12 cX12_goOn 2 none) {M' : MT} : ∀ (n : Nat) (M : MT) (hf : f_X12_goOn_188 n M = some M'), J p l e (rmk 2 0 0) s m args below meth c D z (GG D z (X, (f1 + 1, M, o))) 0 0 (MQ below (QC z none (GG D z (X, (f1 + 1, M', o)))) args s (rmk 2 0 0).cells (rmk 2 0 0).slots (Az z)) 2 188 [(0, .ref (z + aM 0))] [] := by
  intro n
  induction n with
  | zero =>
    intro M hf
    exact none_e hf
  | succ n ih =>
    intro M hf
    rw [f_X12_goOn_188] at hf
    refine j_aload_n E 0 rfl dX12_goOn_188 ?_
    refine j_aload_n E 0 rfl dX12_goOn_189 ?_
    refine j_getM (f := 6) E cf_X12 fl_X12_221 (lt_ rfl) rfl rfl dX12_goOn_190 ?_
    obtain ⟨r1, h1, hf⟩ := bn1_e hf
    refine j_invV [] [.int r1] E (c_X12_byteAt h1) ml_X12_224 mv_X12_byteAt rfl ⟨le_ rfl, le_ rfl⟩ (rcM cf_X12) rfl rfl (le_ rfl) ⟨le_ rfl, le_ rfl⟩ dX12_goOn_193 ?_
    obtain ⟨r2, h2, hf⟩ := bn1_e hf
    refine j_invS [] [.int r2] E (c_X12_isDigit h2) ml_X12_251 ms_X12_isDigit rfl ⟨le_ rfl, le_ rfl⟩ rfl rfl (le_ rfl) ⟨le_ rfl, le_ rfl⟩ dX12_goOn_196 ?_
    refine j_if_eq E 272 (by decide) dX12_goOn_199 (fun c1 => ?_) (fun c1 => ?_)
    · rw [if_pos c1] at hf
      cases hf
      exact j_vret E (le_ rfl) (le_ rfl) dX12_goOn_272
    · rw [if_neg c1] at hf
      refine j_aload_n E 0 rfl dX12_goOn_202 ?_
      refine j_aload_n E 0 rfl dX12_goOn_203 ?_
      refine j_getM (f := 11) E cf_X12 fl_X12_236 (lt_ rfl) rfl rfl dX12_goOn_204 ?_
      refine j_ldc E ct_X12_254 dX12_goOn_207 ?_
      refine j_icmp_le E 217 (by decide) dX12_goOn_209 (fun c2 => ?_) (fun c2 => ?_)
      · rw [if_pos c2] at hf
        refine j_bipush E 10 bp_10 dX12_goOn_217 ?_
        refine j_aload_n E 0 rfl dX12_goOn_219 ?_
        refine j_getM (f := 11) E cf_X12 fl_X12_236 (lt_ rfl) rfl rfl dX12_goOn_220 ?_
        refine j_imul E dX12_goOn_223 ?_
        refine j_aload_n E 0 rfl dX12_goOn_224 ?_
        refine j_aload_n E 0 rfl dX12_goOn_225 ?_
        refine j_getM (f := 6) E cf_X12 fl_X12_221 (lt_ rfl) rfl rfl dX12_goOn_226 ?_
        obtain ⟨r3, h3, hf⟩ := bn1_e hf
        refine j_invV [.int (10 * (M.1 0 11)), .ref (z + aM 0)] [.int r3, .int (10 * (M.1 0 11)), .ref (z + aM 0)] E (c_X12_byteAt h3) ml_X12_224 mv_X12_byteAt rfl ⟨le_ rfl, le_ rfl⟩ (rcM cf_X12) rfl rfl (le_ rfl) ⟨le_ rfl, le_ rfl⟩ dX12_goOn_229 ?_
        refine j_iadd E dX12_goOn_232 ?_
        refine j_bipush E 48 bp_48 dX12_goOn_233 ?_
        refine j_isub E dX12_goOn_235 ?_
        obtain ⟨M1, hM1, hf⟩ := bnd_e hf
        refine j_putM (f := 11) E cf_X12 fl_X12_236 (lt_ rfl) ⟨rfl, rfl⟩ (fit_i _) (lt_ rfl) peM_11 hM1 dX12_goOn_236 ?_
        refine j_aload_n E 0 rfl dX12_goOn_239 ?_
        refine j_dup E rfl dX12_goOn_240 ?_
        refine j_getM (f := 6) E cf_X12 fl_X12_221 (lt_ rfl) rfl rfl dX12_goOn_241 ?_
        refine j_iconst E 1 ic_1 dX12_goOn_244 ?_
        refine j_iadd E dX12_goOn_245 ?_
        obtain ⟨M2, hM2, hf⟩ := bnd_e hf
        refine j_putM (f := 6) E cf_X12 fl_X12_221 (lt_ rfl) ⟨rfl, rfl⟩ (fit_i _) (lt_ rfl) peM_6 hM2 dX12_goOn_246 ?_
        refine j_goto E 188 (by decide) dX12_goOn_249 ?_
        exact ih _ hf
      · rw [if_neg c2] at hf
        refine j_ldc E ct_X12_255 dX12_goOn_212 ?_
        refine j_goto E 236 (by decide) dX12_goOn_214 ?_
        obtain ⟨M3, hM3, hf⟩ := bnd_e hf
        refine j_putM (f := 11) E cf_X12 fl_X12_236 (lt_ rfl) ⟨rfl, rfl⟩ (fit_i _) (lt_ rfl) peM_11 hM3 dX12_goOn_236 ?_
        refine j_aload_n E 0 rfl dX12_goOn_239 ?_
        refine j_dup E rfl dX12_goOn_240 ?_
        refine j_getM (f := 6) E cf_X12 fl_X12_221 (lt_ rfl) rfl rfl dX12_goOn_241 ?_
        refine j_iconst E 1 ic_1 dX12_goOn_244 ?_
        refine j_iadd E dX12_goOn_245 ?_
        obtain ⟨M4, hM4, hf⟩ := bnd_e hf
        refine j_putM (f := 6) E cf_X12 fl_X12_221 (lt_ rfl) ⟨rfl, rfl⟩ (fit_i _) (lt_ rfl) peM_6 hM4 dX12_goOn_246 ?_
        refine j_goto E 188 (by decide) dX12_goOn_249 ?_
        exact ih _ hf
set_option maxRecDepth 20000 in
theorem b_X12_goOn_96 {p : Program} {l : Launch} {e : Env} {s : State} {m : MethodId} {args : Array Value} {below : List Frame} {meth : Method} {c : Code} {D : DD} {z : Nat} {X : XT} {o : Int64} {f1 : Nat} (E : Cx p s m args meth c D z RX12 cX12_goOn 2 none) {M' : MT} : ∀ (n : Nat) (M : MT) (hf : f_X12_goOn_96 n M = some M'), J p l e (rmk 2 0 0) s m args below meth c D z (GG D z (X, (f1 + 1, M, o))) 0 0 (MQ below (QC z none (GG D z (X, (f1 + 1, M', o)))) args s (rmk 2 0 0).cells (rmk 2 0 0).slots (Az z)) 2 96 [(0, .ref (z + aM 0))] [] := by
  intro n
  induction n with
  | zero =>
    intro M hf
    exact none_e hf
  | succ n ih =>
    intro M hf
    rw [f_X12_goOn_96] at hf
    refine j_aload_n E 0 rfl dX12_goOn_96 ?_
    refine j_aload_n E 0 rfl dX12_goOn_97 ?_
    refine j_getM (f := 6) E cf_X12 fl_X12_221 (lt_ rfl) rfl rfl dX12_goOn_98 ?_
    obtain ⟨r1, h1, hf⟩ := bn1_e hf
    refine j_invV [] [.int r1] E (c_X12_byteAt h1) ml_X12_224 mv_X12_byteAt rfl ⟨le_ rfl, le_ rfl⟩ (rcM cf_X12) rfl rfl (le_ rfl) ⟨le_ rfl, le_ rfl⟩ dX12_goOn_101 ?_
    obtain ⟨r2, h2, hf⟩ := bn1_e hf
    refine j_invS [] [.int r2] E (c_X12_isLetter h2) ml_X12_242 ms_X12_isLetter rfl ⟨le_ rfl, le_ rfl⟩ rfl rfl (le_ rfl) ⟨le_ rfl, le_ rfl⟩ dX12_goOn_104 ?_
    refine j_if_eq E 272 (by decide) dX12_goOn_107 (fun c1 => ?_) (fun c1 => ?_)
    · rw [if_pos c1] at hf
      cases hf
      exact j_vret E (le_ rfl) (le_ rfl) dX12_goOn_272
    · rw [if_neg c1] at hf
      refine j_aload_n E 0 rfl dX12_goOn_110 ?_
      refine j_aload_n E 0 rfl dX12_goOn_111 ?_
      refine j_getM (f := 9) E cf_X12 fl_X12_230 (lt_ rfl) rfl rfl dX12_goOn_112 ?_
      refine j_bipush E 12 bp_12 dX12_goOn_115 ?_
      refine j_icmp_ge E 147 (by decide) dX12_goOn_117 (fun c2 => ?_) (fun c2 => ?_)
      · rw [if_pos c2] at hf
        refine j_ldc2 E ct_X12_249 dX12_goOn_147 ?_
        obtain ⟨M1, hM1, hf⟩ := bnd_e hf
        refine j_putMl (f := 10) E cf_X12 fl_X12_233 (lt_ rfl) ⟨rfl, rfl⟩ ⟨rfl, rfl⟩ (lt_ rfl) peMl_10 hM1 dX12_goOn_150 ?_
        refine j_aload_n E 0 rfl dX12_goOn_153 ?_
        refine j_dup E rfl dX12_goOn_154 ?_
        refine j_getM (f := 9) E cf_X12 fl_X12_230 (lt_ rfl) rfl rfl dX12_goOn_155 ?_
        refine j_iconst E 1 ic_1 dX12_goOn_158 ?_
        refine j_iadd E dX12_goOn_159 ?_
        obtain ⟨M2, hM2, hf⟩ := bnd_e hf
        refine j_putM (f := 9) E cf_X12 fl_X12_230 (lt_ rfl) ⟨rfl, rfl⟩ (fit_i _) (lt_ rfl) peM_9 hM2 dX12_goOn_160 ?_
        refine j_aload_n E 0 rfl dX12_goOn_163 ?_
        refine j_dup E rfl dX12_goOn_164 ?_
        refine j_getM (f := 6) E cf_X12 fl_X12_221 (lt_ rfl) rfl rfl dX12_goOn_165 ?_
        refine j_iconst E 1 ic_1 dX12_goOn_168 ?_
        refine j_iadd E dX12_goOn_169 ?_
        obtain ⟨M3, hM3, hf⟩ := bnd_e hf
        refine j_putM (f := 6) E cf_X12 fl_X12_221 (lt_ rfl) ⟨rfl, rfl⟩ (fit_i _) (lt_ rfl) peM_6 hM3 dX12_goOn_170 ?_
        refine j_goto E 96 (by decide) dX12_goOn_173 ?_
        exact ih _ hf
      · rw [if_neg c2] at hf
        refine j_ldc2 E ct_X12_245 dX12_goOn_120 ?_
        refine j_aload_n E 0 rfl dX12_goOn_123 ?_
        refine j_getM (f := 10) E cf_X12 fl_X12_233 (lt_ rfl) rfl rfl dX12_goOn_124 ?_
        refine j_lmul E dX12_goOn_127 ?_
        refine j_aload_n E 0 rfl dX12_goOn_128 ?_
        refine j_aload_n E 0 rfl dX12_goOn_129 ?_
        refine j_getM (f := 6) E cf_X12 fl_X12_221 (lt_ rfl) rfl rfl dX12_goOn_130 ?_
        obtain ⟨r3, h3, hf⟩ := bn1_e hf
        refine j_invV [.long (27 * (M.2.1 10)), .ref (z + aM 0)] [.int r3, .long (27 * (M.2.1 10)), .ref (z + aM 0)] E (c_X12_byteAt h3) ml_X12_224 mv_X12_byteAt rfl ⟨le_ rfl, le_ rfl⟩ (rcM cf_X12) rfl rfl (le_ rfl) ⟨le_ rfl, le_ rfl⟩ dX12_goOn_133 ?_
        refine j_i2l E dX12_goOn_136 ?_
        refine j_ladd E dX12_goOn_137 ?_
        refine j_ldc2 E ct_X12_247 dX12_goOn_138 ?_
        refine j_lsub E dX12_goOn_141 ?_
        refine j_lconst E 1 rfl dX12_goOn_142 ?_
        refine j_ladd E dX12_goOn_143 ?_
        refine j_goto E 150 (by decide) dX12_goOn_144 ?_
        obtain ⟨M4, hM4, hf⟩ := bnd_e hf
        refine j_putMl (f := 10) E cf_X12 fl_X12_233 (lt_ rfl) ⟨rfl, rfl⟩ ⟨rfl, rfl⟩ (lt_ rfl) peMl_10 hM4 dX12_goOn_150 ?_
        refine j_aload_n E 0 rfl dX12_goOn_153 ?_
        refine j_dup E rfl dX12_goOn_154 ?_
        refine j_getM (f := 9) E cf_X12 fl_X12_230 (lt_ rfl) rfl rfl dX12_goOn_155 ?_
        refine j_iconst E 1 ic_1 dX12_goOn_158 ?_
        refine j_iadd E dX12_goOn_159 ?_
        obtain ⟨M5, hM5, hf⟩ := bnd_e hf
        refine j_putM (f := 9) E cf_X12 fl_X12_230 (lt_ rfl) ⟨rfl, rfl⟩ (fit_i _) (lt_ rfl) peM_9 hM5 dX12_goOn_160 ?_
        refine j_aload_n E 0 rfl dX12_goOn_163 ?_
        refine j_dup E rfl dX12_goOn_164 ?_
        refine j_getM (f := 6) E cf_X12 fl_X12_221 (lt_ rfl) rfl rfl dX12_goOn_165 ?_
        refine j_iconst E 1 ic_1 dX12_goOn_168 ?_
        refine j_iadd E dX12_goOn_169 ?_
        obtain ⟨M6, hM6, hf⟩ := bnd_e hf
        refine j_putM (f := 6) E cf_X12 fl_X12_221 (lt_ rfl) ⟨rfl, rfl⟩ (fit_i _) (lt_ rfl) peM_6 hM6 dX12_goOn_170 ?_
        refine j_goto E 96 (by decide) dX12_goOn_173 ?_
        exact ih _ hf
set_option maxRecDepth 20000 in
theorem b_X12_goOn_0 {p : Program} {l : Launch} {e : Env} {s : State} {m : MethodId} {args : Array Value} {below : List Frame} {meth : Method} {c : Code} {D : DD} {z : Nat} {X : XT} {o : Int64} {f1 : Nat} (E : Cx p s m args meth c D z RX12 cX12_goOn 2 none) {M' : MT} : ∀ (n : Nat) (M : MT) (hf : f_X12_goOn_0 n M = some M'), J p l e (rmk 2 0 0) s m args below meth c D z (GG D z (X, (f1 + 1, M, o))) 0 0 (MQ below (QC z none (GG D z (X, (f1 + 1, M', o)))) args s (rmk 2 0 0).cells (rmk 2 0 0).slots (Az z)) 2 0 [(0, .ref (z + aM 0))] [] := by
  intro n
  induction n with
  | zero =>
    intro M hf
    exact none_e hf
  | succ n ih =>
    intro M hf
    rw [f_X12_goOn_0] at hf
    refine j_aload_n E 0 rfl dX12_goOn_0 ?_
    refine j_aload_n E 0 rfl dX12_goOn_1 ?_
    refine j_getM (f := 6) E cf_X12 fl_X12_221 (lt_ rfl) rfl rfl dX12_goOn_2 ?_
    obtain ⟨r1, h1, hf⟩ := bn1_e hf
    refine j_invV [] [.int r1] E (c_X12_byteAt h1) ml_X12_224 mv_X12_byteAt rfl ⟨le_ rfl, le_ rfl⟩ (rcM cf_X12) rfl rfl (le_ rfl) ⟨le_ rfl, le_ rfl⟩ dX12_goOn_5 ?_
    refine j_bipush E 32 bp_32 dX12_goOn_8 ?_
    refine j_icmp_eq E 26 (by decide) dX12_goOn_10 (fun c1 => ?_) (fun c1 => ?_)
    · rw [if_pos c1] at hf
      refine j_aload_n E 0 rfl dX12_goOn_26 ?_
      refine j_dup E rfl dX12_goOn_27 ?_
      refine j_getM (f := 6) E cf_X12 fl_X12_221 (lt_ rfl) rfl rfl dX12_goOn_28 ?_
      refine j_iconst E 1 ic_1 dX12_goOn_31 ?_
      refine j_iadd E dX12_goOn_32 ?_
      obtain ⟨M1, hM1, hf⟩ := bnd_e hf
      refine j_putM (f := 6) E cf_X12 fl_X12_221 (lt_ rfl) ⟨rfl, rfl⟩ (fit_i _) (lt_ rfl) peM_6 hM1 dX12_goOn_33 ?_
      refine j_goto E 0 (by decide) dX12_goOn_36 ?_
      exact ih _ hf
    · rw [if_neg c1] at hf
      refine j_aload_n E 0 rfl dX12_goOn_13 ?_
      refine j_aload_n E 0 rfl dX12_goOn_14 ?_
      refine j_getM (f := 6) E cf_X12 fl_X12_221 (lt_ rfl) rfl rfl dX12_goOn_15 ?_
      obtain ⟨r2, h2, hf⟩ := bn1_e hf
      refine j_invV [] [.int r2] E (c_X12_byteAt h2) ml_X12_224 mv_X12_byteAt rfl ⟨le_ rfl, le_ rfl⟩ (rcM cf_X12) rfl rfl (le_ rfl) ⟨le_ rfl, le_ rfl⟩ dX12_goOn_18 ?_
      refine j_bipush E 10 bp_10 dX12_goOn_21 ?_
      refine j_icmp_ne E 39 (by decide) dX12_goOn_23 (fun c2 => ?_) (fun c2 => ?_)
      · rw [if_neg c2] at hf
        refine j_aload_n E 0 rfl dX12_goOn_39 ?_
        refine j_aload_n E 0 rfl dX12_goOn_40 ?_
        refine j_getM (f := 6) E cf_X12 fl_X12_221 (lt_ rfl) rfl rfl dX12_goOn_41 ?_
        obtain ⟨M2, hM2, hf⟩ := bnd_e hf
        refine j_putM (f := 8) E cf_X12 fl_X12_227 (lt_ rfl) ⟨rfl, rfl⟩ (fit_i _) (lt_ rfl) peM_8 hM2 dX12_goOn_44 ?_
        refine j_aload_n E 0 rfl dX12_goOn_47 ?_
        refine j_iconst E 0 ic_0 dX12_goOn_48 ?_
        obtain ⟨M3, hM3, hf⟩ := bnd_e hf
        refine j_putM (f := 9) E cf_X12 fl_X12_230 (lt_ rfl) ⟨rfl, rfl⟩ (fit_i _) (lt_ rfl) peM_9 hM3 dX12_goOn_49 ?_
        refine j_aload_n E 0 rfl dX12_goOn_52 ?_
        refine j_lconst E 0 rfl dX12_goOn_53 ?_
        obtain ⟨M4, hM4, hf⟩ := bnd_e hf
        refine j_putMl (f := 10) E cf_X12 fl_X12_233 (lt_ rfl) ⟨rfl, rfl⟩ ⟨rfl, rfl⟩ (lt_ rfl) peMl_10 hM4 dX12_goOn_54 ?_
        refine j_aload_n E 0 rfl dX12_goOn_57 ?_
        refine j_iconst E 0 ic_0 dX12_goOn_58 ?_
        obtain ⟨M5, hM5, hf⟩ := bnd_e hf
        refine j_putM (f := 11) E cf_X12 fl_X12_236 (lt_ rfl) ⟨rfl, rfl⟩ (fit_i _) (lt_ rfl) peM_11 hM5 dX12_goOn_59 ?_
        refine j_aload_n E 0 rfl dX12_goOn_62 ?_
        refine j_aload_n E 0 rfl dX12_goOn_63 ?_
        refine j_getM (f := 6) E cf_X12 fl_X12_221 (lt_ rfl) rfl rfl dX12_goOn_64 ?_
        obtain ⟨r3, h3, hf⟩ := bn1_e hf
        refine j_invV [] [.int r3] E (c_X12_byteAt h3) ml_X12_224 mv_X12_byteAt rfl ⟨le_ rfl, le_ rfl⟩ (rcM cf_X12) rfl rfl (le_ rfl) ⟨le_ rfl, le_ rfl⟩ dX12_goOn_67 ?_
        refine j_istore_n (ls' := [(1, .int r3), (0, .ref (z + aM 0))]) E (lt_ rfl) rfl dX12_goOn_70 ?_
        refine j_iload_n E 0 rfl dX12_goOn_71 ?_
        refine j_iconst E (-1) ic_m1 dX12_goOn_72 ?_
        refine j_icmp_ne E 84 (by decide) dX12_goOn_73 (fun c3 => ?_) (fun c3 => ?_)
        · rw [if_neg c3] at hf
          refine j_iload_n E 0 rfl dX12_goOn_84 ?_
          obtain ⟨r4, h4, hf⟩ := bn1_e hf
          refine j_invS [] [.int r4] E (c_X12_isLetter h4) ml_X12_242 ms_X12_isLetter rfl ⟨le_ rfl, le_ rfl⟩ rfl rfl (le_ rfl) ⟨le_ rfl, le_ rfl⟩ dX12_goOn_85 ?_
          refine j_if_eq E 176 (by decide) dX12_goOn_88 (fun c4 => ?_) (fun c4 => ?_)
          · rw [if_pos c4] at hf
            refine j_iload_n E 0 rfl dX12_goOn_176 ?_
            obtain ⟨r5, h5, hf⟩ := bn1_e hf
            refine j_invS [] [.int r5] E (c_X12_isDigit h5) ml_X12_251 ms_X12_isDigit rfl ⟨le_ rfl, le_ rfl⟩ rfl rfl (le_ rfl) ⟨le_ rfl, le_ rfl⟩ dX12_goOn_177 ?_
            refine j_if_eq E 252 (by decide) dX12_goOn_180 (fun c5 => ?_) (fun c5 => ?_)
            · rw [if_pos c5] at hf
              refine j_aload_n E 1 rfl dX12_goOn_252 ?_
              refine j_iconst E 3 ic_3 dX12_goOn_253 ?_
              obtain ⟨M6, hM6, hf⟩ := bnd_e hf
              refine j_putM (f := 7) E cf_X12 fl_X12_239 (lt_ rfl) ⟨rfl, rfl⟩ (fit_i _) (lt_ rfl) peM_7 hM6 dX12_goOn_254 ?_
              refine j_aload_n E 1 rfl dX12_goOn_257 ?_
              refine j_iload_n E 0 rfl dX12_goOn_258 ?_
              obtain ⟨M7, hM7, hf⟩ := bnd_e hf
              refine j_putM (f := 11) E cf_X12 fl_X12_236 (lt_ rfl) ⟨rfl, rfl⟩ (fit_i _) (lt_ rfl) peM_11 hM7 dX12_goOn_259 ?_
              refine j_aload_n E 1 rfl dX12_goOn_262 ?_
              refine j_dup E rfl dX12_goOn_263 ?_
              refine j_getM (f := 6) E cf_X12 fl_X12_221 (lt_ rfl) rfl rfl dX12_goOn_264 ?_
              refine j_iconst E 1 ic_1 dX12_goOn_267 ?_
              refine j_iadd E dX12_goOn_268 ?_
              obtain ⟨M8, hM8, hf⟩ := bnd_e hf
              refine j_putM (f := 6) E cf_X12 fl_X12_221 (lt_ rfl) ⟨rfl, rfl⟩ (fit_i _) (lt_ rfl) peM_6 hM8 dX12_goOn_269 ?_
              cases hf
              exact j_vret E (le_ rfl) (le_ rfl) dX12_goOn_272
            · rw [if_neg c5] at hf
              refine j_aload_n E 1 rfl dX12_goOn_183 ?_
              refine j_iconst E 2 ic_2 dX12_goOn_184 ?_
              obtain ⟨M9, hM9, hf⟩ := bnd_e hf
              refine j_putM (f := 7) E cf_X12 fl_X12_239 (lt_ rfl) ⟨rfl, rfl⟩ (fit_i _) (lt_ rfl) peM_7 hM9 dX12_goOn_185 ?_
              refine j_sub [1] rfl ?_
              exact b_X12_goOn_188 E 2000 _ hf
          · rw [if_neg c4] at hf
            refine j_aload_n E 1 rfl dX12_goOn_91 ?_
            refine j_iconst E 1 ic_1 dX12_goOn_92 ?_
            obtain ⟨M10, hM10, hf⟩ := bnd_e hf
            refine j_putM (f := 7) E cf_X12 fl_X12_239 (lt_ rfl) ⟨rfl, rfl⟩ (fit_i _) (lt_ rfl) peM_7 hM10 dX12_goOn_93 ?_
            refine j_sub [1] rfl ?_
            exact b_X12_goOn_96 E 2000 _ hf
        · rw [if_pos c3] at hf
          refine j_aload_n E 1 rfl dX12_goOn_76 ?_
          refine j_iconst E 0 ic_0 dX12_goOn_77 ?_
          obtain ⟨M11, hM11, hf⟩ := bnd_e hf
          refine j_putM (f := 7) E cf_X12 fl_X12_239 (lt_ rfl) ⟨rfl, rfl⟩ (fit_i _) (lt_ rfl) peM_7 hM11 dX12_goOn_78 ?_
          refine j_goto E 272 (by decide) dX12_goOn_81 ?_
          cases hf
          exact j_vret E (le_ rfl) (le_ rfl) dX12_goOn_272
      · rw [if_pos c2] at hf
        refine j_aload_n E 0 rfl dX12_goOn_26 ?_
        refine j_dup E rfl dX12_goOn_27 ?_
        refine j_getM (f := 6) E cf_X12 fl_X12_221 (lt_ rfl) rfl rfl dX12_goOn_28 ?_
        refine j_iconst E 1 ic_1 dX12_goOn_31 ?_
        refine j_iadd E dX12_goOn_32 ?_
        obtain ⟨M12, hM12, hf⟩ := bnd_e hf
        refine j_putM (f := 6) E cf_X12 fl_X12_221 (lt_ rfl) ⟨rfl, rfl⟩ (fit_i _) (lt_ rfl) peM_6 hM12 dX12_goOn_33 ?_
        refine j_goto E 0 (by decide) dX12_goOn_36 ?_
        exact ih _ hf
set_option maxRecDepth 20000 in
theorem c_X12_goOn {l : Launch} {D : DD} {z : Nat} {X : XT} {o : Int64} {f1 : Nat} {M : MT} {M' : MT} (hf : f_X12_goOn M = some M') : CC l yX12_goOn cX12_goOn 2 none (rmk 2 0 0) D z [.ref (z + aM 0)] (GG D z (X, (f1 + 1, M, o))) none (GG D z (X, (f1 + 1, M', o))) := by
  unfold f_X12_goOn at hf
  refine cc_of pn_X12 (le_ rfl) (ls := [(0, .ref (z + aM 0))]) rfl ?_
  intro p e s m args below meth c E
  exact b_X12_goOn_0 E 2000 _ hf
def f_X12_startText (M : MT) : Option MT :=
  bnd (mi M 0 6 0) (fun M1 => bnd (mi M1 0 12 0) (fun M2 => bn1 (f_X12_goOn M2) (fun M3 => some M3)))
set_option maxRecDepth 20000 in
theorem c_X12_startText {l : Launch} {D : DD} {z : Nat} {X : XT} {o : Int64} {f1 : Nat} {M : MT} {M' : MT} (hf : f_X12_startText M = some M') : CC l yX12_startText cX12_startText 1 none (rmk 3 0 0) D z [.ref (z + aM 0)] (GG D z (X, (f1 + 1, M, o))) none (GG D z (X, (f1 + 1, M', o))) := by
  unfold f_X12_startText at hf
  refine cc_of pn_X12 (le_ rfl) (ls := [(0, .ref (z + aM 0))]) rfl ?_
  intro p e s m args below meth c E
  refine j_aload_n E 0 rfl dX12_startText_0 ?_
  refine j_iconst E 0 ic_0 dX12_startText_1 ?_
  obtain ⟨M1, hM1, hf⟩ := bnd_e hf
  refine j_putM (f := 6) E cf_X12 fl_X12_221 (lt_ rfl) ⟨rfl, rfl⟩ (fit_i _) (lt_ rfl) peM_6 hM1 dX12_startText_2 ?_
  refine j_aload_n E 0 rfl dX12_startText_5 ?_
  refine j_iconst E 0 ic_0 dX12_startText_6 ?_
  obtain ⟨M2, hM2, hf⟩ := bnd_e hf
  refine j_putM (f := 12) E cf_X12 fl_X12_256 (lt_ rfl) ⟨rfl, rfl⟩ (fit_i _) (lt_ rfl) peM_12 hM2 dX12_startText_7 ?_
  refine j_aload_n E 0 rfl dX12_startText_10 ?_
  obtain ⟨M3, h1, hf⟩ := bn1_e hf
  refine j_invV [] [] E (c_X12_goOn h1) ml_X12_259 mv_X12_goOn rfl ⟨le_ rfl, le_ rfl⟩ (rcM cf_X12) rfl rfl (le_ rfl) ⟨le_ rfl, le_ rfl⟩ dX12_startText_11 ?_
  cases hf
  exact j_vret E (le_ rfl) (le_ rfl) dX12_startText_14
def f_X12_fault (M : MT) (v1 : Int32) : Option MT :=
  if (M.1 0 12) = 0 then (bnd (mi M 0 12 v1) (fun M1 => bnd (mi M1 0 13 (M1.1 0 8)) (fun M2 => some M2))) else (some M)
set_option maxRecDepth 20000 in
theorem c_X12_fault {l : Launch} {D : DD} {z : Nat} {X : XT} {o : Int64} {f1 : Nat} {M : MT} {v1 : Int32} {M' : MT} (hf : f_X12_fault M v1 = some M') : CC l yX12_fault cX12_fault 2 none (rmk 1 0 0) D z [.ref (z + aM 0), .int v1] (GG D z (X, (f1 + 1, M, o))) none (GG D z (X, (f1 + 1, M', o))) := by
  unfold f_X12_fault at hf
  refine cc_of pn_X12 (le_ rfl) (ls := [(0, .ref (z + aM 0)), (1, .int v1)]) rfl ?_
  intro p e s m args below meth c E
  refine j_aload_n E 0 rfl dX12_fault_0 ?_
  refine j_getM (f := 12) E cf_X12 fl_X12_256 (lt_ rfl) rfl rfl dX12_fault_1 ?_
  refine j_if_ne E 20 (by decide) dX12_fault_4 (fun c1 => ?_) (fun c1 => ?_)
  · rw [if_neg c1] at hf
    cases hf
    exact j_vret E (le_ rfl) (le_ rfl) dX12_fault_20
  · rw [if_pos c1] at hf
    refine j_aload_n E 0 rfl dX12_fault_7 ?_
    refine j_iload_n E 1 rfl dX12_fault_8 ?_
    obtain ⟨M1, hM1, hf⟩ := bnd_e hf
    refine j_putM (f := 12) E cf_X12 fl_X12_256 (lt_ rfl) ⟨rfl, rfl⟩ (fit_i _) (lt_ rfl) peM_12 hM1 dX12_fault_9 ?_
    refine j_aload_n E 0 rfl dX12_fault_12 ?_
    refine j_aload_n E 0 rfl dX12_fault_13 ?_
    refine j_getM (f := 8) E cf_X12 fl_X12_227 (lt_ rfl) rfl rfl dX12_fault_14 ?_
    obtain ⟨M2, hM2, hf⟩ := bnd_e hf
    refine j_putM (f := 13) E cf_X12 fl_X12_262 (lt_ rfl) ⟨rfl, rfl⟩ (fit_i _) (lt_ rfl) peM_13 hM2 dX12_fault_17 ?_
    cases hf
    exact j_vret E (le_ rfl) (le_ rfl) dX12_fault_20
def f_X12_isGood (M : MT) : Option Int32 :=
  if (M.1 0 12) = 0 then (some 1) else (some 0)
set_option maxRecDepth 20000 in
theorem c_X12_isGood {l : Launch} {D : DD} {z : Nat} {X : XT} {o : Int64} {f1 : Nat} {M : MT} {r : Int32} (hf : f_X12_isGood M = some r) : CC l yX12_isGood cX12_isGood 1 (some .boolean) (rmk 1 0 0) D z [.ref (z + aM 0)] (GG D z (X, (f1 + 1, M, o))) (some (.int r)) (GG D z (X, (f1 + 1, M, o))) := by
  unfold f_X12_isGood at hf
  refine cc_of pn_X12 (le_ rfl) (ls := [(0, .ref (z + aM 0))]) rfl ?_
  intro p e s m args below meth c E
  refine j_aload_n E 0 rfl dX12_isGood_0 ?_
  refine j_getM (f := 12) E cf_X12 fl_X12_256 (lt_ rfl) rfl rfl dX12_isGood_1 ?_
  refine j_if_ne E 11 (by decide) dX12_isGood_4 (fun c1 => ?_) (fun c1 => ?_)
  · rw [if_neg c1] at hf
    refine j_iconst E 0 ic_0 dX12_isGood_11 ?_
    cases hf
    exact j_iret E rfl (le_ rfl) (le_ rfl) dX12_isGood_12
  · rw [if_pos c1] at hf
    refine j_iconst E 1 ic_1 dX12_isGood_7 ?_
    refine j_goto E 12 (by decide) dX12_isGood_8 ?_
    cases hf
    exact j_iret E rfl (le_ rfl) (le_ rfl) dX12_isGood_12
def f_X12_isWord (M : MT) (v1 : Int64) : Option Int32 :=
  if (M.1 0 7) = 1 then (if 12 < (M.1 0 9) then (some 0) else (if (lg_cmp (M.2.1 10) v1) = 0 then (some 1) else (some 0))) else (some 0)
set_option maxRecDepth 20000 in
theorem c_X12_isWord {l : Launch} {D : DD} {z : Nat} {X : XT} {o : Int64} {f1 : Nat} {M : MT} {v1 : Int64} {r : Int32} (hf : f_X12_isWord M v1 = some r) : CC l yX12_isWord cX12_isWord 3 (some .boolean) (rmk 1 0 0) D z [.ref (z + aM 0), .long v1] (GG D z (X, (f1 + 1, M, o))) (some (.int r)) (GG D z (X, (f1 + 1, M, o))) := by
  unfold f_X12_isWord at hf
  refine cc_of pn_X12 (le_ rfl) (ls := [(0, .ref (z + aM 0)), (1, .long v1)]) rfl ?_
  intro p e s m args below meth c E
  refine j_aload_n E 0 rfl dX12_isWord_0 ?_
  refine j_getM (f := 7) E cf_X12 fl_X12_239 (lt_ rfl) rfl rfl dX12_isWord_1 ?_
  refine j_iconst E 1 ic_1 dX12_isWord_4 ?_
  refine j_icmp_ne E 30 (by decide) dX12_isWord_5 (fun c1 => ?_) (fun c1 => ?_)
  · rw [if_neg c1] at hf
    refine j_iconst E 0 ic_0 dX12_isWord_30 ?_
    cases hf
    exact j_iret E rfl (le_ rfl) (le_ rfl) dX12_isWord_31
  · rw [if_pos c1] at hf
    refine j_aload_n E 0 rfl dX12_isWord_8 ?_
    refine j_getM (f := 9) E cf_X12 fl_X12_230 (lt_ rfl) rfl rfl dX12_isWord_9 ?_
    refine j_bipush E 12 bp_12 dX12_isWord_12 ?_
    refine j_icmp_gt E 30 (by decide) dX12_isWord_14 (fun c2 => ?_) (fun c2 => ?_)
    · rw [if_pos c2] at hf
      refine j_iconst E 0 ic_0 dX12_isWord_30 ?_
      cases hf
      exact j_iret E rfl (le_ rfl) (le_ rfl) dX12_isWord_31
    · rw [if_neg c2] at hf
      refine j_aload_n E 0 rfl dX12_isWord_17 ?_
      refine j_getM (f := 10) E cf_X12 fl_X12_233 (lt_ rfl) rfl rfl dX12_isWord_18 ?_
      refine j_lload_n E 1 rfl dX12_isWord_21 ?_
      refine j_lcmp E dX12_isWord_22 ?_
      refine j_if_ne E 30 (by decide) dX12_isWord_23 (fun c3 => ?_) (fun c3 => ?_)
      · rw [if_neg c3] at hf
        refine j_iconst E 0 ic_0 dX12_isWord_30 ?_
        cases hf
        exact j_iret E rfl (le_ rfl) (le_ rfl) dX12_isWord_31
      · rw [if_pos c3] at hf
        refine j_iconst E 1 ic_1 dX12_isWord_26 ?_
        refine j_goto E 31 (by decide) dX12_isWord_27 ?_
        cases hf
        exact j_iret E rfl (le_ rfl) (le_ rfl) dX12_isWord_31
def f_X12_lookNumber (M : MT) (v1 : Int32) (v2 : Int32) : Option (Int32 × MT) :=
  bn1 (f_X12_isGood M) (fun r1 => if r1 = 0 then (some (v1, M)) else (if (M.1 0 7) = 2 then (bn1 (f_X12_in ((M.1 0 11).toInt64) (v1.toInt64) (v2.toInt64)) (fun r2 => if r2 = 0 then (bn1 (f_X12_fault M 2) (fun M1 => bn1 (f_X12_isGood M1) (fun r4 => if r4 = 0 then (some (v1, M1)) else (some ((M1.1 0 11), M1))))) else (bn1 (f_X12_isGood M) (fun r3 => if r3 = 0 then (some (v1, M)) else (some ((M.1 0 11), M)))))) else (bn1 (f_X12_fault M 1) (fun M2 => bn1 (f_X12_isGood M2) (fun r5 => if r5 = 0 then (some (v1, M2)) else (some ((M2.1 0 11), M2)))))))
set_option maxRecDepth 20000 in
theorem c_X12_lookNumber {l : Launch} {D : DD} {z : Nat} {X : XT} {o : Int64} {f1 : Nat} {M : MT} {v1 : Int32} {v2 : Int32} {r : Int32} {M' : MT} (hf : f_X12_lookNumber M v1 v2 = some (r, M')) : CC l yX12_lookNumber cX12_lookNumber 3 (some .int) (rmk 2 0 0) D z [.ref (z + aM 0), .int v1, .int v2] (GG D z (X, (f1 + 1, M, o))) (some (.int r)) (GG D z (X, (f1 + 1, M', o))) := by
  unfold f_X12_lookNumber at hf
  refine cc_of pn_X12 (le_ rfl) (ls := [(0, .ref (z + aM 0)), (1, .int v1), (2, .int v2)]) rfl ?_
  intro p e s m args below meth c E
  refine j_aload_n E 0 rfl dX12_lookNumber_0 ?_
  obtain ⟨r1, h1, hf⟩ := bn1_e hf
  refine j_invV [] [.int r1] E (c_X12_isGood h1) ml_X12_275 mv_X12_isGood rfl ⟨le_ rfl, le_ rfl⟩ (rcM cf_X12) rfl rfl (le_ rfl) ⟨le_ rfl, le_ rfl⟩ dX12_lookNumber_1 ?_
  refine j_if_ne E 9 (by decide) dX12_lookNumber_4 (fun c1 => ?_) (fun c1 => ?_)
  · rw [if_neg c1] at hf
    refine j_aload_n E 0 rfl dX12_lookNumber_9 ?_
    refine j_getM (f := 7) E cf_X12 fl_X12_239 (lt_ rfl) rfl rfl dX12_lookNumber_10 ?_
    refine j_iconst E 2 ic_2 dX12_lookNumber_13 ?_
    refine j_icmp_eq E 25 (by decide) dX12_lookNumber_14 (fun c2 => ?_) (fun c2 => ?_)
    · rw [if_pos c2] at hf
      refine j_aload_n E 0 rfl dX12_lookNumber_25 ?_
      refine j_getM (f := 11) E cf_X12 fl_X12_236 (lt_ rfl) rfl rfl dX12_lookNumber_26 ?_
      refine j_i2l E dX12_lookNumber_29 ?_
      refine j_iload_n E 1 rfl dX12_lookNumber_30 ?_
      refine j_i2l E dX12_lookNumber_31 ?_
      refine j_iload_n E 2 rfl dX12_lookNumber_32 ?_
      refine j_i2l E dX12_lookNumber_33 ?_
      obtain ⟨r2, h2, hf⟩ := bn1_e hf
      refine j_invS [] [.int r2] E (c_X12_in h2) ml_X12_282 ms_X12_in rfl ⟨le_ rfl, le_ rfl⟩ rfl rfl (le_ rfl) ⟨le_ rfl, le_ rfl⟩ dX12_lookNumber_34 ?_
      refine j_if_ne E 45 (by decide) dX12_lookNumber_37 (fun c3 => ?_) (fun c3 => ?_)
      · rw [if_neg c3] at hf
        refine j_aload_n E 0 rfl dX12_lookNumber_45 ?_
        obtain ⟨r3, h3, hf⟩ := bn1_e hf
        refine j_invV [] [.int r3] E (c_X12_isGood h3) ml_X12_275 mv_X12_isGood rfl ⟨le_ rfl, le_ rfl⟩ (rcM cf_X12) rfl rfl (le_ rfl) ⟨le_ rfl, le_ rfl⟩ dX12_lookNumber_46 ?_
        refine j_if_eq E 59 (by decide) dX12_lookNumber_49 (fun c4 => ?_) (fun c4 => ?_)
        · rw [if_pos c4] at hf
          refine j_iload_n E 1 rfl dX12_lookNumber_59 ?_
          cases hf
          exact j_iret E rfl (le_ rfl) (le_ rfl) dX12_lookNumber_60
        · rw [if_neg c4] at hf
          refine j_aload_n E 0 rfl dX12_lookNumber_52 ?_
          refine j_getM (f := 11) E cf_X12 fl_X12_236 (lt_ rfl) rfl rfl dX12_lookNumber_53 ?_
          refine j_goto E 60 (by decide) dX12_lookNumber_56 ?_
          cases hf
          exact j_iret E rfl (le_ rfl) (le_ rfl) dX12_lookNumber_60
      · rw [if_pos c3] at hf
        refine j_aload_n E 0 rfl dX12_lookNumber_40 ?_
        refine j_iconst E 2 ic_2 dX12_lookNumber_41 ?_
        obtain ⟨M1, h4, hf⟩ := bn1_e hf
        refine j_invV [] [] E (c_X12_fault h4) ml_X12_279 mv_X12_fault rfl ⟨le_ rfl, le_ rfl⟩ (rcM cf_X12) rfl rfl (le_ rfl) ⟨le_ rfl, le_ rfl⟩ dX12_lookNumber_42 ?_
        refine j_aload_n E 0 rfl dX12_lookNumber_45 ?_
        obtain ⟨r4, h5, hf⟩ := bn1_e hf
        refine j_invV [] [.int r4] E (c_X12_isGood h5) ml_X12_275 mv_X12_isGood rfl ⟨le_ rfl, le_ rfl⟩ (rcM cf_X12) rfl rfl (le_ rfl) ⟨le_ rfl, le_ rfl⟩ dX12_lookNumber_46 ?_
        refine j_if_eq E 59 (by decide) dX12_lookNumber_49 (fun c5 => ?_) (fun c5 => ?_)
        · rw [if_pos c5] at hf
          refine j_iload_n E 1 rfl dX12_lookNumber_59 ?_
          cases hf
          exact j_iret E rfl (le_ rfl) (le_ rfl) dX12_lookNumber_60
        · rw [if_neg c5] at hf
          refine j_aload_n E 0 rfl dX12_lookNumber_52 ?_
          refine j_getM (f := 11) E cf_X12 fl_X12_236 (lt_ rfl) rfl rfl dX12_lookNumber_53 ?_
          refine j_goto E 60 (by decide) dX12_lookNumber_56 ?_
          cases hf
          exact j_iret E rfl (le_ rfl) (le_ rfl) dX12_lookNumber_60
    · rw [if_neg c2] at hf
      refine j_aload_n E 0 rfl dX12_lookNumber_17 ?_
      refine j_iconst E 1 ic_1 dX12_lookNumber_18 ?_
      obtain ⟨M2, h6, hf⟩ := bn1_e hf
      refine j_invV [] [] E (c_X12_fault h6) ml_X12_279 mv_X12_fault rfl ⟨le_ rfl, le_ rfl⟩ (rcM cf_X12) rfl rfl (le_ rfl) ⟨le_ rfl, le_ rfl⟩ dX12_lookNumber_19 ?_
      refine j_goto E 45 (by decide) dX12_lookNumber_22 ?_
      refine j_aload_n E 0 rfl dX12_lookNumber_45 ?_
      obtain ⟨r5, h7, hf⟩ := bn1_e hf
      refine j_invV [] [.int r5] E (c_X12_isGood h7) ml_X12_275 mv_X12_isGood rfl ⟨le_ rfl, le_ rfl⟩ (rcM cf_X12) rfl rfl (le_ rfl) ⟨le_ rfl, le_ rfl⟩ dX12_lookNumber_46 ?_
      refine j_if_eq E 59 (by decide) dX12_lookNumber_49 (fun c6 => ?_) (fun c6 => ?_)
      · rw [if_pos c6] at hf
        refine j_iload_n E 1 rfl dX12_lookNumber_59 ?_
        cases hf
        exact j_iret E rfl (le_ rfl) (le_ rfl) dX12_lookNumber_60
      · rw [if_neg c6] at hf
        refine j_aload_n E 0 rfl dX12_lookNumber_52 ?_
        refine j_getM (f := 11) E cf_X12 fl_X12_236 (lt_ rfl) rfl rfl dX12_lookNumber_53 ?_
        refine j_goto E 60 (by decide) dX12_lookNumber_56 ?_
        cases hf
        exact j_iret E rfl (le_ rfl) (le_ rfl) dX12_lookNumber_60
  · rw [if_pos c1] at hf
    refine j_iload_n E 1 rfl dX12_lookNumber_7 ?_
    cases hf
    exact j_iret E rfl (le_ rfl) (le_ rfl) dX12_lookNumber_8
def f_X12_takeNumber (M : MT) (v1 : Int32) (v2 : Int32) : Option (Int32 × MT) :=
  bn2 (f_X12_lookNumber M v1 v2) (fun r1 M1 => bn1 (f_X12_isGood M1) (fun r2 => if r2 = 0 then (some (r1, M1)) else (bn1 (f_X12_goOn M1) (fun M2 => some (r1, M2)))))
set_option maxRecDepth 20000 in
theorem c_X12_takeNumber {l : Launch} {D : DD} {z : Nat} {X : XT} {o : Int64} {f1 : Nat} {M : MT} {v1 : Int32} {v2 : Int32} {r : Int32} {M' : MT} (hf : f_X12_takeNumber M v1 v2 = some (r, M')) : CC l yX12_takeNumber cX12_takeNumber 4 (some .int) (rmk 3 0 0) D z [.ref (z + aM 0), .int v1, .int v2] (GG D z (X, (f1 + 1, M, o))) (some (.int r)) (GG D z (X, (f1 + 1, M', o))) := by
  unfold f_X12_takeNumber at hf
  refine cc_of pn_X12 (le_ rfl) (ls := [(0, .ref (z + aM 0)), (1, .int v1), (2, .int v2)]) rfl ?_
  intro p e s m args below meth c E
  refine j_aload_n E 0 rfl dX12_takeNumber_0 ?_
  refine j_iload_n E 1 rfl dX12_takeNumber_1 ?_
  refine j_iload_n E 2 rfl dX12_takeNumber_2 ?_
  obtain ⟨r1, M1, h1, hf⟩ := bn2_e hf
  refine j_invV [] [.int r1] E (c_X12_lookNumber h1) ml_X12_286 mv_X12_lookNumber rfl ⟨le_ rfl, le_ rfl⟩ (rcM cf_X12) rfl rfl (le_ rfl) ⟨le_ rfl, le_ rfl⟩ dX12_takeNumber_3 ?_
  refine j_istore_n (ls' := [(3, .int r1), (0, .ref (z + aM 0)), (1, .int v1), (2, .int v2)]) E (lt_ rfl) rfl dX12_takeNumber_6 ?_
  refine j_aload_n E 1 rfl dX12_takeNumber_7 ?_
  obtain ⟨r2, h2, hf⟩ := bn1_e hf
  refine j_invV [] [.int r2] E (c_X12_isGood h2) ml_X12_275 mv_X12_isGood rfl ⟨le_ rfl, le_ rfl⟩ (rcM cf_X12) rfl rfl (le_ rfl) ⟨le_ rfl, le_ rfl⟩ dX12_takeNumber_8 ?_
  refine j_if_eq E 18 (by decide) dX12_takeNumber_11 (fun c1 => ?_) (fun c1 => ?_)
  · rw [if_pos c1] at hf
    refine j_iload_n E 0 rfl dX12_takeNumber_18 ?_
    cases hf
    exact j_iret E rfl (le_ rfl) (le_ rfl) dX12_takeNumber_19
  · rw [if_neg c1] at hf
    refine j_aload_n E 1 rfl dX12_takeNumber_14 ?_
    obtain ⟨M2, h3, hf⟩ := bn1_e hf
    refine j_invV [] [] E (c_X12_goOn h3) ml_X12_259 mv_X12_goOn rfl ⟨le_ rfl, le_ rfl⟩ (rcM cf_X12) rfl rfl (le_ rfl) ⟨le_ rfl, le_ rfl⟩ dX12_takeNumber_15 ?_
    refine j_iload_n E 0 rfl dX12_takeNumber_18 ?_
    cases hf
    exact j_iret E rfl (le_ rfl) (le_ rfl) dX12_takeNumber_19
def f_X12_requireNot (M : MT) (v1 : Int32) (v2 : Int32) : Option MT :=
  bn1 (f_X12_isGood M) (fun r1 => if r1 = 0 then (some M) else (if v1 = 0 then (some M) else (bn1 (f_X12_fault M v2) (fun M1 => some M1))))
set_option maxRecDepth 20000 in
theorem c_X12_requireNot {l : Launch} {D : DD} {z : Nat} {X : XT} {o : Int64} {f1 : Nat} {M : MT} {v1 : Int32} {v2 : Int32} {M' : MT} (hf : f_X12_requireNot M v1 v2 = some M') : CC l yX12_requireNot cX12_requireNot 3 none (rmk 2 0 0) D z [.ref (z + aM 0), .int v1, .int v2] (GG D z (X, (f1 + 1, M, o))) none (GG D z (X, (f1 + 1, M', o))) := by
  unfold f_X12_requireNot at hf
  refine cc_of pn_X12 (le_ rfl) (ls := [(0, .ref (z + aM 0)), (1, .int v1), (2, .int v2)]) rfl ?_
  intro p e s m args below meth c E
  refine j_aload_n E 0 rfl dX12_requireNot_0 ?_
  obtain ⟨r1, h1, hf⟩ := bn1_e hf
  refine j_invV [] [.int r1] E (c_X12_isGood h1) ml_X12_275 mv_X12_isGood rfl ⟨le_ rfl, le_ rfl⟩ (rcM cf_X12) rfl rfl (le_ rfl) ⟨le_ rfl, le_ rfl⟩ dX12_requireNot_1 ?_
  refine j_if_eq E 16 (by decide) dX12_requireNot_4 (fun c1 => ?_) (fun c1 => ?_)
  · rw [if_pos c1] at hf
    cases hf
    exact j_vret E (le_ rfl) (le_ rfl) dX12_requireNot_16
  · rw [if_neg c1] at hf
    refine j_iload_n E 1 rfl dX12_requireNot_7 ?_
    refine j_if_eq E 16 (by decide) dX12_requireNot_8 (fun c2 => ?_) (fun c2 => ?_)
    · rw [if_pos c2] at hf
      cases hf
      exact j_vret E (le_ rfl) (le_ rfl) dX12_requireNot_16
    · rw [if_neg c2] at hf
      refine j_aload_n E 0 rfl dX12_requireNot_11 ?_
      refine j_iload_n E 2 rfl dX12_requireNot_12 ?_
      obtain ⟨M1, h2, hf⟩ := bn1_e hf
      refine j_invV [] [] E (c_X12_fault h2) ml_X12_279 mv_X12_fault rfl ⟨le_ rfl, le_ rfl⟩ (rcM cf_X12) rfl rfl (le_ rfl) ⟨le_ rfl, le_ rfl⟩ dX12_requireNot_13 ?_
      cases hf
      exact j_vret E (le_ rfl) (le_ rfl) dX12_requireNot_16
def f_X12_takeEnd (M : MT) (v1 : Int32) : Option MT :=
  bn1 (f_X12_isGood M) (fun r1 => if r1 = 0 then (some M) else (if (M.1 0 7) = 3 then (if (M.1 0 11) = 59 then (bn1 (f_X12_requireNot M v1 6) (fun M4 => bn1 (f_X12_isGood M4) (fun r3 => if r3 = 0 then (some M4) else (bn1 (f_X12_goOn M4) (fun M5 => some M5))))) else (bn1 (f_X12_fault M 1) (fun M6 => bn1 (f_X12_requireNot M6 v1 6) (fun M7 => bn1 (f_X12_isGood M7) (fun r4 => if r4 = 0 then (some M7) else (bn1 (f_X12_goOn M7) (fun M8 => some M8))))))) else (bn1 (f_X12_fault M 1) (fun M1 => bn1 (f_X12_requireNot M1 v1 6) (fun M2 => bn1 (f_X12_isGood M2) (fun r2 => if r2 = 0 then (some M2) else (bn1 (f_X12_goOn M2) (fun M3 => some M3))))))))
set_option maxRecDepth 20000 in
theorem c_X12_takeEnd {l : Launch} {D : DD} {z : Nat} {X : XT} {o : Int64} {f1 : Nat} {M : MT} {v1 : Int32} {M' : MT} (hf : f_X12_takeEnd M v1 = some M') : CC l yX12_takeEnd cX12_takeEnd 2 none (rmk 3 0 0) D z [.ref (z + aM 0), .int v1] (GG D z (X, (f1 + 1, M, o))) none (GG D z (X, (f1 + 1, M', o))) := by
  unfold f_X12_takeEnd at hf
  refine cc_of pn_X12 (le_ rfl) (ls := [(0, .ref (z + aM 0)), (1, .int v1)]) rfl ?_
  intro p e s m args below meth c E
  refine j_aload_n E 0 rfl dX12_takeEnd_0 ?_
  obtain ⟨r1, h1, hf⟩ := bn1_e hf
  refine j_invV [] [.int r1] E (c_X12_isGood h1) ml_X12_275 mv_X12_isGood rfl ⟨le_ rfl, le_ rfl⟩ (rcM cf_X12) rfl rfl (le_ rfl) ⟨le_ rfl, le_ rfl⟩ dX12_takeEnd_1 ?_
  refine j_if_ne E 8 (by decide) dX12_takeEnd_4 (fun c1 => ?_) (fun c1 => ?_)
  · rw [if_neg c1] at hf
    refine j_aload_n E 0 rfl dX12_takeEnd_8 ?_
    refine j_getM (f := 7) E cf_X12 fl_X12_239 (lt_ rfl) rfl rfl dX12_takeEnd_9 ?_
    refine j_iconst E 3 ic_3 dX12_takeEnd_12 ?_
    refine j_icmp_ne E 25 (by decide) dX12_takeEnd_13 (fun c2 => ?_) (fun c2 => ?_)
    · rw [if_neg c2] at hf
      refine j_aload_n E 0 rfl dX12_takeEnd_25 ?_
      refine j_iconst E 1 ic_1 dX12_takeEnd_26 ?_
      obtain ⟨M1, h2, hf⟩ := bn1_e hf
      refine j_invV [] [] E (c_X12_fault h2) ml_X12_279 mv_X12_fault rfl ⟨le_ rfl, le_ rfl⟩ (rcM cf_X12) rfl rfl (le_ rfl) ⟨le_ rfl, le_ rfl⟩ dX12_takeEnd_27 ?_
      refine j_aload_n E 0 rfl dX12_takeEnd_30 ?_
      refine j_iload_n E 1 rfl dX12_takeEnd_31 ?_
      refine j_bipush E 6 bp_6 dX12_takeEnd_32 ?_
      obtain ⟨M2, h3, hf⟩ := bn1_e hf
      refine j_invV [] [] E (c_X12_requireNot h3) ml_X12_289 mv_X12_requireNot rfl ⟨le_ rfl, le_ rfl⟩ (rcM cf_X12) rfl rfl (le_ rfl) ⟨le_ rfl, le_ rfl⟩ dX12_takeEnd_34 ?_
      refine j_aload_n E 0 rfl dX12_takeEnd_37 ?_
      obtain ⟨r2, h4, hf⟩ := bn1_e hf
      refine j_invV [] [.int r2] E (c_X12_isGood h4) ml_X12_275 mv_X12_isGood rfl ⟨le_ rfl, le_ rfl⟩ (rcM cf_X12) rfl rfl (le_ rfl) ⟨le_ rfl, le_ rfl⟩ dX12_takeEnd_38 ?_
      refine j_if_eq E 48 (by decide) dX12_takeEnd_41 (fun c3 => ?_) (fun c3 => ?_)
      · rw [if_pos c3] at hf
        cases hf
        exact j_vret E (le_ rfl) (le_ rfl) dX12_takeEnd_48
      · rw [if_neg c3] at hf
        refine j_aload_n E 0 rfl dX12_takeEnd_44 ?_
        obtain ⟨M3, h5, hf⟩ := bn1_e hf
        refine j_invV [] [] E (c_X12_goOn h5) ml_X12_259 mv_X12_goOn rfl ⟨le_ rfl, le_ rfl⟩ (rcM cf_X12) rfl rfl (le_ rfl) ⟨le_ rfl, le_ rfl⟩ dX12_takeEnd_45 ?_
        cases hf
        exact j_vret E (le_ rfl) (le_ rfl) dX12_takeEnd_48
    · rw [if_pos c2] at hf
      refine j_aload_n E 0 rfl dX12_takeEnd_16 ?_
      refine j_getM (f := 11) E cf_X12 fl_X12_236 (lt_ rfl) rfl rfl dX12_takeEnd_17 ?_
      refine j_bipush E 59 bp_59 dX12_takeEnd_20 ?_
      refine j_icmp_eq E 30 (by decide) dX12_takeEnd_22 (fun c4 => ?_) (fun c4 => ?_)
      · rw [if_pos c4] at hf
        refine j_aload_n E 0 rfl dX12_takeEnd_30 ?_
        refine j_iload_n E 1 rfl dX12_takeEnd_31 ?_
        refine j_bipush E 6 bp_6 dX12_takeEnd_32 ?_
        obtain ⟨M4, h6, hf⟩ := bn1_e hf
        refine j_invV [] [] E (c_X12_requireNot h6) ml_X12_289 mv_X12_requireNot rfl ⟨le_ rfl, le_ rfl⟩ (rcM cf_X12) rfl rfl (le_ rfl) ⟨le_ rfl, le_ rfl⟩ dX12_takeEnd_34 ?_
        refine j_aload_n E 0 rfl dX12_takeEnd_37 ?_
        obtain ⟨r3, h7, hf⟩ := bn1_e hf
        refine j_invV [] [.int r3] E (c_X12_isGood h7) ml_X12_275 mv_X12_isGood rfl ⟨le_ rfl, le_ rfl⟩ (rcM cf_X12) rfl rfl (le_ rfl) ⟨le_ rfl, le_ rfl⟩ dX12_takeEnd_38 ?_
        refine j_if_eq E 48 (by decide) dX12_takeEnd_41 (fun c5 => ?_) (fun c5 => ?_)
        · rw [if_pos c5] at hf
          cases hf
          exact j_vret E (le_ rfl) (le_ rfl) dX12_takeEnd_48
        · rw [if_neg c5] at hf
          refine j_aload_n E 0 rfl dX12_takeEnd_44 ?_
          obtain ⟨M5, h8, hf⟩ := bn1_e hf
          refine j_invV [] [] E (c_X12_goOn h8) ml_X12_259 mv_X12_goOn rfl ⟨le_ rfl, le_ rfl⟩ (rcM cf_X12) rfl rfl (le_ rfl) ⟨le_ rfl, le_ rfl⟩ dX12_takeEnd_45 ?_
          cases hf
          exact j_vret E (le_ rfl) (le_ rfl) dX12_takeEnd_48
      · rw [if_neg c4] at hf
        refine j_aload_n E 0 rfl dX12_takeEnd_25 ?_
        refine j_iconst E 1 ic_1 dX12_takeEnd_26 ?_
        obtain ⟨M6, h9, hf⟩ := bn1_e hf
        refine j_invV [] [] E (c_X12_fault h9) ml_X12_279 mv_X12_fault rfl ⟨le_ rfl, le_ rfl⟩ (rcM cf_X12) rfl rfl (le_ rfl) ⟨le_ rfl, le_ rfl⟩ dX12_takeEnd_27 ?_
        refine j_aload_n E 0 rfl dX12_takeEnd_30 ?_
        refine j_iload_n E 1 rfl dX12_takeEnd_31 ?_
        refine j_bipush E 6 bp_6 dX12_takeEnd_32 ?_
        obtain ⟨M7, h10, hf⟩ := bn1_e hf
        refine j_invV [] [] E (c_X12_requireNot h10) ml_X12_289 mv_X12_requireNot rfl ⟨le_ rfl, le_ rfl⟩ (rcM cf_X12) rfl rfl (le_ rfl) ⟨le_ rfl, le_ rfl⟩ dX12_takeEnd_34 ?_
        refine j_aload_n E 0 rfl dX12_takeEnd_37 ?_
        obtain ⟨r4, h11, hf⟩ := bn1_e hf
        refine j_invV [] [.int r4] E (c_X12_isGood h11) ml_X12_275 mv_X12_isGood rfl ⟨le_ rfl, le_ rfl⟩ (rcM cf_X12) rfl rfl (le_ rfl) ⟨le_ rfl, le_ rfl⟩ dX12_takeEnd_38 ?_
        refine j_if_eq E 48 (by decide) dX12_takeEnd_41 (fun c6 => ?_) (fun c6 => ?_)
        · rw [if_pos c6] at hf
          cases hf
          exact j_vret E (le_ rfl) (le_ rfl) dX12_takeEnd_48
        · rw [if_neg c6] at hf
          refine j_aload_n E 0 rfl dX12_takeEnd_44 ?_
          obtain ⟨M8, h12, hf⟩ := bn1_e hf
          refine j_invV [] [] E (c_X12_goOn h12) ml_X12_259 mv_X12_goOn rfl ⟨le_ rfl, le_ rfl⟩ (rcM cf_X12) rfl rfl (le_ rfl) ⟨le_ rfl, le_ rfl⟩ dX12_takeEnd_45 ?_
          cases hf
          exact j_vret E (le_ rfl) (le_ rfl) dX12_takeEnd_48
  · rw [if_pos c1] at hf
    cases hf
    exact j_vret E (le_ rfl) (le_ rfl) dX12_takeEnd_7
def f_X12_varietyHere_2 (M : MT) : Nat → Int32 → Option Int32
  | 0, _ => none
  | n + 1, v1 => if (M.1 M.2.2 4) ≤ v1 then (some (-1)) else (bnd (16 + (6 * v1)) (fun x1 => if (M.1 0 7) = 1 then (bnd (x1 + 1) (fun x2 => gd (¬ (x2 < 0 ∨ 264 ≤ x2.toNatClampNeg)) (if (M.1 M.2.2 x2.toNatClampNeg) = (M.1 0 9) then (bnd (x1 + 0) (fun x3 => gd (¬ (x3 < 0 ∨ 264 ≤ x3.toNatClampNeg)) (if (lg_cmp ((M.1 M.2.2 x3.toNatClampNeg).toInt64) (M.2.1 10)) = 0 then (some v1) else (f_X12_varietyHere_2 M n (v1 + 1))))) else (f_X12_varietyHere_2 M n (v1 + 1))))) else (f_X12_varietyHere_2 M n (v1 + 1))))
def f_X12_varietyHere (M : MT) : Option Int32 :=
  f_X12_varietyHere_2 M 2000 0
set_option maxRecDepth 20000 in
theorem b_X12_varietyHere_2 {p : Program} {l : Launch} {e : Env} {s : State} {m : MethodId} {args : Array Value} {below : List Frame} {meth : Method} {c : Code} {D : DD} {z : Nat} {X : XT} {o : Int64} {f1 : Nat} {M : MT} (E : Cx p s m args meth c D z RX12 cX12_varietyHere 3 (some .int)) {r : Int32} : ∀ (n : Nat) (v1 : Int32) (hf : f_X12_varietyHere_2 M n v1 = some r), J p l e (rmk 1 0 0) s m args below meth c D z (GG D z (X, (f1 + 1, M, o))) 0 0 (MQ below (QC z (some (.int r)) (GG D z (X, (f1 + 1, M, o)))) args s (rmk 1 0 0).cells (rmk 1 0 0).slots (Az z)) 3 2 [(0, .ref (z + aM 0)), (1, .int v1)] [] := by
  intro n
  induction n with
  | zero =>
    intro v1 hf
    exact none_e hf
  | succ n ih =>
    intro v1 hf
    rw [f_X12_varietyHere_2] at hf
    refine j_iload_n E 1 rfl dX12_varietyHere_2 ?_
    refine j_aload_n E 0 rfl dX12_varietyHere_3 ?_
    refine j_getM (f := 3) E cf_X12 fl_X12_24 (lt_ rfl) rfl rfl dX12_varietyHere_4 ?_
    refine j_iconst E 4 ic_4 dX12_varietyHere_7 ?_
    refine j_ialdR E rfl (vi_4 (lt_ rfl)) (4) tn_4 dX12_varietyHere_8 ?_
    refine j_icmp_ge E 68 (by decide) dX12_varietyHere_9 (fun c1 => ?_) (fun c1 => ?_)
    · rw [if_pos c1] at hf
      refine j_iconst E (-1) ic_m1 dX12_varietyHere_68 ?_
      cases hf
      exact j_iret E rfl (le_ rfl) (le_ rfl) dX12_varietyHere_69
    · rw [if_neg c1] at hf
      refine j_bipush E 16 bp_16 dX12_varietyHere_12 ?_
      refine j_bipush E 6 bp_6 dX12_varietyHere_14 ?_
      refine j_iload_n E 1 rfl dX12_varietyHere_16 ?_
      refine j_imul E dX12_varietyHere_17 ?_
      refine j_iadd E dX12_varietyHere_18 ?_
      obtain ⟨x1, hx1, hf⟩ := bnd_e hf
      refine j_name hx1 ?_
      refine j_istore_n (ls' := [(2, .int x1), (0, .ref (z + aM 0)), (1, .int v1)]) E (lt_ rfl) rfl dX12_varietyHere_19 ?_
      refine j_aload_n E 1 rfl dX12_varietyHere_20 ?_
      refine j_getM (f := 7) E cf_X12 fl_X12_239 (lt_ rfl) rfl rfl dX12_varietyHere_21 ?_
      refine j_iconst E 1 ic_1 dX12_varietyHere_24 ?_
      refine j_icmp_ne E 62 (by decide) dX12_varietyHere_25 (fun c2 => ?_) (fun c2 => ?_)
      · rw [if_neg c2] at hf
        refine j_iinc (ls' := [(1, .int (v1 + 1)), (2, .int x1), (0, .ref (z + aM 0))]) E 2 rfl (lt_ rfl) (v1 + 1) (congrArg (fun q => v1 + q) ic_1) rfl dX12_varietyHere_62 ?_
        refine j_goto E 2 (by decide) dX12_varietyHere_65 ?_
        refine j_sub [2, 0] rfl ?_
        exact ih _ hf
      · rw [if_pos c2] at hf
        refine j_aload_n E 1 rfl dX12_varietyHere_28 ?_
        refine j_getM (f := 3) E cf_X12 fl_X12_24 (lt_ rfl) rfl rfl dX12_varietyHere_29 ?_
        refine j_iload_n E 0 rfl dX12_varietyHere_32 ?_
        refine j_iconst E 1 ic_1 dX12_varietyHere_33 ?_
        refine j_iadd E dX12_varietyHere_34 ?_
        obtain ⟨x2, hx2, hf⟩ := bnd_e hf
        refine j_name hx2 ?_
        obtain ⟨g1, hf⟩ := gd_e hf
        refine j_ialdR E rfl g1 (x2.toNatClampNeg) rfl dX12_varietyHere_35 ?_
        refine j_aload_n E 1 rfl dX12_varietyHere_36 ?_
        refine j_getM (f := 9) E cf_X12 fl_X12_230 (lt_ rfl) rfl rfl dX12_varietyHere_37 ?_
        refine j_icmp_ne E 62 (by decide) dX12_varietyHere_40 (fun c3 => ?_) (fun c3 => ?_)
        · rw [if_neg c3] at hf
          refine j_iinc (ls' := [(1, .int (v1 + 1)), (2, .int x1), (0, .ref (z + aM 0))]) E 2 rfl (lt_ rfl) (v1 + 1) (congrArg (fun q => v1 + q) ic_1) rfl dX12_varietyHere_62 ?_
          refine j_goto E 2 (by decide) dX12_varietyHere_65 ?_
          refine j_sub [2, 0] rfl ?_
          exact ih _ hf
        · rw [if_pos c3] at hf
          refine j_aload_n E 1 rfl dX12_varietyHere_43 ?_
          refine j_getM (f := 3) E cf_X12 fl_X12_24 (lt_ rfl) rfl rfl dX12_varietyHere_44 ?_
          refine j_iload_n E 0 rfl dX12_varietyHere_47 ?_
          refine j_iconst E 0 ic_0 dX12_varietyHere_48 ?_
          refine j_iadd E dX12_varietyHere_49 ?_
          obtain ⟨x3, hx3, hf⟩ := bnd_e hf
          refine j_name hx3 ?_
          obtain ⟨g2, hf⟩ := gd_e hf
          refine j_ialdR E rfl g2 (x3.toNatClampNeg) rfl dX12_varietyHere_50 ?_
          refine j_i2l E dX12_varietyHere_51 ?_
          refine j_aload_n E 1 rfl dX12_varietyHere_52 ?_
          refine j_getM (f := 10) E cf_X12 fl_X12_233 (lt_ rfl) rfl rfl dX12_varietyHere_53 ?_
          refine j_lcmp E dX12_varietyHere_56 ?_
          refine j_if_ne E 62 (by decide) dX12_varietyHere_57 (fun c4 => ?_) (fun c4 => ?_)
          · rw [if_neg c4] at hf
            refine j_iinc (ls' := [(1, .int (v1 + 1)), (2, .int x1), (0, .ref (z + aM 0))]) E 2 rfl (lt_ rfl) (v1 + 1) (congrArg (fun q => v1 + q) ic_1) rfl dX12_varietyHere_62 ?_
            refine j_goto E 2 (by decide) dX12_varietyHere_65 ?_
            refine j_sub [2, 0] rfl ?_
            exact ih _ hf
          · rw [if_pos c4] at hf
            refine j_iload_n E 2 rfl dX12_varietyHere_60 ?_
            cases hf
            exact j_iret E rfl (le_ rfl) (le_ rfl) dX12_varietyHere_61
set_option maxRecDepth 20000 in
theorem c_X12_varietyHere {l : Launch} {D : DD} {z : Nat} {X : XT} {o : Int64} {f1 : Nat} {M : MT} {r : Int32} (hf : f_X12_varietyHere M = some r) : CC l yX12_varietyHere cX12_varietyHere 3 (some .int) (rmk 1 0 0) D z [.ref (z + aM 0)] (GG D z (X, (f1 + 1, M, o))) (some (.int r)) (GG D z (X, (f1 + 1, M, o))) := by
  unfold f_X12_varietyHere at hf
  refine cc_of pn_X12 (le_ rfl) (ls := [(0, .ref (z + aM 0))]) rfl ?_
  intro p e s m args below meth c E
  refine j_iconst E 0 ic_0 dX12_varietyHere_0 ?_
  refine j_istore_n (ls' := [(1, .int 0), (0, .ref (z + aM 0))]) E (lt_ rfl) rfl dX12_varietyHere_1 ?_
  refine j_sub [1, 0] rfl ?_
  exact b_X12_varietyHere_2 E 2000 _ hf
def f_X12_growerHere_2 (M : MT) : Nat → Int32 → Option Int32
  | 0, _ => none
  | n + 1, v1 => if (M.1 M.2.2 5) ≤ v1 then (some (-1)) else (bnd (40 + (2 * v1)) (fun x1 => if (M.1 0 7) = 1 then (bnd (x1 + 1) (fun x2 => gd (¬ (x2 < 0 ∨ 264 ≤ x2.toNatClampNeg)) (if (M.1 M.2.2 x2.toNatClampNeg) = (M.1 0 9) then (bnd (x1 + 0) (fun x3 => gd (¬ (x3 < 0 ∨ 264 ≤ x3.toNatClampNeg)) (if (lg_cmp ((M.1 M.2.2 x3.toNatClampNeg).toInt64) (M.2.1 10)) = 0 then (some v1) else (f_X12_growerHere_2 M n (v1 + 1))))) else (f_X12_growerHere_2 M n (v1 + 1))))) else (f_X12_growerHere_2 M n (v1 + 1))))
def f_X12_growerHere (M : MT) : Option Int32 :=
  f_X12_growerHere_2 M 2000 0
set_option maxRecDepth 20000 in
theorem b_X12_growerHere_2 {p : Program} {l : Launch} {e : Env} {s : State} {m : MethodId} {args : Array Value} {below : List Frame} {meth : Method} {c : Code} {D : DD} {z : Nat} {X : XT} {o : Int64} {f1 : Nat} {M : MT} (E : Cx p s m args meth c D z RX12 cX12_growerHere 3 (some .int)) {r : Int32} : ∀ (n : Nat) (v1 : Int32) (hf : f_X12_growerHere_2 M n v1 = some r), J p l e (rmk 1 0 0) s m args below meth c D z (GG D z (X, (f1 + 1, M, o))) 0 0 (MQ below (QC z (some (.int r)) (GG D z (X, (f1 + 1, M, o)))) args s (rmk 1 0 0).cells (rmk 1 0 0).slots (Az z)) 3 2 [(0, .ref (z + aM 0)), (1, .int v1)] [] := by
  intro n
  induction n with
  | zero =>
    intro v1 hf
    exact none_e hf
  | succ n ih =>
    intro v1 hf
    rw [f_X12_growerHere_2] at hf
    refine j_iload_n E 1 rfl dX12_growerHere_2 ?_
    refine j_aload_n E 0 rfl dX12_growerHere_3 ?_
    refine j_getM (f := 3) E cf_X12 fl_X12_24 (lt_ rfl) rfl rfl dX12_growerHere_4 ?_
    refine j_iconst E 5 ic_5 dX12_growerHere_7 ?_
    refine j_ialdR E rfl (vi_5 (lt_ rfl)) (5) tn_5 dX12_growerHere_8 ?_
    refine j_icmp_ge E 67 (by decide) dX12_growerHere_9 (fun c1 => ?_) (fun c1 => ?_)
    · rw [if_pos c1] at hf
      refine j_iconst E (-1) ic_m1 dX12_growerHere_67 ?_
      cases hf
      exact j_iret E rfl (le_ rfl) (le_ rfl) dX12_growerHere_68
    · rw [if_neg c1] at hf
      refine j_bipush E 40 bp_40 dX12_growerHere_12 ?_
      refine j_iconst E 2 ic_2 dX12_growerHere_14 ?_
      refine j_iload_n E 1 rfl dX12_growerHere_15 ?_
      refine j_imul E dX12_growerHere_16 ?_
      refine j_iadd E dX12_growerHere_17 ?_
      obtain ⟨x1, hx1, hf⟩ := bnd_e hf
      refine j_name hx1 ?_
      refine j_istore_n (ls' := [(2, .int x1), (0, .ref (z + aM 0)), (1, .int v1)]) E (lt_ rfl) rfl dX12_growerHere_18 ?_
      refine j_aload_n E 1 rfl dX12_growerHere_19 ?_
      refine j_getM (f := 7) E cf_X12 fl_X12_239 (lt_ rfl) rfl rfl dX12_growerHere_20 ?_
      refine j_iconst E 1 ic_1 dX12_growerHere_23 ?_
      refine j_icmp_ne E 61 (by decide) dX12_growerHere_24 (fun c2 => ?_) (fun c2 => ?_)
      · rw [if_neg c2] at hf
        refine j_iinc (ls' := [(1, .int (v1 + 1)), (2, .int x1), (0, .ref (z + aM 0))]) E 2 rfl (lt_ rfl) (v1 + 1) (congrArg (fun q => v1 + q) ic_1) rfl dX12_growerHere_61 ?_
        refine j_goto E 2 (by decide) dX12_growerHere_64 ?_
        refine j_sub [2, 0] rfl ?_
        exact ih _ hf
      · rw [if_pos c2] at hf
        refine j_aload_n E 1 rfl dX12_growerHere_27 ?_
        refine j_getM (f := 3) E cf_X12 fl_X12_24 (lt_ rfl) rfl rfl dX12_growerHere_28 ?_
        refine j_iload_n E 0 rfl dX12_growerHere_31 ?_
        refine j_iconst E 1 ic_1 dX12_growerHere_32 ?_
        refine j_iadd E dX12_growerHere_33 ?_
        obtain ⟨x2, hx2, hf⟩ := bnd_e hf
        refine j_name hx2 ?_
        obtain ⟨g1, hf⟩ := gd_e hf
        refine j_ialdR E rfl g1 (x2.toNatClampNeg) rfl dX12_growerHere_34 ?_
        refine j_aload_n E 1 rfl dX12_growerHere_35 ?_
        refine j_getM (f := 9) E cf_X12 fl_X12_230 (lt_ rfl) rfl rfl dX12_growerHere_36 ?_
        refine j_icmp_ne E 61 (by decide) dX12_growerHere_39 (fun c3 => ?_) (fun c3 => ?_)
        · rw [if_neg c3] at hf
          refine j_iinc (ls' := [(1, .int (v1 + 1)), (2, .int x1), (0, .ref (z + aM 0))]) E 2 rfl (lt_ rfl) (v1 + 1) (congrArg (fun q => v1 + q) ic_1) rfl dX12_growerHere_61 ?_
          refine j_goto E 2 (by decide) dX12_growerHere_64 ?_
          refine j_sub [2, 0] rfl ?_
          exact ih _ hf
        · rw [if_pos c3] at hf
          refine j_aload_n E 1 rfl dX12_growerHere_42 ?_
          refine j_getM (f := 3) E cf_X12 fl_X12_24 (lt_ rfl) rfl rfl dX12_growerHere_43 ?_
          refine j_iload_n E 0 rfl dX12_growerHere_46 ?_
          refine j_iconst E 0 ic_0 dX12_growerHere_47 ?_
          refine j_iadd E dX12_growerHere_48 ?_
          obtain ⟨x3, hx3, hf⟩ := bnd_e hf
          refine j_name hx3 ?_
          obtain ⟨g2, hf⟩ := gd_e hf
          refine j_ialdR E rfl g2 (x3.toNatClampNeg) rfl dX12_growerHere_49 ?_
          refine j_i2l E dX12_growerHere_50 ?_
          refine j_aload_n E 1 rfl dX12_growerHere_51 ?_
          refine j_getM (f := 10) E cf_X12 fl_X12_233 (lt_ rfl) rfl rfl dX12_growerHere_52 ?_
          refine j_lcmp E dX12_growerHere_55 ?_
          refine j_if_ne E 61 (by decide) dX12_growerHere_56 (fun c4 => ?_) (fun c4 => ?_)
          · rw [if_neg c4] at hf
            refine j_iinc (ls' := [(1, .int (v1 + 1)), (2, .int x1), (0, .ref (z + aM 0))]) E 2 rfl (lt_ rfl) (v1 + 1) (congrArg (fun q => v1 + q) ic_1) rfl dX12_growerHere_61 ?_
            refine j_goto E 2 (by decide) dX12_growerHere_64 ?_
            refine j_sub [2, 0] rfl ?_
            exact ih _ hf
          · rw [if_pos c4] at hf
            refine j_iload_n E 2 rfl dX12_growerHere_59 ?_
            cases hf
            exact j_iret E rfl (le_ rfl) (le_ rfl) dX12_growerHere_60
set_option maxRecDepth 20000 in
theorem c_X12_growerHere {l : Launch} {D : DD} {z : Nat} {X : XT} {o : Int64} {f1 : Nat} {M : MT} {r : Int32} (hf : f_X12_growerHere M = some r) : CC l yX12_growerHere cX12_growerHere 3 (some .int) (rmk 1 0 0) D z [.ref (z + aM 0)] (GG D z (X, (f1 + 1, M, o))) (some (.int r)) (GG D z (X, (f1 + 1, M, o))) := by
  unfold f_X12_growerHere at hf
  refine cc_of pn_X12 (le_ rfl) (ls := [(0, .ref (z + aM 0))]) rfl ?_
  intro p e s m args below meth c E
  refine j_iconst E 0 ic_0 dX12_growerHere_0 ?_
  refine j_istore_n (ls' := [(1, .int 0), (0, .ref (z + aM 0))]) E (lt_ rfl) rfl dX12_growerHere_1 ?_
  refine j_sub [1, 0] rfl ?_
  exact b_X12_growerHere_2 E 2000 _ hf
