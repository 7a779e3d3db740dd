def f_J6_bitCount_0f7a4 (v0 : Int32) : Option Int32 :=
  bnd (v0 - (((v0.toUInt32 >>> ((1 : Int32).toUInt32 &&& Int32.toUInt32 31)).toInt32) &&& 1431655765)) (fun x1 => bnd ((x1 &&& 858993459) + (((x1.toUInt32 >>> ((2 : Int32).toUInt32 &&& Int32.toUInt32 31)).toInt32) &&& 858993459)) (fun x2 => bnd ((x2 + ((x2.toUInt32 >>> ((4 : Int32).toUInt32 &&& Int32.toUInt32 31)).toInt32)) &&& 252645135) (fun x3 => bnd (x3 + ((x3.toUInt32 >>> ((8 : Int32).toUInt32 &&& Int32.toUInt32 31)).toInt32)) (fun x4 => bnd (x4 + ((x4.toUInt32 >>> ((16 : Int32).toUInt32 &&& Int32.toUInt32 31)).toInt32)) (fun x5 => some (x5 &&& 63))))))
set_option maxRecDepth 20000 in
theorem c_J6_bitCount_0f7a4 {l : Launch} {D : DD} {z : Nat} {P0 : Heap → Prop} {v0 : Int32} {r : Int32} (hf : f_J6_bitCount_0f7a4 v0 = some r) : CC l yJ6_bitCount_0f7a4 cJ6_bitCount_0f7a4 1 (some .int) (rmk 1 0 0) D z [.int v0] P0 (some (.int r)) P0 := by
  unfold f_J6_bitCount_0f7a4 at hf
  refine cc_of pn_J6 (le_ rfl) (ls := [(0, .int v0)]) rfl ?_
  intro p e s m args below meth c E
  refine j_iload_n E 0 rfl dJ6_bitCount_0f7a4_0 ?_
  refine j_iload_n E 0 rfl dJ6_bitCount_0f7a4_1 ?_
  refine j_iconst E 1 ic_1 dJ6_bitCount_0f7a4_2 ?_
  refine j_iushr E dJ6_bitCount_0f7a4_3 ?_
  refine jl_ldcw E ct_J6_265 dJ6_bitCount_0f7a4_4 ?_
  refine j_iand E dJ6_bitCount_0f7a4_7 ?_
  refine j_isub E dJ6_bitCount_0f7a4_8 ?_
  obtain ⟨x1, hx1, hf⟩ := bnd_e hf
  refine j_name hx1 ?_
  refine j_istore_n (ls' := [(0, .int x1)]) E (lt_ rfl) rfl dJ6_bitCount_0f7a4_9 ?_
  refine j_iload_n E 0 rfl dJ6_bitCount_0f7a4_10 ?_
  refine jl_ldcw E ct_J6_266 dJ6_bitCount_0f7a4_11 ?_
  refine j_iand E dJ6_bitCount_0f7a4_14 ?_
  refine j_iload_n E 0 rfl dJ6_bitCount_0f7a4_15 ?_
  refine j_iconst E 2 ic_2 dJ6_bitCount_0f7a4_16 ?_
  refine j_iushr E dJ6_bitCount_0f7a4_17 ?_
  refine jl_ldcw E ct_J6_266 dJ6_bitCount_0f7a4_18 ?_
  refine j_iand E dJ6_bitCount_0f7a4_21 ?_
  refine j_iadd E dJ6_bitCount_0f7a4_22 ?_
  obtain ⟨x2, hx2, hf⟩ := bnd_e hf
  refine j_name hx2 ?_
  refine j_istore_n (ls' := [(0, .int x2)]) E (lt_ rfl) rfl dJ6_bitCount_0f7a4_23 ?_
  refine j_iload_n E 0 rfl dJ6_bitCount_0f7a4_24 ?_
  refine j_iload_n E 0 rfl dJ6_bitCount_0f7a4_25 ?_
  refine j_iconst E 4 ic_4 dJ6_bitCount_0f7a4_26 ?_
  refine j_iushr E dJ6_bitCount_0f7a4_27 ?_
  refine j_iadd E dJ6_bitCount_0f7a4_28 ?_
  refine jl_ldcw E ct_J6_267 dJ6_bitCount_0f7a4_29 ?_
  refine j_iand E dJ6_bitCount_0f7a4_32 ?_
  obtain ⟨x3, hx3, hf⟩ := bnd_e hf
  refine j_name hx3 ?_
  refine j_istore_n (ls' := [(0, .int x3)]) E (lt_ rfl) rfl dJ6_bitCount_0f7a4_33 ?_
  refine j_iload_n E 0 rfl dJ6_bitCount_0f7a4_34 ?_
  refine j_iload_n E 0 rfl dJ6_bitCount_0f7a4_35 ?_
  refine j_bipush E 8 bp_8 dJ6_bitCount_0f7a4_36 ?_
  refine j_iushr E dJ6_bitCount_0f7a4_38 ?_
  refine j_iadd E dJ6_bitCount_0f7a4_39 ?_
  obtain ⟨x4, hx4, hf⟩ := bnd_e hf
  refine j_name hx4 ?_
  refine j_istore_n (ls' := [(0, .int x4)]) E (lt_ rfl) rfl dJ6_bitCount_0f7a4_40 ?_
  refine j_iload_n E 0 rfl dJ6_bitCount_0f7a4_41 ?_
  refine j_iload_n E 0 rfl dJ6_bitCount_0f7a4_42 ?_
  refine j_bipush E 16 bp_16 dJ6_bitCount_0f7a4_43 ?_
  refine j_iushr E dJ6_bitCount_0f7a4_45 ?_
  refine j_iadd E dJ6_bitCount_0f7a4_46 ?_
  obtain ⟨x5, hx5, hf⟩ := bnd_e hf
  refine j_name hx5 ?_
  refine j_istore_n (ls' := [(0, .int x5)]) E (lt_ rfl) rfl dJ6_bitCount_0f7a4_47 ?_
  refine j_iload_n E 0 rfl dJ6_bitCount_0f7a4_48 ?_
  refine j_bipush E 63 bp_63 dJ6_bitCount_0f7a4_49 ?_
  refine j_iand E dJ6_bitCount_0f7a4_51 ?_
  cases hf
  exact j_iret E rfl (le_ rfl) (le_ rfl) dJ6_bitCount_0f7a4_52
def f_L_draw (sc : Nat × (Nat → Int32)) (v1 : Int32) (v2 : Int32) : Option Int32 :=
  bnd (nI sc.1) (fun x1 => if x1 ≤ v1 then (gd (¬ v2 = 0) (some ((0 &&& 2147483647) - (0 &&& 2147483647) / v2 * v2))) else (gd (¬ (v1 < 0 ∨ sc.1 ≤ v1.toNatClampNeg)) (bnd (sc.2 v1.toNatClampNeg) (fun x2 => gd (¬ v2 = 0) (some ((x2 &&& 2147483647) - (x2 &&& 2147483647) / v2 * v2))))))
set_option maxRecDepth 20000 in
theorem c_L_draw {l : Launch} {D : DD} {z : Nat} {P0 : Heap → Prop} {v1 : Int32} {v2 : Int32} {r : Int32} (hf : f_L_draw D.2.2.2.2.2.2.2 v1 v2 = some r) : CC l yL_draw cL_draw 3 (some .int) (rmk 1 0 0) D z [.ref D.2.2.2.2.2.2.1, .int v1, .int v2] P0 (some (.int r)) P0 := by
  unfold f_L_draw at hf
  refine cc_of pn_L (le_ rfl) (ls := [(0, .ref D.2.2.2.2.2.2.1), (1, .int v1), (2, .int v2)]) rfl ?_
  intro p e s m args below meth c E
  refine j_iload_n E 1 rfl dL_draw_0 ?_
  refine j_aload_n E 0 rfl dL_draw_1 ?_
  obtain ⟨x1, hx1, hf⟩ := bnd_e hf
  refine jl_slen E hx1.symm dL_draw_2 ?_
  refine j_icmp_ge E 12 (by decide) dL_draw_3 (fun c1 => ?_) (fun c1 => ?_)
  · rw [if_pos c1] at hf
    refine j_iconst E 0 ic_0 dL_draw_12 ?_
    refine j_ldc E ct_L_7 dL_draw_13 ?_
    refine j_iand E dL_draw_15 ?_
    refine j_iload_n E 2 rfl dL_draw_16 ?_
    obtain ⟨g1, hf⟩ := gd_e hf
    refine j_irem E g1 dL_draw_17 ?_
    cases hf
    exact j_iret E rfl (le_ rfl) (le_ rfl) dL_draw_18
  · rw [if_neg c1] at hf
    refine j_aload_n E 0 rfl dL_draw_6 ?_
    refine j_iload_n E 1 rfl dL_draw_7 ?_
    obtain ⟨g2, hf⟩ := gd_e hf
    obtain ⟨x2, hx2, hf⟩ := bnd_e hf
    refine jl_sld E g2 hx2.symm dL_draw_8 ?_
    refine j_goto E 13 (by decide) dL_draw_9 ?_
    refine j_ldc E ct_L_7 dL_draw_13 ?_
    refine j_iand E dL_draw_15 ?_
    refine j_iload_n E 2 rfl dL_draw_16 ?_
    obtain ⟨g3, hf⟩ := gd_e hf
    refine j_irem E g3 dL_draw_17 ?_
    cases hf
    exact j_iret E rfl (le_ rfl) (le_ rfl) dL_draw_18
def f_L_yields (sc : Nat × (Nat → Int32)) : Option Int32 :=
  bn1 (f_L_draw sc 0 60) (fun r1 => some (1 + r1))
set_option maxRecDepth 20000 in
theorem c_L_yields {l : Launch} {D : DD} {z : Nat} {P0 : Heap → Prop} {r : Int32} (hf : f_L_yields D.2.2.2.2.2.2.2 = some r) : CC l yL_yields cL_yields 1 (some .int) (rmk 2 0 0) D z [.ref D.2.2.2.2.2.2.1] P0 (some (.int r)) P0 := by
  unfold f_L_yields at hf
  refine cc_of pn_L (le_ rfl) (ls := [(0, .ref D.2.2.2.2.2.2.1)]) rfl ?_
  intro p e s m args below meth c E
  refine j_iconst E 1 ic_1 dL_yields_0 ?_
  refine j_aload_n E 0 rfl dL_yields_1 ?_
  refine j_iconst E 0 ic_0 dL_yields_2 ?_
  refine j_bipush E 60 bp_60 dL_yields_3 ?_
  obtain ⟨r1, h1, hf⟩ := bn1_e hf
  refine j_invS [.int 1] [.int r1, .int 1] E (c_L_draw h1) ml_L_40 ms_L_draw rfl ⟨le_ rfl, le_ rfl⟩ rfl rfl (le_ rfl) ⟨le_ rfl, le_ rfl⟩ dL_yields_5 ?_
  refine j_iadd E dL_yields_8 ?_
  cases hf
  exact j_iret E rfl (le_ rfl) (le_ rfl) dL_yields_9
def f_L_money (sc : Nat × (Nat → Int32)) : Option Int32 :=
  bn1 (f_L_draw sc 1 30000) (fun r1 => some r1)
set_option maxRecDepth 20000 in
theorem c_L_money {l : Launch} {D : DD} {z : Nat} {P0 : Heap → Prop} {r : Int32} (hf : f_L_money D.2.2.2.2.2.2.2 = some r) : CC l yL_money cL_money 1 (some .int) (rmk 2 0 0) D z [.ref D.2.2.2.2.2.2.1] P0 (some (.int r)) P0 := by
  unfold f_L_money at hf
  refine cc_of pn_L (le_ rfl) (ls := [(0, .ref D.2.2.2.2.2.2.1)]) rfl ?_
  intro p e s m args below meth c E
  refine j_aload_n E 0 rfl dL_money_0 ?_
  refine j_iconst E 1 ic_1 dL_money_1 ?_
  refine j_sipush E 30000 sp_30000 dL_money_2 ?_
  obtain ⟨r1, h1, hf⟩ := bn1_e hf
  refine j_invS [] [.int r1] E (c_L_draw h1) ml_L_40 ms_L_draw rfl ⟨le_ rfl, le_ rfl⟩ rfl rfl (le_ rfl) ⟨le_ rfl, le_ rfl⟩ dL_money_5 ?_
  cases hf
  exact j_iret E rfl (le_ rfl) (le_ rfl) dL_money_8
def f_L_grades (sc : Nat × (Nat → Int32)) : Option Int32 :=
  bn1 (f_L_draw sc 2 4) (fun r1 => some (1 + r1))
set_option maxRecDepth 20000 in
theorem c_L_grades {l : Launch} {D : DD} {z : Nat} {P0 : Heap → Prop} {r : Int32} (hf : f_L_grades D.2.2.2.2.2.2.2 = some r) : CC l yL_grades cL_grades 1 (some .int) (rmk 2 0 0) D z [.ref D.2.2.2.2.2.2.1] P0 (some (.int r)) P0 := by
  unfold f_L_grades at hf
  refine cc_of pn_L (le_ rfl) (ls := [(0, .ref D.2.2.2.2.2.2.1)]) rfl ?_
  intro p e s m args below meth c E
  refine j_iconst E 1 ic_1 dL_grades_0 ?_
  refine j_aload_n E 0 rfl dL_grades_1 ?_
  refine j_iconst E 2 ic_2 dL_grades_2 ?_
  refine j_iconst E 4 ic_4 dL_grades_3 ?_
  obtain ⟨r1, h1, hf⟩ := bn1_e hf
  refine j_invS [.int 1] [.int r1, .int 1] E (c_L_draw h1) ml_L_40 ms_L_draw rfl ⟨le_ rfl, le_ rfl⟩ rfl rfl (le_ rfl) ⟨le_ rfl, le_ rfl⟩ dL_grades_4 ?_
  refine j_iadd E dL_grades_7 ?_
  cases hf
  exact j_iret E rfl (le_ rfl) (le_ rfl) dL_grades_8
def f_L_lowest (sc : Nat × (Nat → Int32)) (v1 : Int32) : Option Int32 :=
  bn1 (f_L_draw sc (6 + v1) 30) (fun r1 => some ((140 - (35 * v1)) - r1))
set_option maxRecDepth 20000 in
theorem c_L_lowest {l : Launch} {D : DD} {z : Nat} {P0 : Heap → Prop} {v1 : Int32} {r : Int32} (hf : f_L_lowest D.2.2.2.2.2.2.2 v1 = some r) : CC l yL_lowest cL_lowest 2 (some .int) (rmk 2 0 0) D z [.ref D.2.2.2.2.2.2.1, .int v1] P0 (some (.int r)) P0 := by
  unfold f_L_lowest at hf
  refine cc_of pn_L (le_ rfl) (ls := [(0, .ref D.2.2.2.2.2.2.1), (1, .int v1)]) rfl ?_
  intro p e s m args below meth c E
  refine j_sipush E 140 sp_140 dL_lowest_0 ?_
  refine j_bipush E 35 bp_35 dL_lowest_3 ?_
  refine j_iload_n E 1 rfl dL_lowest_5 ?_
  refine j_imul E dL_lowest_6 ?_
  refine j_isub E dL_lowest_7 ?_
  refine j_aload_n E 0 rfl dL_lowest_8 ?_
  refine j_bipush E 6 bp_6 dL_lowest_9 ?_
  refine j_iload_n E 1 rfl dL_lowest_11 ?_
  refine j_iadd E dL_lowest_12 ?_
  refine j_bipush E 30 bp_30 dL_lowest_13 ?_
  obtain ⟨r1, h1, hf⟩ := bn1_e hf
  refine j_invS [.int (140 - (35 * v1))] [.int r1, .int (140 - (35 * v1))] E (c_L_draw h1) ml_L_40 ms_L_draw rfl ⟨le_ rfl, le_ rfl⟩ rfl rfl (le_ rfl) ⟨le_ rfl, le_ rfl⟩ dL_lowest_15 ?_
  refine j_isub E dL_lowest_18 ?_
  cases hf
  exact j_iret E rfl (le_ rfl) (le_ rfl) dL_lowest_19
def f_L_wines (sc : Nat × (Nat → Int32)) : Option Int32 :=
  bn1 (f_L_draw sc 3 4) (fun r1 => some r1)
set_option maxRecDepth 20000 in
theorem c_L_wines {l : Launch} {D : DD} {z : Nat} {P0 : Heap → Prop} {r : Int32} (hf : f_L_wines D.2.2.2.2.2.2.2 = some r) : CC l yL_wines cL_wines 1 (some .int) (rmk 2 0 0) D z [.ref D.2.2.2.2.2.2.1] P0 (some (.int r)) P0 := by
  unfold f_L_wines at hf
  refine cc_of pn_L (le_ rfl) (ls := [(0, .ref D.2.2.2.2.2.2.1)]) rfl ?_
  intro p e s m args below meth c E
  refine j_aload_n E 0 rfl dL_wines_0 ?_
  refine j_iconst E 3 ic_3 dL_wines_1 ?_
  refine j_iconst E 4 ic_4 dL_wines_2 ?_
  obtain ⟨r1, h1, hf⟩ := bn1_e hf
  refine j_invS [] [.int r1] E (c_L_draw h1) ml_L_40 ms_L_draw rfl ⟨le_ rfl, le_ rfl⟩ rfl rfl (le_ rfl) ⟨le_ rfl, le_ rfl⟩ dL_wines_3 ?_
  cases hf
  exact j_iret E rfl (le_ rfl) (le_ rfl) dL_wines_6
def f_L_growers (sc : Nat × (Nat → Int32)) : Option Int32 :=
  bn1 (f_L_draw sc 4 5) (fun r1 => some r1)
set_option maxRecDepth 20000 in
theorem c_L_growers {l : Launch} {D : DD} {z : Nat} {P0 : Heap → Prop} {r : Int32} (hf : f_L_growers D.2.2.2.2.2.2.2 = some r) : CC l yL_growers cL_growers 1 (some .int) (rmk 2 0 0) D z [.ref D.2.2.2.2.2.2.1] P0 (some (.int r)) P0 := by
  unfold f_L_growers at hf
  refine cc_of pn_L (le_ rfl) (ls := [(0, .ref D.2.2.2.2.2.2.1)]) rfl ?_
  intro p e s m args below meth c E
  refine j_aload_n E 0 rfl dL_growers_0 ?_
  refine j_iconst E 4 ic_4 dL_growers_1 ?_
  refine j_iconst E 5 ic_5 dL_growers_2 ?_
  obtain ⟨r1, h1, hf⟩ := bn1_e hf
  refine j_invS [] [.int r1] E (c_L_draw h1) ml_L_40 ms_L_draw rfl ⟨le_ rfl, le_ rfl⟩ rfl rfl (le_ rfl) ⟨le_ rfl, le_ rfl⟩ dL_growers_3 ?_
  cases hf
  exact j_iret E rfl (le_ rfl) (le_ rfl) dL_growers_6
def f_L_plots (sc : Nat × (Nat → Int32)) : Option Int32 :=
  bn1 (f_L_wines sc) (fun r1 => if r1 = 0 then (some 0) else (bn1 (f_L_growers sc) (fun r2 => if r2 = 0 then (some 0) else (bn1 (f_L_draw sc 5 6) (fun r3 => some r3)))))
set_option maxRecDepth 20000 in
theorem c_L_plots {l : Launch} {D : DD} {z : Nat} {P0 : Heap → Prop} {r : Int32} (hf : f_L_plots D.2.2.2.2.2.2.2 = some r) : CC l yL_plots cL_plots 1 (some .int) (rmk 3 0 0) D z [.ref D.2.2.2.2.2.2.1] P0 (some (.int r)) P0 := by
  unfold f_L_plots at hf
  refine cc_of pn_L (le_ rfl) (ls := [(0, .ref D.2.2.2.2.2.2.1)]) rfl ?_
  intro p e s m args below meth c E
  refine j_aload_n E 0 rfl dL_plots_0 ?_
  obtain ⟨r1, h1, hf⟩ := bn1_e hf
  refine j_invS [] [.int r1] E (c_L_wines h1) ml_L_44 ms_L_wines rfl ⟨le_ rfl, le_ rfl⟩ rfl rfl (le_ rfl) ⟨le_ rfl, le_ rfl⟩ dL_plots_1 ?_
  refine j_if_eq E 14 (by decide) dL_plots_4 (fun c1 => ?_) (fun c1 => ?_)
  · rw [if_pos c1] at hf
    refine j_iconst E 0 ic_0 dL_plots_14 ?_
    refine j_goto E 25 (by decide) dL_plots_15 ?_
    cases hf
    exact j_iret E rfl (le_ rfl) (le_ rfl) dL_plots_25
  · rw [if_neg c1] at hf
    refine j_aload_n E 0 rfl dL_plots_7 ?_
    obtain ⟨r2, h2, hf⟩ := bn1_e hf
    refine j_invS [] [.int r2] E (c_L_growers h2) ml_L_48 ms_L_growers rfl ⟨le_ rfl, le_ rfl⟩ rfl rfl (le_ rfl) ⟨le_ rfl, le_ rfl⟩ dL_plots_8 ?_
    refine j_if_ne E 18 (by decide) dL_plots_11 (fun c2 => ?_) (fun c2 => ?_)
    · rw [if_neg c2] at hf
      refine j_aload_n E 0 rfl dL_plots_18 ?_
      refine j_iconst E 5 ic_5 dL_plots_19 ?_
      refine j_bipush E 6 bp_6 dL_plots_20 ?_
      obtain ⟨r3, h3, hf⟩ := bn1_e hf
      refine j_invS [] [.int r3] E (c_L_draw h3) ml_L_40 ms_L_draw rfl ⟨le_ rfl, le_ rfl⟩ rfl rfl (le_ rfl) ⟨le_ rfl, le_ rfl⟩ dL_plots_22 ?_
      cases hf
      exact j_iret E rfl (le_ rfl) (le_ rfl) dL_plots_25
    · rw [if_pos c2] at hf
      refine j_iconst E 0 ic_0 dL_plots_14 ?_
      refine j_goto E 25 (by decide) dL_plots_15 ?_
      cases hf
      exact j_iret E rfl (le_ rfl) (le_ rfl) dL_plots_25
def f_L_cents (sc : Nat × (Nat → Int32)) (v1 : Int32) (v2 : Int32) : Option Int32 :=
  bn1 (f_L_draw sc ((10 + (4 * v1)) + v2) 30) (fun r1 => some r1)
set_option maxRecDepth 20000 in
theorem c_L_cents {l : Launch} {D : DD} {z : Nat} {P0 : Heap → Prop} {v1 : Int32} {v2 : Int32} {r : Int32} (hf : f_L_cents D.2.2.2.2.2.2.2 v1 v2 = some r) : CC l yL_cents cL_cents 3 (some .int) (rmk 2 0 0) D z [.ref D.2.2.2.2.2.2.1, .int v1, .int v2] P0 (some (.int r)) P0 := by
  unfold f_L_cents at hf
  refine cc_of pn_L (le_ rfl) (ls := [(0, .ref D.2.2.2.2.2.2.1), (1, .int v1), (2, .int v2)]) rfl ?_
  intro p e s m args below meth c E
  refine j_aload_n E 0 rfl dL_cents_0 ?_
  refine j_bipush E 10 bp_10 dL_cents_1 ?_
  refine j_iconst E 4 ic_4 dL_cents_3 ?_
  refine j_iload_n E 1 rfl dL_cents_4 ?_
  refine j_imul E dL_cents_5 ?_
  refine j_iadd E dL_cents_6 ?_
  refine j_iload_n E 2 rfl dL_cents_7 ?_
  refine j_iadd E dL_cents_8 ?_
  refine j_bipush E 30 bp_30 dL_cents_9 ?_
  obtain ⟨r1, h1, hf⟩ := bn1_e hf
  refine j_invS [] [.int r1] E (c_L_draw h1) ml_L_40 ms_L_draw rfl ⟨le_ rfl, le_ rfl⟩ rfl rfl (le_ rfl) ⟨le_ rfl, le_ rfl⟩ dL_cents_11 ?_
  cases hf
  exact j_iret E rfl (le_ rfl) (le_ rfl) dL_cents_14
def f_L_owner (sc : Nat × (Nat → Int32)) (v1 : Int32) : Option Int32 :=
  bn1 (f_L_growers sc) (fun r1 => bn1 (f_L_draw sc (24 + (3 * v1)) r1) (fun r2 => some r2))
set_option maxRecDepth 20000 in
theorem c_L_owner {l : Launch} {D : DD} {z : Nat} {P0 : Heap → Prop} {v1 : Int32} {r : Int32} (hf : f_L_owner D.2.2.2.2.2.2.2 v1 = some r) : CC l yL_owner cL_owner 2 (some .int) (rmk 3 0 0) D z [.ref D.2.2.2.2.2.2.1, .int v1] P0 (some (.int r)) P0 := by
  unfold f_L_owner at hf
  refine cc_of pn_L (le_ rfl) (ls := [(0, .ref D.2.2.2.2.2.2.1), (1, .int v1)]) rfl ?_
  intro p e s m args below meth c E
  refine j_aload_n E 0 rfl dL_owner_0 ?_
  refine j_bipush E 24 bp_24 dL_owner_1 ?_
  refine j_iconst E 3 ic_3 dL_owner_3 ?_
  refine j_iload_n E 1 rfl dL_owner_4 ?_
  refine j_imul E dL_owner_5 ?_
  refine j_iadd E dL_owner_6 ?_
  refine j_aload_n E 0 rfl dL_owner_7 ?_
  obtain ⟨r1, h1, hf⟩ := bn1_e hf
  refine j_invS [.int (24 + (3 * v1)), .ref D.2.2.2.2.2.2.1] [.int r1, .int (24 + (3 * v1)), .ref D.2.2.2.2.2.2.1] E (c_L_growers h1) ml_L_48 ms_L_growers rfl ⟨le_ rfl, le_ rfl⟩ rfl rfl (le_ rfl) ⟨le_ rfl, le_ rfl⟩ dL_owner_8 ?_
  obtain ⟨r2, h2, hf⟩ := bn1_e hf
  refine j_invS [] [.int r2] E (c_L_draw h2) ml_L_40 ms_L_draw rfl ⟨le_ rfl, le_ rfl⟩ rfl rfl (le_ rfl) ⟨le_ rfl, le_ rfl⟩ dL_owner_11 ?_
  cases hf
  exact j_iret E rfl (le_ rfl) (le_ rfl) dL_owner_14
def f_L_wine (sc : Nat × (Nat → Int32)) (v1 : Int32) : Option Int32 :=
  bn1 (f_L_wines sc) (fun r1 => bn1 (f_L_draw sc (25 + (3 * v1)) r1) (fun r2 => some r2))
set_option maxRecDepth 20000 in
theorem c_L_wine {l : Launch} {D : DD} {z : Nat} {P0 : Heap → Prop} {v1 : Int32} {r : Int32} (hf : f_L_wine D.2.2.2.2.2.2.2 v1 = some r) : CC l yL_wine cL_wine 2 (some .int) (rmk 3 0 0) D z [.ref D.2.2.2.2.2.2.1, .int v1] P0 (some (.int r)) P0 := by
  unfold f_L_wine at hf
  refine cc_of pn_L (le_ rfl) (ls := [(0, .ref D.2.2.2.2.2.2.1), (1, .int v1)]) rfl ?_
  intro p e s m args below meth c E
  refine j_aload_n E 0 rfl dL_wine_0 ?_
  refine j_bipush E 25 bp_25 dL_wine_1 ?_
  refine j_iconst E 3 ic_3 dL_wine_3 ?_
  refine j_iload_n E 1 rfl dL_wine_4 ?_
  refine j_imul E dL_wine_5 ?_
  refine j_iadd E dL_wine_6 ?_
  refine j_aload_n E 0 rfl dL_wine_7 ?_
  obtain ⟨r1, h1, hf⟩ := bn1_e hf
  refine j_invS [.int (25 + (3 * v1)), .ref D.2.2.2.2.2.2.1] [.int r1, .int (25 + (3 * v1)), .ref D.2.2.2.2.2.2.1] E (c_L_wines h1) ml_L_44 ms_L_wines rfl ⟨le_ rfl, le_ rfl⟩ rfl rfl (le_ rfl) ⟨le_ rfl, le_ rfl⟩ dL_wine_8 ?_
  obtain ⟨r2, h2, hf⟩ := bn1_e hf
  refine j_invS [] [.int r2] E (c_L_draw h2) ml_L_40 ms_L_draw rfl ⟨le_ rfl, le_ rfl⟩ rfl rfl (le_ rfl) ⟨le_ rfl, le_ rfl⟩ dL_wine_11 ?_
  cases hf
  exact j_iret E rfl (le_ rfl) (le_ rfl) dL_wine_14
def f_L_area (sc : Nat × (Nat → Int32)) (v1 : Int32) : Option Int32 :=
  bn1 (f_L_draw sc (26 + (3 * v1)) 40) (fun r1 => some (1 + r1))
set_option maxRecDepth 20000 in
theorem c_L_area {l : Launch} {D : DD} {z : Nat} {P0 : Heap → Prop} {v1 : Int32} {r : Int32} (hf : f_L_area D.2.2.2.2.2.2.2 v1 = some r) : CC l yL_area cL_area 2 (some .int) (rmk 2 0 0) D z [.ref D.2.2.2.2.2.2.1, .int v1] P0 (some (.int r)) P0 := by
  unfold f_L_area at hf
  refine cc_of pn_L (le_ rfl) (ls := [(0, .ref D.2.2.2.2.2.2.1), (1, .int v1)]) rfl ?_
  intro p e s m args below meth c E
  refine j_iconst E 1 ic_1 dL_area_0 ?_
  refine j_aload_n E 0 rfl dL_area_1 ?_
  refine j_bipush E 26 bp_26 dL_area_2 ?_
  refine j_iconst E 3 ic_3 dL_area_4 ?_
  refine j_iload_n E 1 rfl dL_area_5 ?_
  refine j_imul E dL_area_6 ?_
  refine j_iadd E dL_area_7 ?_
  refine j_bipush E 40 bp_40 dL_area_8 ?_
  obtain ⟨r1, h1, hf⟩ := bn1_e hf
  refine j_invS [.int 1] [.int r1, .int 1] E (c_L_draw h1) ml_L_40 ms_L_draw rfl ⟨le_ rfl, le_ rfl⟩ rfl rfl (le_ rfl) ⟨le_ rfl, le_ rfl⟩ dL_area_10 ?_
  refine j_iadd E dL_area_13 ?_
  cases hf
  exact j_iret E rfl (le_ rfl) (le_ rfl) dL_area_14
def f_L_tanks (sc : Nat × (Nat → Int32)) : Option Int32 :=
  bn1 (f_L_draw sc 42 6) (fun r1 => some r1)
set_option maxRecDepth 20000 in
theorem c_L_tanks {l : Launch} {D : DD} {z : Nat} {P0 : Heap → Prop} {r : Int32} (hf : f_L_tanks D.2.2.2.2.2.2.2 = some r) : CC l yL_tanks cL_tanks 1 (some .int) (rmk 2 0 0) D z [.ref D.2.2.2.2.2.2.1] P0 (some (.int r)) P0 := by
  unfold f_L_tanks at hf
  refine cc_of pn_L (le_ rfl) (ls := [(0, .ref D.2.2.2.2.2.2.1)]) rfl ?_
  intro p e s m args below meth c E
  refine j_aload_n E 0 rfl dL_tanks_0 ?_
  refine j_bipush E 42 bp_42 dL_tanks_1 ?_
  refine j_bipush E 6 bp_6 dL_tanks_3 ?_
  obtain ⟨r1, h1, hf⟩ := bn1_e hf
  refine j_invS [] [.int r1] E (c_L_draw h1) ml_L_40 ms_L_draw rfl ⟨le_ rfl, le_ rfl⟩ rfl rfl (le_ rfl) ⟨le_ rfl, le_ rfl⟩ dL_tanks_5 ?_
  cases hf
  exact j_iret E rfl (le_ rfl) (le_ rfl) dL_tanks_8
def f_L_capacity (sc : Nat × (Nat → Int32)) (v1 : Int32) : Option Int32 :=
  bn1 (f_L_draw sc (43 + v1) 3000) (fun r1 => some (1 + r1))
set_option maxRecDepth 20000 in
theorem c_L_capacity {l : Launch} {D : DD} {z : Nat} {P0 : Heap → Prop} {v1 : Int32} {r : Int32} (hf : f_L_capacity D.2.2.2.2.2.2.2 v1 = some r) : CC l yL_capacity cL_capacity 2 (some .int) (rmk 2 0 0) D z [.ref D.2.2.2.2.2.2.1, .int v1] P0 (some (.int r)) P0 := by
  unfold f_L_capacity at hf
  refine cc_of pn_L (le_ rfl) (ls := [(0, .ref D.2.2.2.2.2.2.1), (1, .int v1)]) rfl ?_
  intro p e s m args below meth c E
  refine j_iconst E 1 ic_1 dL_capacity_0 ?_
  refine j_aload_n E 0 rfl dL_capacity_1 ?_
  refine j_bipush E 43 bp_43 dL_capacity_2 ?_
  refine j_iload_n E 1 rfl dL_capacity_4 ?_
  refine j_iadd E dL_capacity_5 ?_
  refine j_sipush E 3000 sp_3000 dL_capacity_6 ?_
  obtain ⟨r1, h1, hf⟩ := bn1_e hf
  refine j_invS [.int 1] [.int r1, .int 1] E (c_L_draw h1) ml_L_40 ms_L_draw rfl ⟨le_ rfl, le_ rfl⟩ rfl rfl (le_ rfl) ⟨le_ rfl, le_ rfl⟩ dL_capacity_9 ?_
  refine j_iadd E dL_capacity_12 ?_
  cases hf
  exact j_iret E rfl (le_ rfl) (le_ rfl) dL_capacity_13
def f_L_grade_2 (sc : Nat × (Nat → Int32)) (v1 : Int32) : Nat → Int32 → Option Int32
  | 0, _ => none
  | n + 1, v2 => bn1 (f_L_grades sc) (fun r1 => if r1 ≤ v2 then (some (-1)) else (bn1 (f_L_lowest sc v2) (fun r2 => if v1 < r2 then (f_L_grade_2 sc v1 n (v2 + 1)) else (some v2))))
def f_L_grade (sc : Nat × (Nat → Int32)) (v1 : Int32) : Option Int32 :=
  f_L_grade_2 sc v1 2000 0
set_option maxRecDepth 20000 in
theorem b_L_grade_2 {p : Program} {l : Launch} {e : Env} {s : State} {m : MethodId} {args : Array Value} {below : List Frame} {meth : Method} {c : Code} {D : DD} {z : Nat} {P0 : Heap → Prop} {v1 : Int32} (E : Cx p s m args meth c D z RL cL_grade 3 (some .int)) {r : Int32} : ∀ (n : Nat) (v2 : Int32) (hf : f_L_grade_2 D.2.2.2.2.2.2.2 v1 n v2 = some r), J p l e (rmk 3 0 0) s m args below meth c D z P0 0 0 (MQ below (QC z (some (.int r)) P0) args s (rmk 3 0 0).cells (rmk 3 0 0).slots (Az z)) 3 2 [(0, .ref D.2.2.2.2.2.2.1), (1, .int v1), (2, .int v2)] [] := by
  intro n
  induction n with
  | zero =>
    intro v2 hf
    exact none_e hf
  | succ n ih =>
    intro v2 hf
    rw [f_L_grade_2] at hf
    refine j_iload_n E 2 rfl dL_grade_2 ?_
    refine j_aload_n E 0 rfl dL_grade_3 ?_
    obtain ⟨r1, h1, hf⟩ := bn1_e hf
    refine j_invS [.int v2] [.int r1, .int v2] E (c_L_grades h1) ml_L_51 ms_L_grades rfl ⟨le_ rfl, le_ rfl⟩ rfl rfl (le_ rfl) ⟨le_ rfl, le_ rfl⟩ dL_grade_4 ?_
    refine j_icmp_ge E 27 (by decide) dL_grade_7 (fun c1 => ?_) (fun c1 => ?_)
    · rw [if_pos c1] at hf
      refine j_iconst E (-1) ic_m1 dL_grade_27 ?_
      cases hf
      exact j_iret E rfl (le_ rfl) (le_ rfl) dL_grade_28
    · rw [if_neg c1] at hf
      refine j_aload_n E 0 rfl dL_grade_10 ?_
      refine j_iload_n E 2 rfl dL_grade_11 ?_
      obtain ⟨r2, h2, hf⟩ := bn1_e hf
      refine j_invS [] [.int r2] E (c_L_lowest h2) ml_L_54 ms_L_lowest rfl ⟨le_ rfl, le_ rfl⟩ rfl rfl (le_ rfl) ⟨le_ rfl, le_ rfl⟩ dL_grade_12 ?_
      refine j_iload_n E 1 rfl dL_grade_15 ?_
      refine j_icmp_gt E 21 (by decide) dL_grade_16 (fun c2 => ?_) (fun c2 => ?_)
      · rw [if_pos c2] at hf
        refine j_iinc (ls' := [(2, .int (v2 + 1)), (0, .ref D.2.2.2.2.2.2.1), (1, .int v1)]) E 2 rfl (lt_ rfl) (v2 + 1) (congrArg (fun q => v2 + q) ic_1) rfl dL_grade_21 ?_
        refine j_goto E 2 (by decide) dL_grade_24 ?_
        refine j_sub [1, 2, 0] rfl ?_
        exact ih _ hf
      · rw [if_neg c2] at hf
        refine j_iload_n E 2 rfl dL_grade_19 ?_
        cases hf
        exact j_iret E rfl (le_ rfl) (le_ rfl) dL_grade_20
set_option maxRecDepth 20000 in
theorem c_L_grade {l : Launch} {D : DD} {z : Nat} {P0 : Heap → Prop} {v1 : Int32} {r : Int32} (hf : f_L_grade D.2.2.2.2.2.2.2 v1 = some r) : CC l yL_grade cL_grade 3 (some .int) (rmk 3 0 0) D z [.ref D.2.2.2.2.2.2.1, .int v1] P0 (some (.int r)) P0 := by
  unfold f_L_grade at hf
  refine cc_of pn_L (le_ rfl) (ls := [(0, .ref D.2.2.2.2.2.2.1), (1, .int v1)]) rfl ?_
  intro p e s m args below meth c E
  refine j_iconst E 0 ic_0 dL_grade_0 ?_
  refine j_istore_n (ls' := [(2, .int 0), (0, .ref D.2.2.2.2.2.2.1), (1, .int v1)]) E (lt_ rfl) rfl dL_grade_1 ?_
  refine j_sub [1, 2, 0] rfl ?_
  exact b_L_grade_2 E 2000 _ hf
def f_L_weight (sc : Nat × (Nat → Int32)) (v1 : Int32) : Option Int32 :=
  bn1 (f_L_draw sc (v1 + 2) 700) (fun r1 => some (1 + r1))
set_option maxRecDepth 20000 in
theorem c_L_weight {l : Launch} {D : DD} {z : Nat} {P0 : Heap → Prop} {v1 : Int32} {r : Int32} (hf : f_L_weight D.2.2.2.2.2.2.2 v1 = some r) : CC l yL_weight cL_weight 2 (some .int) (rmk 2 0 0) D z [.ref D.2.2.2.2.2.2.1, .int v1] P0 (some (.int r)) P0 := by
  unfold f_L_weight at hf
  refine cc_of pn_L (le_ rfl) (ls := [(0, .ref D.2.2.2.2.2.2.1), (1, .int v1)]) rfl ?_
  intro p e s m args below meth c E
  refine j_iconst E 1 ic_1 dL_weight_0 ?_
  refine j_aload_n E 0 rfl dL_weight_1 ?_
  refine j_iload_n E 1 rfl dL_weight_2 ?_
  refine j_iconst E 2 ic_2 dL_weight_3 ?_
  refine j_iadd E dL_weight_4 ?_
  refine j_sipush E 700 sp_700 dL_weight_5 ?_
  obtain ⟨r1, h1, hf⟩ := bn1_e hf
  refine j_invS [.int 1] [.int r1, .int 1] E (c_L_draw h1) ml_L_40 ms_L_draw rfl ⟨le_ rfl, le_ rfl⟩ rfl rfl (le_ rfl) ⟨le_ rfl, le_ rfl⟩ dL_weight_8 ?_
  refine j_iadd E dL_weight_11 ?_
  cases hf
  exact j_iret E rfl (le_ rfl) (le_ rfl) dL_weight_12
def f_L_sugar (sc : Nat × (Nat → Int32)) (v1 : Int32) : Option Int32 :=
  bn1 (f_L_draw sc (v1 + 3) 190) (fun r1 => some r1)
set_option maxRecDepth 20000 in
theorem c_L_sugar {l : Launch} {D : DD} {z : Nat} {P0 : Heap → Prop} {v1 : Int32} {r : Int32} (hf : f_L_sugar D.2.2.2.2.2.2.2 v1 = some r) : CC l yL_sugar cL_sugar 2 (some .int) (rmk 2 0 0) D z [.ref D.2.2.2.2.2.2.1, .int v1] P0 (some (.int r)) P0 := by
  unfold f_L_sugar at hf
  refine cc_of pn_L (le_ rfl) (ls := [(0, .ref D.2.2.2.2.2.2.1), (1, .int v1)]) rfl ?_
  intro p e s m args below meth c E
  refine j_aload_n E 0 rfl dL_sugar_0 ?_
  refine j_iload_n E 1 rfl dL_sugar_1 ?_
  refine j_iconst E 3 ic_3 dL_sugar_2 ?_
  refine j_iadd E dL_sugar_3 ?_
  refine j_sipush E 190 sp_190 dL_sugar_4 ?_
  obtain ⟨r1, h1, hf⟩ := bn1_e hf
  refine j_invS [] [.int r1] E (c_L_draw h1) ml_L_40 ms_L_draw rfl ⟨le_ rfl, le_ rfl⟩ rfl rfl (le_ rfl) ⟨le_ rfl, le_ rfl⟩ dL_sugar_7 ?_
  cases hf
  exact j_iret E rfl (le_ rfl) (le_ rfl) dL_sugar_10
def f_L_tank_12 (X : XT) (sc : Nat × (Nat → Int32)) (v2 : Int32) (v3 : Int32) (v4 : Int32) : Nat → Int32 → Option (Sum Int32 (Unit))
  | 0, _ => none
  | n + 1, v5 => bn1 (f_L_tanks sc) (fun r1 => if r1 ≤ v5 then (some (.inr ())) else (bn1 (f_X11_varietyIn X v5) (fun r2 => if v4 = 0 then (if r2 = v2 then (bn1 (f_L_capacity sc v5) (fun r5 => bn1 (f_X11_content X v5) (fun r6 => if (r5 - r6) < v3 then (f_L_tank_12 X sc v2 v3 v4 n (v5 + 1)) else (some (.inl v5))))) else (f_L_tank_12 X sc v2 v3 v4 n (v5 + 1))) else (if r2 = (-1) then (bn1 (f_L_capacity sc v5) (fun r3 => bn1 (f_X11_content X v5) (fun r4 => if (r3 - r4) < v3 then (f_L_tank_12 X sc v2 v3 v4 n (v5 + 1)) else (some (.inl v5))))) else (f_L_tank_12 X sc v2 v3 v4 n (v5 + 1))))))
def f_L_tank_3 (X : XT) (sc : Nat × (Nat → Int32)) (v2 : Int32) (v3 : Int32) : Nat → Int32 → Option Int32
  | 0, _ => none
  | n + 1, v4 => if 2 ≤ v4 then (some (-1)) else (bn1 (f_L_tank_12 X sc v2 v3 v4 2000 0) (fun u1 => jn u1 (fun v => some v) (fun _ => f_L_tank_3 X sc v2 v3 n (v4 + 1))))
def f_L_tank (X : XT) (sc : Nat × (Nat → Int32)) (v2 : Int32) (v3 : Int32) : Option Int32 :=
  f_L_tank_3 X sc v2 v3 2000 0
set_option maxRecDepth 20000 in
theorem b_L_tank_12 {p : Program} {l : Launch} {e : Env} {s : State} {m : MethodId} {args : Array Value} {below : List Frame} {meth : Method} {c : Code} {D : DD} {z : Nat} {Y : YT} {X : XT} {v2 : Int32} {v3 : Int32} {v4 : Int32} (E : Cx p s m args meth c D z RL cL_tank 6 (some .int)) {r : Int32} {y : Sum Int32 (Unit)} (hr : ∀ v, y = .inl v → r = v) (K : ∀ o : Unit, y = .inr o → J p l e (rmk 3 0 0) s m args below meth c D z (GG D z (X, Y)) 0 0 (MQ below (QC z (some (.int r)) (GG D z (X, Y))) args s (rmk 3 0 0).cells (rmk 3 0 0).slots (Az z)) 6 66 [(0, .ref (z + aX 0 0 0)), (1, .ref D.2.2.2.2.2.2.1), (2, .int v2), (3, .int v3), (4, .int v4)] []) : ∀ (n : Nat) (v5 : Int32) (hf : f_L_tank_12 X D.2.2.2.2.2.2.2 v2 v3 v4 n v5 = some y), J p l e (rmk 3 0 0) s m args below meth c D z (GG D z (X, Y)) 0 0 (MQ below (QC z (some (.int r)) (GG D z (X, Y))) args s (rmk 3 0 0).cells (rmk 3 0 0).slots (Az z)) 6 12 [(0, .ref (z + aX 0 0 0)), (1, .ref D.2.2.2.2.2.2.1), (2, .int v2), (3, .int v3), (4, .int v4), (5, .int v5)] [] := by
  intro n
  induction n with
  | zero =>
    intro v5 hf
    exact none_e hf
  | succ n ih =>
    intro v5 hf
    rw [f_L_tank_12] at hf
    refine j_iload E 5 rfl dL_tank_12 ?_
    refine j_aload_n E 1 rfl dL_tank_14 ?_
    obtain ⟨r1, h1, hf⟩ := bn1_e hf
    refine j_invS [.int v5] [.int r1, .int v5] E (c_L_tanks h1) ml_L_118 ms_L_tanks rfl ⟨le_ rfl, le_ rfl⟩ rfl rfl (le_ rfl) ⟨le_ rfl, le_ rfl⟩ dL_tank_15 ?_
    refine j_icmp_ge E 66 (by decide) dL_tank_18 (fun c1 => ?_) (fun c1 => ?_)
    · rw [if_pos c1] at hf
      cases hf
      refine j_sub [0, 1, 2, 3, 4] rfl ?_
      exact K _ rfl
    · rw [if_neg c1] at hf
      refine j_aload_n E 0 rfl dL_tank_21 ?_
      refine j_iload E 5 rfl dL_tank_22 ?_
      obtain ⟨r2, h2, hf⟩ := bn1_e hf
      refine j_invV [] [.int r2] E (c_X11_varietyIn h2) ml_L_172 mv_X11_varietyIn rfl ⟨le_ rfl, le_ rfl⟩ (rcX ok0 cf_X11 ent0) rfl rfl (le_ rfl) ⟨le_ rfl, le_ rfl⟩ dL_tank_24 ?_
      refine j_iload E 4 rfl dL_tank_27 ?_
      refine j_if_ne E 36 (by decide) dL_tank_29 (fun c2 => ?_) (fun c2 => ?_)
      · rw [if_neg c2] at hf
        refine j_iconst E (-1) ic_m1 dL_tank_36 ?_
        refine j_icmp_ne E 60 (by decide) dL_tank_37 (fun c3 => ?_) (fun c3 => ?_)
        · rw [if_neg c3] at hf
          refine j_iinc (ls' := [(5, .int (v5 + 1)), (0, .ref (z + aX 0 0 0)), (1, .ref D.2.2.2.2.2.2.1), (2, .int v2), (3, .int v3), (4, .int v4)]) E 5 rfl (lt_ rfl) (v5 + 1) (congrArg (fun q => v5 + q) ic_1) rfl dL_tank_60 ?_
          refine j_goto E 12 (by decide) dL_tank_63 ?_
          refine j_sub [1, 2, 3, 4, 5, 0] rfl ?_
          exact ih _ hf
        · rw [if_pos c3] at hf
          refine j_aload_n E 1 rfl dL_tank_40 ?_
          refine j_iload E 5 rfl dL_tank_41 ?_
          obtain ⟨r3, h3, hf⟩ := bn1_e hf
          refine j_invS [] [.int r3] E (c_L_capacity h3) ml_L_123 ms_L_capacity rfl ⟨le_ rfl, le_ rfl⟩ rfl rfl (le_ rfl) ⟨le_ rfl, le_ rfl⟩ dL_tank_43 ?_
          refine j_aload_n E 0 rfl dL_tank_46 ?_
          refine j_iload E 5 rfl dL_tank_47 ?_
          obtain ⟨r4, h4, hf⟩ := bn1_e hf
          refine j_invV [.int r3] [.int r4, .int r3] E (c_X11_content h4) ml_L_169 mv_X11_content rfl ⟨le_ rfl, le_ rfl⟩ (rcX ok0 cf_X11 ent0) rfl rfl (le_ rfl) ⟨le_ rfl, le_ rfl⟩ dL_tank_49 ?_
          refine j_isub E dL_tank_52 ?_
          refine j_iload_n E 3 rfl dL_tank_53 ?_
          refine j_icmp_lt E 60 (by decide) dL_tank_54 (fun c4 => ?_) (fun c4 => ?_)
          · rw [if_pos c4] at hf
            refine j_iinc (ls' := [(5, .int (v5 + 1)), (0, .ref (z + aX 0 0 0)), (1, .ref D.2.2.2.2.2.2.1), (2, .int v2), (3, .int v3), (4, .int v4)]) E 5 rfl (lt_ rfl) (v5 + 1) (congrArg (fun q => v5 + q) ic_1) rfl dL_tank_60 ?_
            refine j_goto E 12 (by decide) dL_tank_63 ?_
            refine j_sub [1, 2, 3, 4, 5, 0] rfl ?_
            exact ih _ hf
          · rw [if_neg c4] at hf
            refine j_iload E 5 rfl dL_tank_57 ?_
            cases hf
            have hf := hr _ rfl
            subst hf
            exact j_iret E rfl (le_ rfl) (le_ rfl) dL_tank_59
      · rw [if_pos c2] at hf
        refine j_iload_n E 2 rfl dL_tank_32 ?_
        refine j_goto E 37 (by decide) dL_tank_33 ?_
        refine j_icmp_ne E 60 (by decide) dL_tank_37 (fun c5 => ?_) (fun c5 => ?_)
        · rw [if_neg c5] at hf
          refine j_iinc (ls' := [(5, .int (v5 + 1)), (0, .ref (z + aX 0 0 0)), (1, .ref D.2.2.2.2.2.2.1), (2, .int v2), (3, .int v3), (4, .int v4)]) E 5 rfl (lt_ rfl) (v5 + 1) (congrArg (fun q => v5 + q) ic_1) rfl dL_tank_60 ?_
          refine j_goto E 12 (by decide) dL_tank_63 ?_
          refine j_sub [1, 2, 3, 4, 5, 0] rfl ?_
          exact ih _ hf
        · rw [if_pos c5] at hf
          refine j_aload_n E 1 rfl dL_tank_40 ?_
          refine j_iload E 5 rfl dL_tank_41 ?_
          obtain ⟨r5, h5, hf⟩ := bn1_e hf
          refine j_invS [] [.int r5] E (c_L_capacity h5) ml_L_123 ms_L_capacity rfl ⟨le_ rfl, le_ rfl⟩ rfl rfl (le_ rfl) ⟨le_ rfl, le_ rfl⟩ dL_tank_43 ?_
          refine j_aload_n E 0 rfl dL_tank_46 ?_
          refine j_iload E 5 rfl dL_tank_47 ?_
          obtain ⟨r6, h6, hf⟩ := bn1_e hf
          refine j_invV [.int r5] [.int r6, .int r5] E (c_X11_content h6) ml_L_169 mv_X11_content rfl ⟨le_ rfl, le_ rfl⟩ (rcX ok0 cf_X11 ent0) rfl rfl (le_ rfl) ⟨le_ rfl, le_ rfl⟩ dL_tank_49 ?_
          refine j_isub E dL_tank_52 ?_
          refine j_iload_n E 3 rfl dL_tank_53 ?_
          refine j_icmp_lt E 60 (by decide) dL_tank_54 (fun c6 => ?_) (fun c6 => ?_)
          · rw [if_pos c6] at hf
            refine j_iinc (ls' := [(5, .int (v5 + 1)), (0, .ref (z + aX 0 0 0)), (1, .ref D.2.2.2.2.2.2.1), (2, .int v2), (3, .int v3), (4, .int v4)]) E 5 rfl (lt_ rfl) (v5 + 1) (congrArg (fun q => v5 + q) ic_1) rfl dL_tank_60 ?_
            refine j_goto E 12 (by decide) dL_tank_63 ?_
            refine j_sub [1, 2, 3, 4, 5, 0] rfl ?_
            exact ih _ hf
          · rw [if_neg c6] at hf
            refine j_iload E 5 rfl dL_tank_57 ?_
            cases hf
            have hf := hr _ rfl
            subst hf
            exact j_iret E rfl (le_ rfl) (le_ rfl) dL_tank_59
set_option maxRecDepth 20000 in
theorem b_L_tank_3 {p : Program} {l : Launch} {e : Env} {s : State} {m : MethodId} {args : Array Value} {below : List Frame} {meth : Method} {c : Code} {D : DD} {z : Nat} {Y : YT} {X : XT} {v2 : Int32} {v3 : Int32} (E : Cx p s m args meth c D z RL cL_tank 6 (some .int)) {r : Int32} : ∀ (n : Nat) (v4 : Int32) (hf : f_L_tank_3 X D.2.2.2.2.2.2.2 v2 v3 n v4 = some r), J p l e (rmk 3 0 0) s m args below meth c D z (GG D z (X, Y)) 0 0 (MQ below (QC z (some (.int r)) (GG D z (X, Y))) args s (rmk 3 0 0).cells (rmk 3 0 0).slots (Az z)) 6 3 [(0, .ref (z + aX 0 0 0)), (1, .ref D.2.2.2.2.2.2.1), (2, .int v2), (3, .int v3), (4, .int v4)] [] := by
  intro n
  induction n with
  | zero =>
    intro v4 hf
    exact none_e hf
  | succ n ih =>
    intro v4 hf
    rw [f_L_tank_3] at hf
    refine j_iload E 4 rfl dL_tank_3 ?_
    refine j_iconst E 2 ic_2 dL_tank_5 ?_
    refine j_icmp_ge E 72 (by decide) dL_tank_6 (fun c1 => ?_) (fun c1 => ?_)
    · rw [if_pos c1] at hf
      refine j_iconst E (-1) ic_m1 dL_tank_72 ?_
      cases hf
      exact j_iret E rfl (le_ rfl) (le_ rfl) dL_tank_73
    · rw [if_neg c1] at hf
      refine j_iconst E 0 ic_0 dL_tank_9 ?_
      refine j_istore (ls' := [(5, .int 0), (0, .ref (z + aX 0 0 0)), (1, .ref D.2.2.2.2.2.2.1), (2, .int v2), (3, .int v3), (4, .int v4)]) E (lt_ rfl) rfl dL_tank_10 ?_
      obtain ⟨u1, hu1, hr1⟩ := bn1_e hf
      have K1 : ∀ o1 : Unit, u1 = .inr o1 → J p l e (rmk 3 0 0) s m args below meth c D z (GG D z (X, Y)) 0 0 (MQ below (QC z (some (.int r)) (GG D z (X, Y))) args s (rmk 3 0 0).cells (rmk 3 0 0).slots (Az z)) 6 66 [(0, .ref (z + aX 0 0 0)), (1, .ref D.2.2.2.2.2.2.1), (2, .int v2), (3, .int v3), (4, .int v4)] [] := by
        intro o1 hv
        rw [hv] at hr1
        have hf := jn_s hr1
        refine j_iinc (ls' := [(4, .int (v4 + 1)), (0, .ref (z + aX 0 0 0)), (1, .ref D.2.2.2.2.2.2.1), (2, .int v2), (3, .int v3)]) E 4 rfl (lt_ rfl) (v4 + 1) (congrArg (fun q => v4 + q) ic_1) rfl dL_tank_66 ?_
        refine j_goto E 3 (by decide) dL_tank_69 ?_
        refine j_sub [1, 2, 3, 4, 0] rfl ?_
        exact ih _ hf
      refine j_sub [1, 2, 3, 4, 5, 0] rfl ?_
      exact b_L_tank_12 E (fun v hv => by rw [hv] at hr1; have hf := jn_n hr1; cases hf; rfl) K1 2000 _ hu1
set_option maxRecDepth 20000 in
theorem c_L_tank {l : Launch} {D : DD} {z : Nat} {Y : YT} {X : XT} {v2 : Int32} {v3 : Int32} {r : Int32} (hf : f_L_tank X D.2.2.2.2.2.2.2 v2 v3 = some r) : CC l yL_tank cL_tank 6 (some .int) (rmk 3 0 0) D z [.ref (z + aX 0 0 0), .ref D.2.2.2.2.2.2.1, .int v2, .int v3] (GG D z (X, Y)) (some (.int r)) (GG D z (X, Y)) := by
  unfold f_L_tank at hf
  refine cc_of pn_L (le_ rfl) (ls := [(0, .ref (z + aX 0 0 0)), (1, .ref D.2.2.2.2.2.2.1), (2, .int v2), (3, .int v3)]) rfl ?_
  intro p e s m args below meth c E
  refine j_iconst E 0 ic_0 dL_tank_0 ?_
  refine j_istore (ls' := [(4, .int 0), (0, .ref (z + aX 0 0 0)), (1, .ref D.2.2.2.2.2.2.1), (2, .int v2), (3, .int v3)]) E (lt_ rfl) rfl dL_tank_1 ?_
  refine j_sub [1, 2, 3, 4, 0] rfl ?_
  exact b_L_tank_3 E 2000 _ hf
def f_L_all_192 (X : XT) (v4 : Int32) : Nat → Int64 → Int32 → Option (Int64)
  | 0, _, _ => none
  | n + 1, v2, v5 => bn1 (f_X11_classCount X) (fun r1 => if r1 ≤ v5 then (some (v2)) else (bn1 (f_X11_price X v4 v5) (fun r2 => bnd ((1019 * v2) + (r2.toInt64)) (fun x1 => f_L_all_192 X v4 n x1 (v5 + 1)))))
def f_L_all_180 (X : XT) : Nat → Int64 → Int32 → Option Int64
  | 0, _, _ => none
  | n + 1, v2, v4 => bn1 (f_X11_varietyCount X) (fun r1 => if r1 ≤ v4 then (bn1 (f_X11_cash X) (fun r2 => some ((1021 * v2) + (r2.toInt64)))) else (bn1 (f_L_all_192 X v4 2000 v2 0) (fun o1 => f_L_all_180 X n o1 (v4 + 1))))
def f_L_all_136 (X : XT) : Nat → Int64 → Int32 → Option Int64
  | 0, _, _ => none
  | n + 1, v2, v4 => bn1 (f_X11_lotCount X) (fun r1 => if r1 ≤ v4 then (f_L_all_180 X 2000 v2 0) else (bn1 (f_X11_unsold X v4) (fun r2 => bn1 (f_X11_lotSugar X v4) (fun r3 => bnd (((1013 * v2) + (1000 * (r2.toInt64))) + (r3.toInt64)) (fun x1 => f_L_all_136 X n x1 (v4 + 1))))))
def f_L_all_83 (X : XT) (v1 : Int32) : Nat → Int64 → Int32 → Option Int64
  | 0, _, _ => none
  | n + 1, v2, v4 => if v1 ≤ v4 then (f_L_all_136 X 2000 v2 0) else (bn1 (f_X11_content X v4) (fun r1 => bn1 (f_X11_meanSugar X v4) (fun r2 => bn1 (f_X11_varietyIn X v4) (fun r3 => bnd ((((1009 * v2) + (1000 * (r1.toInt64))) + (10 * (r2.toInt64))) + (r3.toInt64)) (fun x1 => f_L_all_83 X v1 n x1 (v4 + 1))))))
def f_L_all_7 (X : XT) (v1 : Int32) : Nat → Int64 → Int32 → Option Int64
  | 0, _, _ => none
  | n + 1, v2, v4 => bn1 (f_X11_loadCount X) (fun r1 => if r1 ≤ v4 then (f_L_all_83 X v1 2000 v2 0) else (bn1 (f_X11_valueOf X v4) (fun r2 => bn1 (f_X11_tankOfLoad X v4) (fun r3 => bn1 (f_X11_classOfLoad X v4) (fun r4 => bn1 (f_X11_isPaid X v4) (fun r5 => if r5 = 0 then (bnd (((((1000003 * v2) + (10000 * (r2.toInt64))) + (100 * (r3.toInt64))) + (10 * (r4.toInt64))) + ((0 : Int32).toInt64)) (fun x1 => f_L_all_7 X v1 n x1 (v4 + 1))) else (bnd (((((1000003 * v2) + (10000 * (r2.toInt64))) + (100 * (r3.toInt64))) + (10 * (r4.toInt64))) + ((1 : Int32).toInt64)) (fun x2 => f_L_all_7 X v1 n x2 (v4 + 1)))))))))
def f_L_all (X : XT) (v1 : Int32) : Option Int64 :=
  f_L_all_7 X v1 2000 7 0
set_option maxRecDepth 20000 in
theorem b_L_all_192 {p : Program} {l : Launch} {e : Env} {s : State} {m : MethodId} {args : Array Value} {below : List Frame} {meth : Method} {c : Code} {D : DD} {z : Nat} {Y : YT} {X : XT} {v4 : Int32} (E : Cx p s m args meth c D z RL cL_all 6 (some .long)) {r : Int64} {y : Int64} (K : ∀ o : Int64, y = o → J p l e (rmk 4 0 0) s m args below meth c D z (GG D z (X, Y)) 0 0 (MQ below (QC z (some (.long r)) (GG D z (X, Y))) args s (rmk 4 0 0).cells (rmk 4 0 0).slots (Az z)) 6 223 [(0, .ref (z + aX 0 0 0)), (2, .long o), (4, .int v4)] []) : ∀ (n : Nat) (v2 : Int64) (v5 : Int32) (hf : f_L_all_192 X v4 n v2 v5 = some y), J p l e (rmk 4 0 0) s m args below meth c D z (GG D z (X, Y)) 0 0 (MQ below (QC z (some (.long r)) (GG D z (X, Y))) args s (rmk 4 0 0).cells (rmk 4 0 0).slots (Az z)) 6 192 [(0, .ref (z + aX 0 0 0)), (2, .long v2), (4, .int v4), (5, .int v5)] [] := by
  intro n
  induction n with
  | zero =>
    intro v2 v5 hf
    exact none_e hf
  | succ n ih =>
    intro v2 v5 hf
    rw [f_L_all_192] at hf
    refine j_iload E 3 rfl dL_all_192 ?_
    refine j_aload_n E 0 rfl dL_all_194 ?_
    obtain ⟨r1, h1, hf⟩ := bn1_e hf
    refine j_invV [.int v5] [.int r1, .int v5] E (c_X11_classCount h1) ml_L_142 mv_X11_classCount rfl ⟨le_ rfl, le_ rfl⟩ (rcX ok0 cf_X11 ent0) rfl rfl (le_ rfl) ⟨le_ rfl, le_ rfl⟩ dL_all_195 ?_
    refine j_icmp_ge E 223 (by decide) dL_all_198 (fun c1 => ?_) (fun c1 => ?_)
    · rw [if_pos c1] at hf
      cases hf
      refine j_sub [0, 1, 2] rfl ?_
      exact K _ rfl
    · rw [if_neg c1] at hf
      refine j_ldc2 E ct_L_219 dL_all_201 ?_
      refine j_lload_n E 1 rfl dL_all_204 ?_
      refine j_lmul E dL_all_205 ?_
      refine j_aload_n E 0 rfl dL_all_206 ?_
      refine j_iload E 2 rfl dL_all_207 ?_
      refine j_iload E 3 rfl dL_all_209 ?_
      obtain ⟨r2, h2, hf⟩ := bn1_e hf
      refine j_invV [.long (1019 * v2)] [.int r2, .long (1019 * v2)] E (c_X11_price h2) ml_L_160 mv_X11_price rfl ⟨le_ rfl, le_ rfl⟩ (rcX ok0 cf_X11 ent0) rfl rfl (le_ rfl) ⟨le_ rfl, le_ rfl⟩ dL_all_211 ?_
      refine j_i2l E dL_all_214 ?_
      refine j_ladd E dL_all_215 ?_
      obtain ⟨x1, hx1, hf⟩ := bnd_e hf
      refine j_namel hx1 ?_
      refine j_lstore_n (ls' := [(2, .long x1), (0, .ref (z + aX 0 0 0)), (4, .int v4), (5, .int v5)]) E (lt_ rfl) rfl dL_all_216 ?_
      refine j_iinc (ls' := [(5, .int (v5 + 1)), (2, .long x1), (0, .ref (z + aX 0 0 0)), (4, .int v4)]) E 3 rfl (lt_ rfl) (v5 + 1) (congrArg (fun q => v5 + q) ic_1) rfl dL_all_217 ?_
      refine j_goto E 192 (by decide) dL_all_220 ?_
      refine j_sub [2, 1, 3, 0] rfl ?_
      exact ih _ _ hf
set_option maxRecDepth 20000 in
theorem b_L_all_180 {p : Program} {l : Launch} {e : Env} {s : State} {m : MethodId} {args : Array Value} {below : List Frame} {meth : Method} {c : Code} {D : DD} {z : Nat} {Y : YT} {X : XT} (E : Cx p s m args meth c D z RL cL_all 6 (some .long)) {r : Int64} : ∀ (n : Nat) (v2 : Int64) (v4 : Int32) (hf : f_L_all_180 X n v2 v4 = some r), J p l e (rmk 4 0 0) s m args below meth c D z (GG D z (X, Y)) 0 0 (MQ below (QC z (some (.long r)) (GG D z (X, Y))) args s (rmk 4 0 0).cells (rmk 4 0 0).slots (Az z)) 6 180 [(0, .ref (z + aX 0 0 0)), (2, .long v2), (4, .int v4)] [] := by
  intro n
  induction n with
  | zero =>
    intro v2 v4 hf
    exact none_e hf
  | succ n ih =>
    intro v2 v4 hf
    rw [f_L_all_180] at hf
    refine j_iload E 2 rfl dL_all_180 ?_
    refine j_aload_n E 0 rfl dL_all_182 ?_
    obtain ⟨r1, h1, hf⟩ := bn1_e hf
    refine j_invV [.int v4] [.int r1, .int v4] E (c_X11_varietyCount h1) ml_L_139 mv_X11_varietyCount rfl ⟨le_ rfl, le_ rfl⟩ (rcX ok0 cf_X11 ent0) rfl rfl (le_ rfl) ⟨le_ rfl, le_ rfl⟩ dL_all_183 ?_
    refine j_icmp_ge E 229 (by decide) dL_all_186 (fun c1 => ?_) (fun c1 => ?_)
    · rw [if_pos c1] at hf
      refine j_ldc2 E ct_L_221 dL_all_229 ?_
      refine j_lload_n E 1 rfl dL_all_232 ?_
      refine j_lmul E dL_all_233 ?_
      refine j_aload_n E 0 rfl dL_all_234 ?_
      obtain ⟨r2, h2, hf⟩ := bn1_e hf
      refine j_invV [.long (1021 * v2)] [.int r2, .long (1021 * v2)] E (c_X11_cash h2) ml_L_157 mv_X11_cash rfl ⟨le_ rfl, le_ rfl⟩ (rcX ok0 cf_X11 ent0) rfl rfl (le_ rfl) ⟨le_ rfl, le_ rfl⟩ dL_all_235 ?_
      refine j_i2l E dL_all_238 ?_
      refine j_ladd E dL_all_239 ?_
      cases hf
      exact j_lret E (le_ rfl) (le_ rfl) dL_all_240
    · rw [if_neg c1] at hf
      refine j_iconst E 0 ic_0 dL_all_189 ?_
      refine j_istore (ls' := [(5, .int 0), (0, .ref (z + aX 0 0 0)), (2, .long v2), (4, .int v4)]) E (lt_ rfl) rfl dL_all_190 ?_
      obtain ⟨u1, hu1, hr1⟩ := bn1_e hf
      have K1 : ∀ o1 : Int64, u1 = o1 → J p l e (rmk 4 0 0) s m args below meth c D z (GG D z (X, Y)) 0 0 (MQ below (QC z (some (.long r)) (GG D z (X, Y))) args s (rmk 4 0 0).cells (rmk 4 0 0).slots (Az z)) 6 223 [(0, .ref (z + aX 0 0 0)), (2, .long o1), (4, .int v4)] [] := by
        intro o1 hv
        have hv := hv.symm
        subst hv
        have hf := hr1
        refine j_iinc (ls' := [(4, .int (v4 + 1)), (0, .ref (z + aX 0 0 0)), (2, .long o1)]) E 2 rfl (lt_ rfl) (v4 + 1) (congrArg (fun q => v4 + q) ic_1) rfl dL_all_223 ?_
        refine j_goto E 180 (by decide) dL_all_226 ?_
        refine j_sub [1, 2, 0] rfl ?_
        exact ih _ _ hf
      refine j_sub [1, 2, 3, 0] rfl ?_
      exact b_L_all_192 E K1 2000 _ _ hu1
set_option maxRecDepth 20000 in
theorem b_L_all_136 {p : Program} {l : Launch} {e : Env} {s : State} {m : MethodId} {args : Array Value} {below : List Frame} {meth : Method} {c : Code} {D : DD} {z : Nat} {Y : YT} {X : XT} (E : Cx p s m args meth c D z RL cL_all 6 (some .long)) {r : Int64} : ∀ (n : Nat) (v2 : Int64) (v4 : Int32) (hf : f_L_all_136 X n v2 v4 = some r), J p l e (rmk 4 0 0) s m args below meth c D z (GG D z (X, Y)) 0 0 (MQ below (QC z (some (.long r)) (GG D z (X, Y))) args s (rmk 4 0 0).cells (rmk 4 0 0).slots (Az z)) 6 136 [(0, .ref (z + aX 0 0 0)), (2, .long v2), (4, .int v4)] [] := by
  intro n
  induction n with
  | zero =>
    intro v2 v4 hf
    exact none_e hf
  | succ n ih =>
    intro v2 v4 hf
    rw [f_L_all_136] at hf
    refine j_iload E 2 rfl dL_all_136 ?_
    refine j_aload_n E 0 rfl dL_all_138 ?_
    obtain ⟨r1, h1, hf⟩ := bn1_e hf
    refine j_invV [.int v4] [.int r1, .int v4] E (c_X11_lotCount h1) ml_L_154 mv_X11_lotCount rfl ⟨le_ rfl, le_ rfl⟩ (rcX ok0 cf_X11 ent0) rfl rfl (le_ rfl) ⟨le_ rfl, le_ rfl⟩ dL_all_139 ?_
    refine j_icmp_ge E 177 (by decide) dL_all_142 (fun c1 => ?_) (fun c1 => ?_)
    · rw [if_pos c1] at hf
      refine j_iconst E 0 ic_0 dL_all_177 ?_
      refine j_istore (ls' := [(4, .int 0), (0, .ref (z + aX 0 0 0)), (2, .long v2)]) E (lt_ rfl) rfl dL_all_178 ?_
      refine j_sub [1, 2, 0] rfl ?_
      exact b_L_all_180 E 2000 _ _ hf
    · rw [if_neg c1] at hf
      refine j_ldc2 E ct_L_211 dL_all_145 ?_
      refine j_lload_n E 1 rfl dL_all_148 ?_
      refine j_lmul E dL_all_149 ?_
      refine j_ldc2 E ct_L_209 dL_all_150 ?_
      refine j_aload_n E 0 rfl dL_all_153 ?_
      refine j_iload E 2 rfl dL_all_154 ?_
      obtain ⟨r2, h2, hf⟩ := bn1_e hf
      refine j_invV [.long 1000, .long (1013 * v2)] [.int r2, .long 1000, .long (1013 * v2)] E (c_X11_unsold h2) ml_L_213 mv_X11_unsold rfl ⟨le_ rfl, le_ rfl⟩ (rcX ok0 cf_X11 ent0) rfl rfl (le_ rfl) ⟨le_ rfl, le_ rfl⟩ dL_all_156 ?_
      refine j_i2l E dL_all_159 ?_
      refine j_lmul E dL_all_160 ?_
      refine j_ladd E dL_all_161 ?_
      refine j_aload_n E 0 rfl dL_all_162 ?_
      refine j_iload E 2 rfl dL_all_163 ?_
      obtain ⟨r3, h3, hf⟩ := bn1_e hf
      refine j_invV [.long ((1013 * v2) + (1000 * (r2.toInt64)))] [.int r3, .long ((1013 * v2) + (1000 * (r2.toInt64)))] E (c_X11_lotSugar h3) ml_L_216 mv_X11_lotSugar rfl ⟨le_ rfl, le_ rfl⟩ (rcX ok0 cf_X11 ent0) rfl rfl (le_ rfl) ⟨le_ rfl, le_ rfl⟩ dL_all_165 ?_
      refine j_i2l E dL_all_168 ?_
      refine j_ladd E dL_all_169 ?_
      obtain ⟨x1, hx1, hf⟩ := bnd_e hf
      refine j_namel hx1 ?_
      refine j_lstore_n (ls' := [(2, .long x1), (0, .ref (z + aX 0 0 0)), (4, .int v4)]) E (lt_ rfl) rfl dL_all_170 ?_
      refine j_iinc (ls' := [(4, .int (v4 + 1)), (2, .long x1), (0, .ref (z + aX 0 0 0))]) E 2 rfl (lt_ rfl) (v4 + 1) (congrArg (fun q => v4 + q) ic_1) rfl dL_all_171 ?_
      refine j_goto E 136 (by decide) dL_all_174 ?_
      refine j_sub [2, 1, 0] rfl ?_
      exact ih _ _ hf
set_option maxRecDepth 20000 in
theorem b_L_all_83 {p : Program} {l : Launch} {e : Env} {s : State} {m : MethodId} {args : Array Value} {below : List Frame} {meth : Method} {c : Code} {D : DD} {z : Nat} {Y : YT} {X : XT} {v1 : Int32} (E : Cx p s m args meth c D z RL cL_all 6 (some .long)) {r : Int64} : ∀ (n : Nat) (v2 : Int64) (v4 : Int32) (hf : f_L_all_83 X v1 n v2 v4 = some r), J p l e (rmk 4 0 0) s m args below meth c D z (GG D z (X, Y)) 0 0 (MQ below (QC z (some (.long r)) (GG D z (X, Y))) args s (rmk 4 0 0).cells (rmk 4 0 0).slots (Az z)) 6 83 [(0, .ref (z + aX 0 0 0)), (1, .int v1), (2, .long v2), (4, .int v4)] [] := by
  intro n
  induction n with
  | zero =>
    intro v2 v4 hf
    exact none_e hf
  | succ n ih =>
    intro v2 v4 hf
    rw [f_L_all_83] at hf
    refine j_iload E 3 rfl dL_all_83 ?_
    refine j_iload_n E 1 rfl dL_all_85 ?_
    refine j_icmp_ge E 133 (by decide) dL_all_86 (fun c1 => ?_) (fun c1 => ?_)
    · rw [if_pos c1] at hf
      refine j_iconst E 0 ic_0 dL_all_133 ?_
      refine j_istore (ls' := [(4, .int 0), (0, .ref (z + aX 0 0 0)), (1, .int v1), (2, .long v2)]) E (lt_ rfl) rfl dL_all_134 ?_
      refine j_sub [1, 3, 0] rfl ?_
      exact b_L_all_136 E 2000 _ _ hf
    · rw [if_neg c1] at hf
      refine j_ldc2 E ct_L_207 dL_all_89 ?_
      refine j_lload_n E 2 rfl dL_all_92 ?_
      refine j_lmul E dL_all_93 ?_
      refine j_ldc2 E ct_L_209 dL_all_94 ?_
      refine j_aload_n E 0 rfl dL_all_97 ?_
      refine j_iload E 3 rfl dL_all_98 ?_
      obtain ⟨r1, h1, hf⟩ := bn1_e hf
      refine j_invV [.long 1000, .long (1009 * v2)] [.int r1, .long 1000, .long (1009 * v2)] E (c_X11_content h1) ml_L_169 mv_X11_content rfl ⟨le_ rfl, le_ rfl⟩ (rcX ok0 cf_X11 ent0) rfl rfl (le_ rfl) ⟨le_ rfl, le_ rfl⟩ dL_all_100 ?_
      refine j_i2l E dL_all_103 ?_
      refine j_lmul E dL_all_104 ?_
      refine j_ladd E dL_all_105 ?_
      refine j_ldc2 E ct_L_198 dL_all_106 ?_
      refine j_aload_n E 0 rfl dL_all_109 ?_
      refine j_iload E 3 rfl dL_all_110 ?_
      obtain ⟨r2, h2, hf⟩ := bn1_e hf
      refine j_invV [.long 10, .long ((1009 * v2) + (1000 * (r1.toInt64)))] [.int r2, .long 10, .long ((1009 * v2) + (1000 * (r1.toInt64)))] E (c_X11_meanSugar h2) ml_L_175 mv_X11_meanSugar rfl ⟨le_ rfl, le_ rfl⟩ (rcX ok0 cf_X11 ent0) rfl rfl (le_ rfl) ⟨le_ rfl, le_ rfl⟩ dL_all_112 ?_
      refine j_i2l E dL_all_115 ?_
      refine j_lmul E dL_all_116 ?_
      refine j_ladd E dL_all_117 ?_
      refine j_aload_n E 0 rfl dL_all_118 ?_
      refine j_iload E 3 rfl dL_all_119 ?_
      obtain ⟨r3, h3, hf⟩ := bn1_e hf
      refine j_invV [.long (((1009 * v2) + (1000 * (r1.toInt64))) + (10 * (r2.toInt64)))] [.int r3, .long (((1009 * v2) + (1000 * (r1.toInt64))) + (10 * (r2.toInt64)))] E (c_X11_varietyIn h3) ml_L_172 mv_X11_varietyIn rfl ⟨le_ rfl, le_ rfl⟩ (rcX ok0 cf_X11 ent0) rfl rfl (le_ rfl) ⟨le_ rfl, le_ rfl⟩ dL_all_121 ?_
      refine j_i2l E dL_all_124 ?_
      refine j_ladd E dL_all_125 ?_
      obtain ⟨x1, hx1, hf⟩ := bnd_e hf
      refine j_namel hx1 ?_
      refine j_lstore_n (ls' := [(2, .long x1), (0, .ref (z + aX 0 0 0)), (1, .int v1), (4, .int v4)]) E (lt_ rfl) rfl dL_all_126 ?_
      refine j_iinc (ls' := [(4, .int (v4 + 1)), (2, .long x1), (0, .ref (z + aX 0 0 0)), (1, .int v1)]) E 3 rfl (lt_ rfl) (v4 + 1) (congrArg (fun q => v4 + q) ic_1) rfl dL_all_127 ?_
      refine j_goto E 83 (by decide) dL_all_130 ?_
      refine j_sub [2, 3, 1, 0] rfl ?_
      exact ih _ _ hf
set_option maxRecDepth 20000 in
theorem b_L_all_7 {p : Program} {l : Launch} {e : Env} {s : State} {m : MethodId} {args : Array Value} {below : List Frame} {meth : Method} {c : Code} {D : DD} {z : Nat} {Y : YT} {X : XT} {v1 : Int32} (E : Cx p s m args meth c D z RL cL_all 6 (some .long)) {r : Int64} : ∀ (n : Nat) (v2 : Int64) (v4 : Int32) (hf : f_L_all_7 X v1 n v2 v4 = some r), J p l e (rmk 4 0 0) s m args below meth c D z (GG D z (X, Y)) 0 0 (MQ below (QC z (some (.long r)) (GG D z (X, Y))) args s (rmk 4 0 0).cells (rmk 4 0 0).slots (Az z)) 6 7 [(0, .ref (z + aX 0 0 0)), (1, .int v1), (2, .long v2), (4, .int v4)] [] := by
  intro n
  induction n with
  | zero =>
    intro v2 v4 hf
    exact none_e hf
  | succ n ih =>
    intro v2 v4 hf
    rw [f_L_all_7] at hf
    refine j_iload E 3 rfl dL_all_7 ?_
    refine j_aload_n E 0 rfl dL_all_9 ?_
    obtain ⟨r1, h1, hf⟩ := bn1_e hf
    refine j_invV [.int v4] [.int r1, .int v4] E (c_X11_loadCount h1) ml_L_151 mv_X11_loadCount rfl ⟨le_ rfl, le_ rfl⟩ (rcX ok0 cf_X11 ent0) rfl rfl (le_ rfl) ⟨le_ rfl, le_ rfl⟩ dL_all_10 ?_
    refine j_icmp_ge E 80 (by decide) dL_all_13 (fun c1 => ?_) (fun c1 => ?_)
    · rw [if_pos c1] at hf
      refine j_iconst E 0 ic_0 dL_all_80 ?_
      refine j_istore (ls' := [(4, .int 0), (0, .ref (z + aX 0 0 0)), (1, .int v1), (2, .long v2)]) E (lt_ rfl) rfl dL_all_81 ?_
      refine j_sub [1, 2, 3, 0] rfl ?_
      exact b_L_all_83 E 2000 _ _ hf
    · rw [if_neg c1] at hf
      refine j_ldc2 E ct_L_186 dL_all_16 ?_
      refine j_lload_n E 2 rfl dL_all_19 ?_
      refine j_lmul E dL_all_20 ?_
      refine j_ldc2 E ct_L_188 dL_all_21 ?_
      refine j_aload_n E 0 rfl dL_all_24 ?_
      refine j_iload E 3 rfl dL_all_25 ?_
      obtain ⟨r2, h2, hf⟩ := bn1_e hf
      refine j_invV [.long 10000, .long (1000003 * v2)] [.int r2, .long 10000, .long (1000003 * v2)] E (c_X11_valueOf h2) ml_L_190 mv_X11_valueOf rfl ⟨le_ rfl, le_ rfl⟩ (rcX ok0 cf_X11 ent0) rfl rfl (le_ rfl) ⟨le_ rfl, le_ rfl⟩ dL_all_27 ?_
      refine j_i2l E dL_all_30 ?_
      refine j_lmul E dL_all_31 ?_
      refine j_ladd E dL_all_32 ?_
      refine j_ldc2 E ct_L_193 dL_all_33 ?_
      refine j_aload_n E 0 rfl dL_all_36 ?_
      refine j_iload E 3 rfl dL_all_37 ?_
      obtain ⟨r3, h3, hf⟩ := bn1_e hf
      refine j_invV [.long 100, .long ((1000003 * v2) + (10000 * (r2.toInt64)))] [.int r3, .long 100, .long ((1000003 * v2) + (10000 * (r2.toInt64)))] E (c_X11_tankOfLoad h3) ml_L_195 mv_X11_tankOfLoad rfl ⟨le_ rfl, le_ rfl⟩ (rcX ok0 cf_X11 ent0) rfl rfl (le_ rfl) ⟨le_ rfl, le_ rfl⟩ dL_all_39 ?_
      refine j_i2l E dL_all_42 ?_
      refine j_lmul E dL_all_43 ?_
      refine j_ladd E dL_all_44 ?_
      refine j_ldc2 E ct_L_198 dL_all_45 ?_
      refine j_aload_n E 0 rfl dL_all_48 ?_
      refine j_iload E 3 rfl dL_all_49 ?_
      obtain ⟨r4, h4, hf⟩ := bn1_e hf
      refine j_invV [.long 10, .long (((1000003 * v2) + (10000 * (r2.toInt64))) + (100 * (r3.toInt64)))] [.int r4, .long 10, .long (((1000003 * v2) + (10000 * (r2.toInt64))) + (100 * (r3.toInt64)))] E (c_X11_classOfLoad h4) ml_L_200 mv_X11_classOfLoad rfl ⟨le_ rfl, le_ rfl⟩ (rcX ok0 cf_X11 ent0) rfl rfl (le_ rfl) ⟨le_ rfl, le_ rfl⟩ dL_all_51 ?_
      refine j_i2l E dL_all_54 ?_
      refine j_lmul E dL_all_55 ?_
      refine j_ladd E dL_all_56 ?_
      refine j_aload_n E 0 rfl dL_all_57 ?_
      refine j_iload E 3 rfl dL_all_58 ?_
      obtain ⟨r5, h5, hf⟩ := bn1_e hf
      refine j_invV [.long ((((1000003 * v2) + (10000 * (r2.toInt64))) + (100 * (r3.toInt64))) + (10 * (r4.toInt64)))] [.int r5, .long ((((1000003 * v2) + (10000 * (r2.toInt64))) + (100 * (r3.toInt64))) + (10 * (r4.toInt64)))] E (c_X11_isPaid h5) ml_L_203 mv_X11_isPaid rfl ⟨le_ rfl, le_ rfl⟩ (rcX ok0 cf_X11 ent0) rfl rfl (le_ rfl) ⟨le_ rfl, le_ rfl⟩ dL_all_60 ?_
      refine j_if_eq E 70 (by decide) dL_all_63 (fun c2 => ?_) (fun c2 => ?_)
      · rw [if_pos c2] at hf
        refine j_iconst E 0 ic_0 dL_all_70 ?_
        refine j_i2l E dL_all_71 ?_
        refine j_ladd E dL_all_72 ?_
        obtain ⟨x1, hx1, hf⟩ := bnd_e hf
        refine j_namel hx1 ?_
        refine j_lstore_n (ls' := [(2, .long x1), (0, .ref (z + aX 0 0 0)), (1, .int v1), (4, .int v4)]) E (lt_ rfl) rfl dL_all_73 ?_
        refine j_iinc (ls' := [(4, .int (v4 + 1)), (2, .long x1), (0, .ref (z + aX 0 0 0)), (1, .int v1)]) E 3 rfl (lt_ rfl) (v4 + 1) (congrArg (fun q => v4 + q) ic_1) rfl dL_all_74 ?_
        refine j_goto E 7 (by decide) dL_all_77 ?_
        refine j_sub [2, 3, 1, 0] rfl ?_
        exact ih _ _ hf
      · rw [if_neg c2] at hf
        refine j_iconst E 1 ic_1 dL_all_66 ?_
        refine j_goto E 71 (by decide) dL_all_67 ?_
        refine j_i2l E dL_all_71 ?_
        refine j_ladd E dL_all_72 ?_
        obtain ⟨x2, hx2, hf⟩ := bnd_e hf
        refine j_namel hx2 ?_
        refine j_lstore_n (ls' := [(2, .long x2), (0, .ref (z + aX 0 0 0)), (1, .int v1), (4, .int v4)]) E (lt_ rfl) rfl dL_all_73 ?_
        refine j_iinc (ls' := [(4, .int (v4 + 1)), (2, .long x2), (0, .ref (z + aX 0 0 0)), (1, .int v1)]) E 3 rfl (lt_ rfl) (v4 + 1) (congrArg (fun q => v4 + q) ic_1) rfl dL_all_74 ?_
        refine j_goto E 7 (by decide) dL_all_77 ?_
        refine j_sub [2, 3, 1, 0] rfl ?_
        exact ih _ _ hf
set_option maxRecDepth 20000 in
theorem c_L_all {l : Launch} {D : DD} {z : Nat} {Y : YT} {X : XT} {v1 : Int32} {r : Int64} (hf : f_L_all X v1 = some r) : CC l yL_all cL_all 6 (some .long) (rmk 4 0 0) D z [.ref (z + aX 0 0 0), .int v1] (GG D z (X, Y)) (some (.long r)) (GG D z (X, Y)) := by
  unfold f_L_all at hf
  refine cc_of pn_L (le_ rfl) (ls := [(0, .ref (z + aX 0 0 0)), (1, .int v1)]) rfl ?_
  intro p e s m args below meth c E
  refine j_ldc2 E ct_L_184 dL_all_0 ?_
  refine j_lstore_n (ls' := [(2, .long 7), (0, .ref (z + aX 0 0 0)), (1, .int v1)]) E (lt_ rfl) rfl dL_all_3 ?_
  refine j_iconst E 0 ic_0 dL_all_4 ?_
  refine j_istore (ls' := [(4, .int 0), (2, .long 7), (0, .ref (z + aX 0 0 0)), (1, .int v1)]) E (lt_ rfl) rfl dL_all_5 ?_
  refine j_sub [2, 3, 1, 0] rfl ?_
  exact b_L_all_7 E 2000 _ _ hf
