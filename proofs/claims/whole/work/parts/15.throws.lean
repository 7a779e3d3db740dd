def t_X11_append (X : XT) (v1 : Int32) (v2 : Int32) (v3 : Int32) (v4 : Int32) (v5 : Int32) : Option Nat :=
  bn1 (f_X10_hasRoomFor X 20) (fun r1 => if r1 = 0 then (some 0) else (bn1 (f_X10_addFour X v1) (fun X1 => bn1 (f_X10_addFour X1 v2) (fun X2 => bn1 (f_X10_addFour X2 v3) (fun X3 => bn1 (f_X10_addFour X3 v4) (fun X4 => bn1 (f_X10_addFour X4 v5) (fun X5 => none)))))))
set_option maxRecDepth 20000 in
theorem tc_X11_append {l : Launch} (hl : l.stackTraces = false) {D : DD} {z : Nat} {Y : YT} {X : XT} {v1 : Int32} {v2 : Int32} {v3 : Int32} {v4 : Int32} {v5 : Int32} {e0 : Nat} (hf : t_X11_append X v1 v2 v3 v4 v5 = some e0) : CT l yX11_append cX11_append 7 (some .int) (rmk 6 1 6) D z [.ref (z + aX 0 0 0), .int v1, .int v2, .int v3, .int v4, .int v5] (GG D z (X, Y)) (exN e0) (GG D z (X, Y)) := by
  unfold t_X11_append at hf
  refine ct_of pn_X11 (le_ rfl) (ls := [(0, .ref (z + aX 0 0 0)), (1, .int v1), (2, .int v2), (3, .int v3), (4, .int v4), (5, .int v5)]) rfl ?_
  intro p e s m args below meth c E hex
  refine j_aload_n E 0 rfl dX11_append_0 ?_
  refine j_get (f := 0) E ok0 cf_X11 fl_X11_10 (lt_ rfl) rfl ent0 rfl dX11_append_1 ?_
  refine j_getN (f := 0) E ok1 cf_X8 fl_X11_45 (lt_ rfl) rfl ent1 rfl dX11_append_4 ?_
  refine j_astore (ls' := [(6, .ref (z + aX 2 0 0)), (0, .ref (z + aX 0 0 0)), (1, .int v1), (2, .int v2), (3, .int v3), (4, .int v4), (5, .int v5)]) E (lt_ rfl) rfl dX11_append_7 ?_
  refine j_aload E 0 rfl dX11_append_9 ?_
  refine j_bipush E 20 bp_20 dX11_append_11 ?_
  obtain ⟨r1, h1, hf⟩ := bn1_e hf
  refine j_invV [] [.int r1] E (c_X10_hasRoomFor h1) ml_X11_78 mv_X10_hasRoomFor rfl ⟨le_ rfl, le_ rfl⟩ (rcX ok2 cf_X10 ent2) rfl rfl (le_ rfl) ⟨le_ rfl, le_ rfl⟩ dX11_append_13 ?_
  refine j_if_ne E 29 (by decide) dX11_append_16 (fun c1 => ?_) (fun c1 => ?_)
  · rw [if_neg c1] at hf
    refine j_aload E 0 rfl dX11_append_29 ?_
    refine j_iload_n E 2 rfl dX11_append_31 ?_
    obtain ⟨X1, h2, hf⟩ := bn1_e hf
    refine j_invV [] [] E (c_X10_addFour h2) ml_X11_88 mv_X10_addFour rfl ⟨le_ rfl, le_ rfl⟩ (rcX ok2 cf_X10 ent2) rfl rfl (le_ rfl) ⟨le_ rfl, le_ rfl⟩ dX11_append_32 ?_
    refine j_aload E 0 rfl dX11_append_35 ?_
    refine j_iload_n E 3 rfl dX11_append_37 ?_
    obtain ⟨X2, h3, hf⟩ := bn1_e hf
    refine j_invV [] [] E (c_X10_addFour h3) ml_X11_88 mv_X10_addFour rfl ⟨le_ rfl, le_ rfl⟩ (rcX ok2 cf_X10 ent2) rfl rfl (le_ rfl) ⟨le_ rfl, le_ rfl⟩ dX11_append_38 ?_
    refine j_aload E 0 rfl dX11_append_41 ?_
    refine j_iload_n E 4 rfl dX11_append_43 ?_
    obtain ⟨X3, h4, hf⟩ := bn1_e hf
    refine j_invV [] [] E (c_X10_addFour h4) ml_X11_88 mv_X10_addFour rfl ⟨le_ rfl, le_ rfl⟩ (rcX ok2 cf_X10 ent2) rfl rfl (le_ rfl) ⟨le_ rfl, le_ rfl⟩ dX11_append_44 ?_
    refine j_aload E 0 rfl dX11_append_47 ?_
    refine j_iload E 5 rfl dX11_append_49 ?_
    obtain ⟨X4, h5, hf⟩ := bn1_e hf
    refine j_invV [] [] E (c_X10_addFour h5) ml_X11_88 mv_X10_addFour rfl ⟨le_ rfl, le_ rfl⟩ (rcX ok2 cf_X10 ent2) rfl rfl (le_ rfl) ⟨le_ rfl, le_ rfl⟩ dX11_append_51 ?_
    refine j_aload E 0 rfl dX11_append_54 ?_
    refine j_iload E 6 rfl dX11_append_56 ?_
    obtain ⟨X5, h6, hf⟩ := bn1_e hf
    refine j_invV [] [] E (c_X10_addFour h6) ml_X11_88 mv_X10_addFour rfl ⟨le_ rfl, le_ rfl⟩ (rcX ok2 cf_X10 ent2) rfl rfl (le_ rfl) ⟨le_ rfl, le_ rfl⟩ dX11_append_58 ?_
    refine j_aload E 0 rfl dX11_append_61 ?_
    refine j_getN (f := 1) E ok2 cf_X10 fl_X11_92 (lt_ rfl) rfl ent2 rfl dX11_append_63 ?_
    exact none_e hf
  · rw [if_pos c1] at hf
    cases hf
    exact j_throw (ex := "java/lang/IllegalStateException") E hl hex tw_0 sl_X11_84 gg_grow dX11_append_19 dX11_append_22 dX11_append_23 dX11_append_25 dX11_append_28 (lt_ rfl) (le_ rfl) (le_ rfl) (le_ rfl) (le_ rfl) (le_ rfl)
def t_X11_truncate (X : XT) (v1 : Int32) : Option Nat :=
  if v1 < 0 then (some 1) else (if v1 ≤ (X 2 0 0 1) then (bnd (xs X 2 0 0 1 v1) (fun X1 => none)) else (some 1))
set_option maxRecDepth 20000 in
theorem tc_X11_truncate {l : Launch} (hl : l.stackTraces = false) {D : DD} {z : Nat} {Y : YT} {X : XT} {v1 : Int32} {e0 : Nat} (hf : t_X11_truncate X v1 = some e0) : CT l yX11_truncate cX11_truncate 2 (some .int) (rmk 6 1 6) D z [.ref (z + aX 0 0 0), .int v1] (GG D z (X, Y)) (exN e0) (GG D z (X, Y)) := by
  unfold t_X11_truncate at hf
  refine ct_of pn_X11 (le_ rfl) (ls := [(0, .ref (z + aX 0 0 0)), (1, .int v1)]) rfl ?_
  intro p e s m args below meth c E hex
  refine j_iload_n E 1 rfl dX11_truncate_0 ?_
  refine j_if_lt E 18 (by decide) dX11_truncate_1 (fun c1 => ?_) (fun c1 => ?_)
  · rw [if_pos c1] at hf
    cases hf
    exact j_throw (ex := "java/lang/IllegalArgumentException") E hl hex tw_1 sl_X11_98 gg_grow dX11_truncate_18 dX11_truncate_21 dX11_truncate_22 dX11_truncate_24 dX11_truncate_27 (lt_ rfl) (le_ rfl) (le_ rfl) (le_ rfl) (le_ rfl) (le_ rfl)
  · rw [if_neg c1] at hf
    refine j_iload_n E 1 rfl dX11_truncate_4 ?_
    refine j_aload_n E 0 rfl dX11_truncate_5 ?_
    refine j_get (f := 0) E ok0 cf_X11 fl_X11_10 (lt_ rfl) rfl ent0 rfl dX11_truncate_6 ?_
    refine j_getN (f := 0) E ok1 cf_X8 fl_X11_45 (lt_ rfl) rfl ent1 rfl dX11_truncate_9 ?_
    refine j_getN (f := 1) E ok2 cf_X10 fl_X11_92 (lt_ rfl) rfl ent2 rfl dX11_truncate_12 ?_
    refine j_icmp_le E 28 (by decide) dX11_truncate_15 (fun c2 => ?_) (fun c2 => ?_)
    · rw [if_pos c2] at hf
      refine j_aload_n E 0 rfl dX11_truncate_28 ?_
      refine j_get (f := 0) E ok0 cf_X11 fl_X11_10 (lt_ rfl) rfl ent0 rfl dX11_truncate_29 ?_
      refine j_getN (f := 0) E ok1 cf_X8 fl_X11_45 (lt_ rfl) rfl ent1 rfl dX11_truncate_32 ?_
      refine j_iload_n E 1 rfl dX11_truncate_35 ?_
      obtain ⟨X1, hX1, hf⟩ := bnd_e hf
      refine j_putN (f := 1) E ok2 cf_X10 fl_X11_92 (lt_ rfl) ⟨rfl, rfl⟩ (fit_i _) ent2 pe2_1 (lt_ rfl) hX1 dX11_truncate_36 ?_
      refine j_iload_n E 1 rfl dX11_truncate_39 ?_
      exact none_e hf
    · rw [if_neg c2] at hf
      cases hf
      exact j_throw (ex := "java/lang/IllegalArgumentException") E hl hex tw_1 sl_X11_98 gg_grow dX11_truncate_18 dX11_truncate_21 dX11_truncate_22 dX11_truncate_24 dX11_truncate_27 (lt_ rfl) (le_ rfl) (le_ rfl) (le_ rfl) (le_ rfl) (le_ rfl)
def t_X11_needSugar (v0 : Int32) : Option Nat :=
  if v0 < 0 then (some 1) else (if v0 ≤ 250 then (none) else (some 1))
set_option maxRecDepth 20000 in
theorem tc_X11_needSugar {l : Launch} (hl : l.stackTraces = false) {D : DD} {z : Nat} {S0 : WS} {v0 : Int32} {e0 : Nat} (hf : t_X11_needSugar v0 = some e0) : CT l yX11_needSugar cX11_needSugar 1 none (rmk 6 1 6) D z [.int v0] (GG D z S0) (exN e0) (GG D z S0) := by
  unfold t_X11_needSugar at hf
  refine ct_of pn_X11 (le_ rfl) (ls := [(0, .int v0)]) rfl ?_
  intro p e s m args below meth c E hex
  refine j_iload_n E 0 rfl dX11_needSugar_0 ?_
  refine j_if_lt E 11 (by decide) dX11_needSugar_1 (fun c1 => ?_) (fun c1 => ?_)
  · rw [if_pos c1] at hf
    cases hf
    exact j_throwW (ex := "java/lang/IllegalArgumentException") E hl hex tw_1 sl_X11_477 gg_grow dX11_needSugar_11 dX11_needSugar_14 dX11_needSugar_15 dX11_needSugar_18 dX11_needSugar_21 (lt_ rfl) (le_ rfl) (le_ rfl) (le_ rfl) (le_ rfl) (le_ rfl)
  · rw [if_neg c1] at hf
    refine j_iload_n E 0 rfl dX11_needSugar_4 ?_
    refine j_sipush E 250 sp_250 dX11_needSugar_5 ?_
    refine j_icmp_le E 22 (by decide) dX11_needSugar_8 (fun c2 => ?_) (fun c2 => ?_)
    · rw [if_pos c2] at hf
      exact none_e hf
    · rw [if_neg c2] at hf
      cases hf
      exact j_throwW (ex := "java/lang/IllegalArgumentException") E hl hex tw_1 sl_X11_477 gg_grow dX11_needSugar_11 dX11_needSugar_14 dX11_needSugar_15 dX11_needSugar_18 dX11_needSugar_21 (lt_ rfl) (le_ rfl) (le_ rfl) (le_ rfl) (le_ rfl) (le_ rfl)
def t_X11_classBySugar (X : XT) (v1 : Int32) : Option Nat :=
  orE (t_X11_needSugar v1) (bn1 (f_X11_needSugar v1) (fun _ => bn1 (f_X1_gradeOfSugar X 1 v1) (fun r1 => none)))
set_option maxRecDepth 20000 in
theorem tc_X11_classBySugar {l : Launch} (hl : l.stackTraces = false) {D : DD} {z : Nat} {Y : YT} {X : XT} {v1 : Int32} {e0 : Nat} (hf : t_X11_classBySugar X v1 = some e0) : CT l yX11_classBySugar cX11_classBySugar 2 (some .int) (rmk 7 1 6) D z [.ref (z + aX 0 0 0), .int v1] (GG D z (X, Y)) (exN e0) (GG D z (X, Y)) := by
  unfold t_X11_classBySugar at hf
  refine ct_of pn_X11 (le_ rfl) (ls := [(0, .ref (z + aX 0 0 0)), (1, .int v1)]) rfl ?_
  intro p e s m args below meth c E hex
  refine j_iload_n E 1 rfl dX11_classBySugar_0 ?_
  rcases orE_e hf with hq | hf
  · exact j_propS [] E hex (tc_X11_needSugar hl hq) ml_X11_152 ms_X11_needSugar rfl ⟨le_ rfl, le_ rfl⟩ rfl (le_ rfl) ⟨le_ rfl, le_ rfl⟩ dX11_classBySugar_1 (le_ rfl) (le_ rfl)
  · obtain ⟨_, h1, hf⟩ := bn1_e hf
    refine j_invS [] [] E (c_X11_needSugar h1) ml_X11_152 ms_X11_needSugar rfl ⟨le_ rfl, le_ rfl⟩ rfl rfl (le_ rfl) ⟨le_ rfl, le_ rfl⟩ dX11_classBySugar_1 ?_
    refine j_aload_n E 0 rfl dX11_classBySugar_4 ?_
    refine j_get (f := 1) E ok0 cf_X11 fl_X11_19 (lt_ rfl) rfl ent0 rfl dX11_classBySugar_5 ?_
    refine j_getN (f := 0) E (okb10 jl1) cf_X0 fl_X11_119 (lt_ rfl) rfl ent10 rfl dX11_classBySugar_8 ?_
    refine j_iload_n E 1 rfl dX11_classBySugar_11 ?_
    obtain ⟨r1, h2, hf⟩ := bn1_e hf
    refine j_invV [] [.int r1] E (c_X1_gradeOfSugar jl1 h2) ml_X11_155 mv_X1_gradeOfSugar rfl ⟨le_ rfl, le_ rfl⟩ (rcX (okb11 jl1) cf_X1 ent11) rfl rfl (le_ rfl) ⟨le_ rfl, le_ rfl⟩ dX11_classBySugar_12 ?_
    exact none_e hf
def t_X11_needVariety (X : XT) (v1 : Int32) : Option Nat :=
  bn1 (f_X1_hasVariety X 1 v1) (fun r1 => if r1 = 0 then (some 2) else (none))
set_option maxRecDepth 20000 in
theorem tc_X11_needVariety {l : Launch} (hl : l.stackTraces = false) {D : DD} {z : Nat} {Y : YT} {X : XT} {v1 : Int32} {e0 : Nat} (hf : t_X11_needVariety X v1 = some e0) : CT l yX11_needVariety cX11_needVariety 2 none (rmk 6 1 6) D z [.ref (z + aX 0 0 0), .int v1] (GG D z (X, Y)) (exN e0) (GG D z (X, Y)) := by
  unfold t_X11_needVariety at hf
  refine ct_of pn_X11 (le_ rfl) (ls := [(0, .ref (z + aX 0 0 0)), (1, .int v1)]) rfl ?_
  intro p e s m args below meth c E hex
  refine j_aload_n E 0 rfl dX11_needVariety_0 ?_
  refine j_get (f := 1) E ok0 cf_X11 fl_X11_19 (lt_ rfl) rfl ent0 rfl dX11_needVariety_1 ?_
  refine j_getN (f := 0) E (okb10 jl1) cf_X0 fl_X11_119 (lt_ rfl) rfl ent10 rfl dX11_needVariety_4 ?_
  refine j_iload_n E 1 rfl dX11_needVariety_7 ?_
  obtain ⟨r1, h1, hf⟩ := bn1_e hf
  refine j_invV [] [.int r1] E (c_X1_hasVariety jl1 h1) ml_X11_456 mv_X1_hasVariety rfl ⟨le_ rfl, le_ rfl⟩ (rcX (okb11 jl1) cf_X1 ent11) rfl rfl (le_ rfl) ⟨le_ rfl, le_ rfl⟩ dX11_needVariety_8 ?_
  refine j_if_ne E 25 (by decide) dX11_needVariety_11 (fun c1 => ?_) (fun c1 => ?_)
  · rw [if_neg c1] at hf
    exact none_e hf
  · rw [if_pos c1] at hf
    cases hf
    exact j_throwW (ex := "java/lang/IndexOutOfBoundsException") E hl hex tw_2 sl_X11_459 gg_grow dX11_needVariety_14 dX11_needVariety_17 dX11_needVariety_18 dX11_needVariety_21 dX11_needVariety_24 (lt_ rfl) (le_ rfl) (le_ rfl) (le_ rfl) (le_ rfl) (le_ rfl)
def t_X11_needClass (X : XT) (v1 : Int32) : Option Nat :=
  bn1 (f_X1_hasGrade X 1 v1) (fun r1 => if r1 = 0 then (some 2) else (none))
set_option maxRecDepth 20000 in
theorem tc_X11_needClass {l : Launch} (hl : l.stackTraces = false) {D : DD} {z : Nat} {Y : YT} {X : XT} {v1 : Int32} {e0 : Nat} (hf : t_X11_needClass X v1 = some e0) : CT l yX11_needClass cX11_needClass 2 none (rmk 6 1 6) D z [.ref (z + aX 0 0 0), .int v1] (GG D z (X, Y)) (exN e0) (GG D z (X, Y)) := by
  unfold t_X11_needClass at hf
  refine ct_of pn_X11 (le_ rfl) (ls := [(0, .ref (z + aX 0 0 0)), (1, .int v1)]) rfl ?_
  intro p e s m args below meth c E hex
  refine j_aload_n E 0 rfl dX11_needClass_0 ?_
  refine j_get (f := 1) E ok0 cf_X11 fl_X11_19 (lt_ rfl) rfl ent0 rfl dX11_needClass_1 ?_
  refine j_getN (f := 0) E (okb10 jl1) cf_X0 fl_X11_119 (lt_ rfl) rfl ent10 rfl dX11_needClass_4 ?_
  refine j_iload_n E 1 rfl dX11_needClass_7 ?_
  obtain ⟨r1, h1, hf⟩ := bn1_e hf
  refine j_invV [] [.int r1] E (c_X1_hasGrade jl1 h1) ml_X11_461 mv_X1_hasGrade rfl ⟨le_ rfl, le_ rfl⟩ (rcX (okb11 jl1) cf_X1 ent11) rfl rfl (le_ rfl) ⟨le_ rfl, le_ rfl⟩ dX11_needClass_8 ?_
  refine j_if_ne E 25 (by decide) dX11_needClass_11 (fun c1 => ?_) (fun c1 => ?_)
  · rw [if_neg c1] at hf
    exact none_e hf
  · rw [if_pos c1] at hf
    cases hf
    exact j_throwW (ex := "java/lang/IndexOutOfBoundsException") E hl hex tw_2 sl_X11_464 gg_grow dX11_needClass_14 dX11_needClass_17 dX11_needClass_18 dX11_needClass_21 dX11_needClass_24 (lt_ rfl) (le_ rfl) (le_ rfl) (le_ rfl) (le_ rfl) (le_ rfl)
def t_X11_price (X : XT) (v1 : Int32) (v2 : Int32) : Option Nat :=
  orE (t_X11_needVariety X v1) (bn1 (f_X11_needVariety X v1) (fun _ => orE (t_X11_needClass X v2) (bn1 (f_X11_needClass X v2) (fun _ => bn1 (f_X1_centsFor X 1 v1 v2) (fun r1 => none)))))
set_option maxRecDepth 20000 in
theorem tc_X11_price {l : Launch} (hl : l.stackTraces = false) {D : DD} {z : Nat} {Y : YT} {X : XT} {v1 : Int32} {v2 : Int32} {e0 : Nat} (hf : t_X11_price X v1 v2 = some e0) : CT l yX11_price cX11_price 3 (some .int) (rmk 7 1 6) D z [.ref (z + aX 0 0 0), .int v1, .int v2] (GG D z (X, Y)) (exN e0) (GG D z (X, Y)) := by
  unfold t_X11_price at hf
  refine ct_of pn_X11 (le_ rfl) (ls := [(0, .ref (z + aX 0 0 0)), (1, .int v1), (2, .int v2)]) rfl ?_
  intro p e s m args below meth c E hex
  refine j_aload_n E 0 rfl dX11_price_0 ?_
  refine j_iload_n E 1 rfl dX11_price_1 ?_
  rcases orE_e hf with hq | hf
  · exact j_propV [] E hex (tc_X11_needVariety hl hq) ml_X11_159 mv_X11_needVariety rfl ⟨le_ rfl, le_ rfl⟩ (rcX ok0 cf_X11 ent0) rfl (le_ rfl) ⟨le_ rfl, le_ rfl⟩ dX11_price_2 (le_ rfl) (le_ rfl)
  · obtain ⟨_, h1, hf⟩ := bn1_e hf
    refine j_invV [] [] E (c_X11_needVariety h1) ml_X11_159 mv_X11_needVariety rfl ⟨le_ rfl, le_ rfl⟩ (rcX ok0 cf_X11 ent0) rfl rfl (le_ rfl) ⟨le_ rfl, le_ rfl⟩ dX11_price_2 ?_
    refine j_aload_n E 0 rfl dX11_price_5 ?_
    refine j_iload_n E 2 rfl dX11_price_6 ?_
    rcases orE_e hf with hq | hf
    · exact j_propV [] E hex (tc_X11_needClass hl hq) ml_X11_162 mv_X11_needClass rfl ⟨le_ rfl, le_ rfl⟩ (rcX ok0 cf_X11 ent0) rfl (le_ rfl) ⟨le_ rfl, le_ rfl⟩ dX11_price_7 (le_ rfl) (le_ rfl)
    · obtain ⟨_, h2, hf⟩ := bn1_e hf
      refine j_invV [] [] E (c_X11_needClass h2) ml_X11_162 mv_X11_needClass rfl ⟨le_ rfl, le_ rfl⟩ (rcX ok0 cf_X11 ent0) rfl rfl (le_ rfl) ⟨le_ rfl, le_ rfl⟩ dX11_price_7 ?_
      refine j_aload_n E 0 rfl dX11_price_10 ?_
      refine j_get (f := 1) E ok0 cf_X11 fl_X11_19 (lt_ rfl) rfl ent0 rfl dX11_price_11 ?_
      refine j_getN (f := 0) E (okb10 jl1) cf_X0 fl_X11_119 (lt_ rfl) rfl ent10 rfl dX11_price_14 ?_
      refine j_iload_n E 1 rfl dX11_price_17 ?_
      refine j_iload_n E 2 rfl dX11_price_18 ?_
      obtain ⟨r1, h3, hf⟩ := bn1_e hf
      refine j_invV [] [.int r1] E (c_X1_centsFor jl1 h3) ml_X11_165 mv_X1_centsFor rfl ⟨le_ rfl, le_ rfl⟩ (rcX (okb11 jl1) cf_X1 ent11) rfl rfl (le_ rfl) ⟨le_ rfl, le_ rfl⟩ dX11_price_19 ?_
      exact none_e hf
def t_X11_weightOfClass (X : XT) (v1 : Int32) (v2 : Int32) : Option Nat :=
  orE (t_X11_needVariety X v1) (bn1 (f_X11_needVariety X v1) (fun _ => orE (t_X11_needClass X v2) (bn1 (f_X11_needClass X v2) (fun _ => bn1 (f_X3_weightOfPair X 1 v1 v2) (fun r1 => none)))))
set_option maxRecDepth 20000 in
theorem tc_X11_weightOfClass {l : Launch} (hl : l.stackTraces = false) {D : DD} {z : Nat} {Y : YT} {X : XT} {v1 : Int32} {v2 : Int32} {e0 : Nat} (hf : t_X11_weightOfClass X v1 v2 = some e0) : CT l yX11_weightOfClass cX11_weightOfClass 3 (some .int) (rmk 7 1 6) D z [.ref (z + aX 0 0 0), .int v1, .int v2] (GG D z (X, Y)) (exN e0) (GG D z (X, Y)) := by
  unfold t_X11_weightOfClass at hf
  refine ct_of pn_X11 (le_ rfl) (ls := [(0, .ref (z + aX 0 0 0)), (1, .int v1), (2, .int v2)]) rfl ?_
  intro p e s m args below meth c E hex
  refine j_aload_n E 0 rfl dX11_weightOfClass_0 ?_
  refine j_iload_n E 1 rfl dX11_weightOfClass_1 ?_
  rcases orE_e hf with hq | hf
  · exact j_propV [] E hex (tc_X11_needVariety hl hq) ml_X11_159 mv_X11_needVariety rfl ⟨le_ rfl, le_ rfl⟩ (rcX ok0 cf_X11 ent0) rfl (le_ rfl) ⟨le_ rfl, le_ rfl⟩ dX11_weightOfClass_2 (le_ rfl) (le_ rfl)
  · obtain ⟨_, h1, hf⟩ := bn1_e hf
    refine j_invV [] [] E (c_X11_needVariety h1) ml_X11_159 mv_X11_needVariety rfl ⟨le_ rfl, le_ rfl⟩ (rcX ok0 cf_X11 ent0) rfl rfl (le_ rfl) ⟨le_ rfl, le_ rfl⟩ dX11_weightOfClass_2 ?_
    refine j_aload_n E 0 rfl dX11_weightOfClass_5 ?_
    refine j_iload_n E 2 rfl dX11_weightOfClass_6 ?_
    rcases orE_e hf with hq | hf
    · exact j_propV [] E hex (tc_X11_needClass hl hq) ml_X11_162 mv_X11_needClass rfl ⟨le_ rfl, le_ rfl⟩ (rcX ok0 cf_X11 ent0) rfl (le_ rfl) ⟨le_ rfl, le_ rfl⟩ dX11_weightOfClass_7 (le_ rfl) (le_ rfl)
    · obtain ⟨_, h2, hf⟩ := bn1_e hf
      refine j_invV [] [] E (c_X11_needClass h2) ml_X11_162 mv_X11_needClass rfl ⟨le_ rfl, le_ rfl⟩ (rcX ok0 cf_X11 ent0) rfl rfl (le_ rfl) ⟨le_ rfl, le_ rfl⟩ dX11_weightOfClass_7 ?_
      refine j_aload_n E 0 rfl dX11_weightOfClass_10 ?_
      refine j_get (f := 1) E ok0 cf_X11 fl_X11_19 (lt_ rfl) rfl ent0 rfl dX11_weightOfClass_11 ?_
      refine j_getN (f := 2) E (okb10 jl1) cf_X0 fl_X11_104 (lt_ rfl) rfl ent10 rfl dX11_weightOfClass_14 ?_
      refine j_iload_n E 1 rfl dX11_weightOfClass_17 ?_
      refine j_iload_n E 2 rfl dX11_weightOfClass_18 ?_
      obtain ⟨r1, h3, hf⟩ := bn1_e hf
      refine j_invV [] [.int r1] E (c_X3_weightOfPair jl1 h3) ml_X11_169 mv_X3_weightOfPair rfl ⟨le_ rfl, le_ rfl⟩ (rcX (okb20 jl1) cf_X3 ent20) rfl rfl (le_ rfl) ⟨le_ rfl, le_ rfl⟩ dX11_weightOfClass_19 ?_
      exact none_e hf
def t_X11_classInOrder (X : XT) (v1 : Int32) : Option Nat :=
  bn1 (f_X3_pairAtRank X 1 v1) (fun r1 => if r1 = (-1) then (some 3) else (none))
set_option maxRecDepth 20000 in
theorem tc_X11_classInOrder {l : Launch} (hl : l.stackTraces = false) {D : DD} {z : Nat} {Y : YT} {X : XT} {v1 : Int32} {e0 : Nat} (hf : t_X11_classInOrder X v1 = some e0) : CT l yX11_classInOrder cX11_classInOrder 3 (some .int) (rmk 6 1 6) D z [.ref (z + aX 0 0 0), .int v1] (GG D z (X, Y)) (exN e0) (GG D z (X, Y)) := by
  unfold t_X11_classInOrder at hf
  refine ct_of pn_X11 (le_ rfl) (ls := [(0, .ref (z + aX 0 0 0)), (1, .int v1)]) rfl ?_
  intro p e s m args below meth c E hex
  refine j_aload_n E 0 rfl dX11_classInOrder_0 ?_
  refine j_get (f := 1) E ok0 cf_X11 fl_X11_19 (lt_ rfl) rfl ent0 rfl dX11_classInOrder_1 ?_
  refine j_getN (f := 2) E (okb10 jl1) cf_X0 fl_X11_104 (lt_ rfl) rfl ent10 rfl dX11_classInOrder_4 ?_
  refine j_iload_n E 1 rfl dX11_classInOrder_7 ?_
  obtain ⟨r1, h1, hf⟩ := bn1_e hf
  refine j_invV [] [.int r1] E (c_X3_pairAtRank jl1 h1) ml_X11_176 mv_X3_pairAtRank rfl ⟨le_ rfl, le_ rfl⟩ (rcX (okb20 jl1) cf_X3 ent20) rfl rfl (le_ rfl) ⟨le_ rfl, le_ rfl⟩ dX11_classInOrder_8 ?_
  refine j_istore_n (ls' := [(2, .int r1), (0, .ref (z + aX 0 0 0)), (1, .int v1)]) E (lt_ rfl) rfl dX11_classInOrder_11 ?_
  refine j_iload_n E 0 rfl dX11_classInOrder_12 ?_
  refine j_iconst E (-1) ic_m1 dX11_classInOrder_13 ?_
  refine j_icmp_ne E 27 (by decide) dX11_classInOrder_14 (fun c1 => ?_) (fun c1 => ?_)
  · rw [if_neg c1] at hf
    refine j_iload_n E 0 rfl dX11_classInOrder_27 ?_
    exact none_e hf
  · rw [if_pos c1] at hf
    cases hf
    exact j_throw3 E hl hex sl_X11_181 gg_grow dX11_classInOrder_17 dX11_classInOrder_20 dX11_classInOrder_21 dX11_classInOrder_23 dX11_classInOrder_26 (lt_ rfl) (le_ rfl) (le_ rfl) (le_ rfl) (le_ rfl) (le_ rfl)
def t_X11_needGrower (X : XT) (v1 : Int32) : Option Nat :=
  if v1 < 0 then (some 2) else (if v1 < (X 15 1 0 4) then (none) else (some 2))
set_option maxRecDepth 20000 in
theorem tc_X11_needGrower {l : Launch} (hl : l.stackTraces = false) {D : DD} {z : Nat} {Y : YT} {X : XT} {v1 : Int32} {e0 : Nat} (hf : t_X11_needGrower X v1 = some e0) : CT l yX11_needGrower cX11_needGrower 2 none (rmk 6 1 6) D z [.ref (z + aX 0 0 0), .int v1] (GG D z (X, Y)) (exN e0) (GG D z (X, Y)) := by
  unfold t_X11_needGrower at hf
  refine ct_of pn_X11 (le_ rfl) (ls := [(0, .ref (z + aX 0 0 0)), (1, .int v1)]) rfl ?_
  intro p e s m args below meth c E hex
  refine j_iload_n E 1 rfl dX11_needGrower_0 ?_
  refine j_if_lt E 18 (by decide) dX11_needGrower_1 (fun c1 => ?_) (fun c1 => ?_)
  · rw [if_pos c1] at hf
    cases hf
    exact j_throwW (ex := "java/lang/IndexOutOfBoundsException") E hl hex tw_2 sl_X11_466 gg_grow dX11_needGrower_18 dX11_needGrower_21 dX11_needGrower_22 dX11_needGrower_25 dX11_needGrower_28 (lt_ rfl) (le_ rfl) (le_ rfl) (le_ rfl) (le_ rfl) (le_ rfl)
  · rw [if_neg c1] at hf
    refine j_iload_n E 1 rfl dX11_needGrower_4 ?_
    refine j_aload_n E 0 rfl dX11_needGrower_5 ?_
    refine j_get (f := 1) E ok0 cf_X11 fl_X11_19 (lt_ rfl) rfl ent0 rfl dX11_needGrower_6 ?_
    refine j_getN (f := 1) E (okb10 jl1) cf_X0 fl_X11_131 (lt_ rfl) rfl ent10 rfl dX11_needGrower_9 ?_
    refine j_getN (f := 4) E (okb15 jl1) cf_X5 fl_X11_135 (lt_ rfl) rfl ent15 rfl dX11_needGrower_12 ?_
    refine j_icmp_lt E 29 (by decide) dX11_needGrower_15 (fun c2 => ?_) (fun c2 => ?_)
    · rw [if_pos c2] at hf
      exact none_e hf
    · rw [if_neg c2] at hf
      cases hf
      exact j_throwW (ex := "java/lang/IndexOutOfBoundsException") E hl hex tw_2 sl_X11_466 gg_grow dX11_needGrower_18 dX11_needGrower_21 dX11_needGrower_22 dX11_needGrower_25 dX11_needGrower_28 (lt_ rfl) (le_ rfl) (le_ rfl) (le_ rfl) (le_ rfl) (le_ rfl)
def t_X11_plotsOf (X : XT) (v1 : Int32) : Option Nat :=
  orE (t_X11_needGrower X v1) (bn1 (f_X11_needGrower X v1) (fun _ => bn1 (f_X5_countPlotsOf X 1 v1) (fun r1 => none)))
set_option maxRecDepth 20000 in
theorem tc_X11_plotsOf {l : Launch} (hl : l.stackTraces = false) {D : DD} {z : Nat} {Y : YT} {X : XT} {v1 : Int32} {e0 : Nat} (hf : t_X11_plotsOf X v1 = some e0) : CT l yX11_plotsOf cX11_plotsOf 2 (some .int) (rmk 7 1 6) D z [.ref (z + aX 0 0 0), .int v1] (GG D z (X, Y)) (exN e0) (GG D z (X, Y)) := by
  unfold t_X11_plotsOf at hf
  refine ct_of pn_X11 (le_ rfl) (ls := [(0, .ref (z + aX 0 0 0)), (1, .int v1)]) rfl ?_
  intro p e s m args below meth c E hex
  refine j_aload_n E 0 rfl dX11_plotsOf_0 ?_
  refine j_iload_n E 1 rfl dX11_plotsOf_1 ?_
  rcases orE_e hf with hq | hf
  · exact j_propV [] E hex (tc_X11_needGrower hl hq) ml_X11_187 mv_X11_needGrower rfl ⟨le_ rfl, le_ rfl⟩ (rcX ok0 cf_X11 ent0) rfl (le_ rfl) ⟨le_ rfl, le_ rfl⟩ dX11_plotsOf_2 (le_ rfl) (le_ rfl)
  · obtain ⟨_, h1, hf⟩ := bn1_e hf
    refine j_invV [] [] E (c_X11_needGrower h1) ml_X11_187 mv_X11_needGrower rfl ⟨le_ rfl, le_ rfl⟩ (rcX ok0 cf_X11 ent0) rfl rfl (le_ rfl) ⟨le_ rfl, le_ rfl⟩ dX11_plotsOf_2 ?_
    refine j_aload_n E 0 rfl dX11_plotsOf_5 ?_
    refine j_get (f := 1) E ok0 cf_X11 fl_X11_19 (lt_ rfl) rfl ent0 rfl dX11_plotsOf_6 ?_
    refine j_getN (f := 1) E (okb10 jl1) cf_X0 fl_X11_131 (lt_ rfl) rfl ent10 rfl dX11_plotsOf_9 ?_
    refine j_iload_n E 1 rfl dX11_plotsOf_12 ?_
    obtain ⟨r1, h2, hf⟩ := bn1_e hf
    refine j_invV [] [.int r1] E (c_X5_countPlotsOf jl1 h2) ml_X11_190 mv_X5_countPlotsOf rfl ⟨le_ rfl, le_ rfl⟩ (rcX (okb15 jl1) cf_X5 ent15) rfl rfl (le_ rfl) ⟨le_ rfl, le_ rfl⟩ dX11_plotsOf_13 ?_
    exact none_e hf
def t_X11_weightOf (X : XT) (v1 : Int32) : Option Nat :=
  orE (t_X11_needGrower X v1) (bn1 (f_X11_needGrower X v1) (fun _ => bn1 (f_X3_weightFromGrower X 1 v1) (fun r1 => none)))
set_option maxRecDepth 20000 in
theorem tc_X11_weightOf {l : Launch} (hl : l.stackTraces = false) {D : DD} {z : Nat} {Y : YT} {X : XT} {v1 : Int32} {e0 : Nat} (hf : t_X11_weightOf X v1 = some e0) : CT l yX11_weightOf cX11_weightOf 2 (some .int) (rmk 7 1 6) D z [.ref (z + aX 0 0 0), .int v1] (GG D z (X, Y)) (exN e0) (GG D z (X, Y)) := by
  unfold t_X11_weightOf at hf
  refine ct_of pn_X11 (le_ rfl) (ls := [(0, .ref (z + aX 0 0 0)), (1, .int v1)]) rfl ?_
  intro p e s m args below meth c E hex
  refine j_aload_n E 0 rfl dX11_weightOf_0 ?_
  refine j_iload_n E 1 rfl dX11_weightOf_1 ?_
  rcases orE_e hf with hq | hf
  · exact j_propV [] E hex (tc_X11_needGrower hl hq) ml_X11_187 mv_X11_needGrower rfl ⟨le_ rfl, le_ rfl⟩ (rcX ok0 cf_X11 ent0) rfl (le_ rfl) ⟨le_ rfl, le_ rfl⟩ dX11_weightOf_2 (le_ rfl) (le_ rfl)
  · obtain ⟨_, h1, hf⟩ := bn1_e hf
    refine j_invV [] [] E (c_X11_needGrower h1) ml_X11_187 mv_X11_needGrower rfl ⟨le_ rfl, le_ rfl⟩ (rcX ok0 cf_X11 ent0) rfl rfl (le_ rfl) ⟨le_ rfl, le_ rfl⟩ dX11_weightOf_2 ?_
    refine j_aload_n E 0 rfl dX11_weightOf_5 ?_
    refine j_get (f := 1) E ok0 cf_X11 fl_X11_19 (lt_ rfl) rfl ent0 rfl dX11_weightOf_6 ?_
    refine j_getN (f := 2) E (okb10 jl1) cf_X0 fl_X11_104 (lt_ rfl) rfl ent10 rfl dX11_weightOf_9 ?_
    refine j_iload_n E 1 rfl dX11_weightOf_12 ?_
    obtain ⟨r1, h2, hf⟩ := bn1_e hf
    refine j_invV [] [.int r1] E (c_X3_weightFromGrower jl1 h2) ml_X11_193 mv_X3_weightFromGrower rfl ⟨le_ rfl, le_ rfl⟩ (rcX (okb20 jl1) cf_X3 ent20) rfl rfl (le_ rfl) ⟨le_ rfl, le_ rfl⟩ dX11_weightOf_13 ?_
    exact none_e hf
def t_X11_owed (X : XT) (v1 : Int32) : Option Nat :=
  orE (t_X11_needGrower X v1) (bn1 (f_X11_needGrower X v1) (fun _ => bn1 (f_X0_unpaidTo X 1 v1) (fun r1 => none)))
set_option maxRecDepth 20000 in
theorem tc_X11_owed {l : Launch} (hl : l.stackTraces = false) {D : DD} {z : Nat} {Y : YT} {X : XT} {v1 : Int32} {e0 : Nat} (hf : t_X11_owed X v1 = some e0) : CT l yX11_owed cX11_owed 2 (some .int) (rmk 7 1 6) D z [.ref (z + aX 0 0 0), .int v1] (GG D z (X, Y)) (exN e0) (GG D z (X, Y)) := by
  unfold t_X11_owed at hf
  refine ct_of pn_X11 (le_ rfl) (ls := [(0, .ref (z + aX 0 0 0)), (1, .int v1)]) rfl ?_
  intro p e s m args below meth c E hex
  refine j_aload_n E 0 rfl dX11_owed_0 ?_
  refine j_iload_n E 1 rfl dX11_owed_1 ?_
  rcases orE_e hf with hq | hf
  · exact j_propV [] E hex (tc_X11_needGrower hl hq) ml_X11_187 mv_X11_needGrower rfl ⟨le_ rfl, le_ rfl⟩ (rcX ok0 cf_X11 ent0) rfl (le_ rfl) ⟨le_ rfl, le_ rfl⟩ dX11_owed_2 (le_ rfl) (le_ rfl)
  · obtain ⟨_, h1, hf⟩ := bn1_e hf
    refine j_invV [] [] E (c_X11_needGrower h1) ml_X11_187 mv_X11_needGrower rfl ⟨le_ rfl, le_ rfl⟩ (rcX ok0 cf_X11 ent0) rfl rfl (le_ rfl) ⟨le_ rfl, le_ rfl⟩ dX11_owed_2 ?_
    refine j_aload_n E 0 rfl dX11_owed_5 ?_
    refine j_get (f := 1) E ok0 cf_X11 fl_X11_19 (lt_ rfl) rfl ent0 rfl dX11_owed_6 ?_
    refine j_iload_n E 1 rfl dX11_owed_9 ?_
    obtain ⟨r1, h2, hf⟩ := bn1_e hf
    refine j_invV [] [.int r1] E (c_X0_unpaidTo jl1 h2) ml_X11_196 mv_X0_unpaidTo rfl ⟨le_ rfl, le_ rfl⟩ (rcX (okb10 jl1) cf_X0 ent10) rfl rfl (le_ rfl) ⟨le_ rfl, le_ rfl⟩ dX11_owed_10 ?_
    exact none_e hf
def t_X11_paidTo (X : XT) (v1 : Int32) : Option Nat :=
  orE (t_X11_needGrower X v1) (bn1 (f_X11_needGrower X v1) (fun _ => bn1 (f_X3_paymentsTo X 1 v1) (fun r1 => none)))
set_option maxRecDepth 20000 in
theorem tc_X11_paidTo {l : Launch} (hl : l.stackTraces = false) {D : DD} {z : Nat} {Y : YT} {X : XT} {v1 : Int32} {e0 : Nat} (hf : t_X11_paidTo X v1 = some e0) : CT l yX11_paidTo cX11_paidTo 2 (some .int) (rmk 7 1 6) D z [.ref (z + aX 0 0 0), .int v1] (GG D z (X, Y)) (exN e0) (GG D z (X, Y)) := by
  unfold t_X11_paidTo at hf
  refine ct_of pn_X11 (le_ rfl) (ls := [(0, .ref (z + aX 0 0 0)), (1, .int v1)]) rfl ?_
  intro p e s m args below meth c E hex
  refine j_aload_n E 0 rfl dX11_paidTo_0 ?_
  refine j_iload_n E 1 rfl dX11_paidTo_1 ?_
  rcases orE_e hf with hq | hf
  · exact j_propV [] E hex (tc_X11_needGrower hl hq) ml_X11_187 mv_X11_needGrower rfl ⟨le_ rfl, le_ rfl⟩ (rcX ok0 cf_X11 ent0) rfl (le_ rfl) ⟨le_ rfl, le_ rfl⟩ dX11_paidTo_2 (le_ rfl) (le_ rfl)
  · obtain ⟨_, h1, hf⟩ := bn1_e hf
    refine j_invV [] [] E (c_X11_needGrower h1) ml_X11_187 mv_X11_needGrower rfl ⟨le_ rfl, le_ rfl⟩ (rcX ok0 cf_X11 ent0) rfl rfl (le_ rfl) ⟨le_ rfl, le_ rfl⟩ dX11_paidTo_2 ?_
    refine j_aload_n E 0 rfl dX11_paidTo_5 ?_
    refine j_get (f := 1) E ok0 cf_X11 fl_X11_19 (lt_ rfl) rfl ent0 rfl dX11_paidTo_6 ?_
    refine j_getN (f := 2) E (okb10 jl1) cf_X0 fl_X11_104 (lt_ rfl) rfl ent10 rfl dX11_paidTo_9 ?_
    refine j_iload_n E 1 rfl dX11_paidTo_12 ?_
    obtain ⟨r1, h2, hf⟩ := bn1_e hf
    refine j_invV [] [.int r1] E (c_X3_paymentsTo jl1 h2) ml_X11_199 mv_X3_paymentsTo rfl ⟨le_ rfl, le_ rfl⟩ (rcX (okb20 jl1) cf_X3 ent20) rfl rfl (le_ rfl) ⟨le_ rfl, le_ rfl⟩ dX11_paidTo_13 ?_
    exact none_e hf
def t_X11_varietiesOf (X : XT) (v1 : Int32) : Option Nat :=
  orE (t_X11_needGrower X v1) (bn1 (f_X11_needGrower X v1) (fun _ => bn1 (f_X0_countVarietiesFrom X 1 v1) (fun r1 => none)))
set_option maxRecDepth 20000 in
theorem tc_X11_varietiesOf {l : Launch} (hl : l.stackTraces = false) {D : DD} {z : Nat} {Y : YT} {X : XT} {v1 : Int32} {e0 : Nat} (hf : t_X11_varietiesOf X v1 = some e0) : CT l yX11_varietiesOf cX11_varietiesOf 2 (some .int) (rmk 7 1 6) D z [.ref (z + aX 0 0 0), .int v1] (GG D z (X, Y)) (exN e0) (GG D z (X, Y)) := by
  unfold t_X11_varietiesOf at hf
  refine ct_of pn_X11 (le_ rfl) (ls := [(0, .ref (z + aX 0 0 0)), (1, .int v1)]) rfl ?_
  intro p e s m args below meth c E hex
  refine j_aload_n E 0 rfl dX11_varietiesOf_0 ?_
  refine j_iload_n E 1 rfl dX11_varietiesOf_1 ?_
  rcases orE_e hf with hq | hf
  · exact j_propV [] E hex (tc_X11_needGrower hl hq) ml_X11_187 mv_X11_needGrower rfl ⟨le_ rfl, le_ rfl⟩ (rcX ok0 cf_X11 ent0) rfl (le_ rfl) ⟨le_ rfl, le_ rfl⟩ dX11_varietiesOf_2 (le_ rfl) (le_ rfl)
  · obtain ⟨_, h1, hf⟩ := bn1_e hf
    refine j_invV [] [] E (c_X11_needGrower h1) ml_X11_187 mv_X11_needGrower rfl ⟨le_ rfl, le_ rfl⟩ (rcX ok0 cf_X11 ent0) rfl rfl (le_ rfl) ⟨le_ rfl, le_ rfl⟩ dX11_varietiesOf_2 ?_
    refine j_aload_n E 0 rfl dX11_varietiesOf_5 ?_
    refine j_get (f := 1) E ok0 cf_X11 fl_X11_19 (lt_ rfl) rfl ent0 rfl dX11_varietiesOf_6 ?_
    refine j_iload_n E 1 rfl dX11_varietiesOf_9 ?_
    obtain ⟨r1, h2, hf⟩ := bn1_e hf
    refine j_invV [] [.int r1] E (c_X0_countVarietiesFrom jl1 h2) ml_X11_202 mv_X0_countVarietiesFrom rfl ⟨le_ rfl, le_ rfl⟩ (rcX (okb10 jl1) cf_X0 ent10) rfl rfl (le_ rfl) ⟨le_ rfl, le_ rfl⟩ dX11_varietiesOf_10 ?_
    exact none_e hf
def t_X11_needPlot (X : XT) (v1 : Int32) : Option Nat :=
  bn1 (f_X5_hasPlot X 1 v1) (fun r1 => if r1 = 0 then (some 2) else (none))
set_option maxRecDepth 20000 in
theorem tc_X11_needPlot {l : Launch} (hl : l.stackTraces = false) {D : DD} {z : Nat} {Y : YT} {X : XT} {v1 : Int32} {e0 : Nat} (hf : t_X11_needPlot X v1 = some e0) : CT l yX11_needPlot cX11_needPlot 2 none (rmk 6 1 6) D z [.ref (z + aX 0 0 0), .int v1] (GG D z (X, Y)) (exN e0) (GG D z (X, Y)) := by
  unfold t_X11_needPlot at hf
  refine ct_of pn_X11 (le_ rfl) (ls := [(0, .ref (z + aX 0 0 0)), (1, .int v1)]) rfl ?_
  intro p e s m args below meth c E hex
  refine j_aload_n E 0 rfl dX11_needPlot_0 ?_
  refine j_get (f := 1) E ok0 cf_X11 fl_X11_19 (lt_ rfl) rfl ent0 rfl dX11_needPlot_1 ?_
  refine j_getN (f := 1) E (okb10 jl1) cf_X0 fl_X11_131 (lt_ rfl) rfl ent10 rfl dX11_needPlot_4 ?_
  refine j_iload_n E 1 rfl dX11_needPlot_7 ?_
  obtain ⟨r1, h1, hf⟩ := bn1_e hf
  refine j_invV [] [.int r1] E (c_X5_hasPlot jl1 h1) ml_X11_468 mv_X5_hasPlot rfl ⟨le_ rfl, le_ rfl⟩ (rcX (okb15 jl1) cf_X5 ent15) rfl rfl (le_ rfl) ⟨le_ rfl, le_ rfl⟩ dX11_needPlot_8 ?_
  refine j_if_ne E 25 (by decide) dX11_needPlot_11 (fun c1 => ?_) (fun c1 => ?_)
  · rw [if_neg c1] at hf
    exact none_e hf
  · rw [if_pos c1] at hf
    cases hf
    exact j_throwW (ex := "java/lang/IndexOutOfBoundsException") E hl hex tw_2 sl_X11_471 gg_grow dX11_needPlot_14 dX11_needPlot_17 dX11_needPlot_18 dX11_needPlot_21 dX11_needPlot_24 (lt_ rfl) (le_ rfl) (le_ rfl) (le_ rfl) (le_ rfl) (le_ rfl)
def t_X11_yieldLimit (X : XT) (v1 : Int32) : Option Nat :=
  orE (t_X11_needPlot X v1) (bn1 (f_X11_needPlot X v1) (fun _ => bn1 (f_X5_limitOf X 1 v1) (fun r1 => none)))
set_option maxRecDepth 20000 in
theorem tc_X11_yieldLimit {l : Launch} (hl : l.stackTraces = false) {D : DD} {z : Nat} {Y : YT} {X : XT} {v1 : Int32} {e0 : Nat} (hf : t_X11_yieldLimit X v1 = some e0) : CT l yX11_yieldLimit cX11_yieldLimit 2 (some .int) (rmk 7 1 6) D z [.ref (z + aX 0 0 0), .int v1] (GG D z (X, Y)) (exN e0) (GG D z (X, Y)) := by
  unfold t_X11_yieldLimit at hf
  refine ct_of pn_X11 (le_ rfl) (ls := [(0, .ref (z + aX 0 0 0)), (1, .int v1)]) rfl ?_
  intro p e s m args below meth c E hex
  refine j_aload_n E 0 rfl dX11_yieldLimit_0 ?_
  refine j_iload_n E 1 rfl dX11_yieldLimit_1 ?_
  rcases orE_e hf with hq | hf
  · exact j_propV [] E hex (tc_X11_needPlot hl hq) ml_X11_208 mv_X11_needPlot rfl ⟨le_ rfl, le_ rfl⟩ (rcX ok0 cf_X11 ent0) rfl (le_ rfl) ⟨le_ rfl, le_ rfl⟩ dX11_yieldLimit_2 (le_ rfl) (le_ rfl)
  · obtain ⟨_, h1, hf⟩ := bn1_e hf
    refine j_invV [] [] E (c_X11_needPlot h1) ml_X11_208 mv_X11_needPlot rfl ⟨le_ rfl, le_ rfl⟩ (rcX ok0 cf_X11 ent0) rfl rfl (le_ rfl) ⟨le_ rfl, le_ rfl⟩ dX11_yieldLimit_2 ?_
    refine j_aload_n E 0 rfl dX11_yieldLimit_5 ?_
    refine j_get (f := 1) E ok0 cf_X11 fl_X11_19 (lt_ rfl) rfl ent0 rfl dX11_yieldLimit_6 ?_
    refine j_getN (f := 1) E (okb10 jl1) cf_X0 fl_X11_131 (lt_ rfl) rfl ent10 rfl dX11_yieldLimit_9 ?_
    refine j_iload_n E 1 rfl dX11_yieldLimit_12 ?_
    obtain ⟨r1, h2, hf⟩ := bn1_e hf
    refine j_invV [] [.int r1] E (c_X5_limitOf jl1 h2) ml_X11_211 mv_X5_limitOf rfl ⟨le_ rfl, le_ rfl⟩ (rcX (okb15 jl1) cf_X5 ent15) rfl rfl (le_ rfl) ⟨le_ rfl, le_ rfl⟩ dX11_yieldLimit_13 ?_
    exact none_e hf
def t_X11_harvested (X : XT) (v1 : Int32) : Option Nat :=
  orE (t_X11_needPlot X v1) (bn1 (f_X11_needPlot X v1) (fun _ => bn1 (f_X3_weightFromPlot X 1 v1) (fun r1 => none)))
set_option maxRecDepth 20000 in
theorem tc_X11_harvested {l : Launch} (hl : l.stackTraces = false) {D : DD} {z : Nat} {Y : YT} {X : XT} {v1 : Int32} {e0 : Nat} (hf : t_X11_harvested X v1 = some e0) : CT l yX11_harvested cX11_harvested 2 (some .int) (rmk 7 1 6) D z [.ref (z + aX 0 0 0), .int v1] (GG D z (X, Y)) (exN e0) (GG D z (X, Y)) := by
  unfold t_X11_harvested at hf
  refine ct_of pn_X11 (le_ rfl) (ls := [(0, .ref (z + aX 0 0 0)), (1, .int v1)]) rfl ?_
  intro p e s m args below meth c E hex
  refine j_aload_n E 0 rfl dX11_harvested_0 ?_
  refine j_iload_n E 1 rfl dX11_harvested_1 ?_
  rcases orE_e hf with hq | hf
  · exact j_propV [] E hex (tc_X11_needPlot hl hq) ml_X11_208 mv_X11_needPlot rfl ⟨le_ rfl, le_ rfl⟩ (rcX ok0 cf_X11 ent0) rfl (le_ rfl) ⟨le_ rfl, le_ rfl⟩ dX11_harvested_2 (le_ rfl) (le_ rfl)
  · obtain ⟨_, h1, hf⟩ := bn1_e hf
    refine j_invV [] [] E (c_X11_needPlot h1) ml_X11_208 mv_X11_needPlot rfl ⟨le_ rfl, le_ rfl⟩ (rcX ok0 cf_X11 ent0) rfl rfl (le_ rfl) ⟨le_ rfl, le_ rfl⟩ dX11_harvested_2 ?_
    refine j_aload_n E 0 rfl dX11_harvested_5 ?_
    refine j_get (f := 1) E ok0 cf_X11 fl_X11_19 (lt_ rfl) rfl ent0 rfl dX11_harvested_6 ?_
    refine j_getN (f := 2) E (okb10 jl1) cf_X0 fl_X11_104 (lt_ rfl) rfl ent10 rfl dX11_harvested_9 ?_
    refine j_iload_n E 1 rfl dX11_harvested_12 ?_
    obtain ⟨r1, h2, hf⟩ := bn1_e hf
    refine j_invV [] [.int r1] E (c_X3_weightFromPlot jl1 h2) ml_X11_214 mv_X3_weightFromPlot rfl ⟨le_ rfl, le_ rfl⟩ (rcX (okb20 jl1) cf_X3 ent20) rfl rfl (le_ rfl) ⟨le_ rfl, le_ rfl⟩ dX11_harvested_13 ?_
    exact none_e hf
def t_X11_yieldLeft (X : XT) (v1 : Int32) : Option Nat :=
  orE (t_X11_needPlot X v1) (bn1 (f_X11_needPlot X v1) (fun _ => bn1 (f_X0_greatestWithinLimit X 1 v1) (fun r1 => none)))
set_option maxRecDepth 20000 in
theorem tc_X11_yieldLeft {l : Launch} (hl : l.stackTraces = false) {D : DD} {z : Nat} {Y : YT} {X : XT} {v1 : Int32} {e0 : Nat} (hf : t_X11_yieldLeft X v1 = some e0) : CT l yX11_yieldLeft cX11_yieldLeft 2 (some .int) (rmk 7 1 6) D z [.ref (z + aX 0 0 0), .int v1] (GG D z (X, Y)) (exN e0) (GG D z (X, Y)) := by
  unfold t_X11_yieldLeft at hf
  refine ct_of pn_X11 (le_ rfl) (ls := [(0, .ref (z + aX 0 0 0)), (1, .int v1)]) rfl ?_
  intro p e s m args below meth c E hex
  refine j_aload_n E 0 rfl dX11_yieldLeft_0 ?_
  refine j_iload_n E 1 rfl dX11_yieldLeft_1 ?_
  rcases orE_e hf with hq | hf
  · exact j_propV [] E hex (tc_X11_needPlot hl hq) ml_X11_208 mv_X11_needPlot rfl ⟨le_ rfl, le_ rfl⟩ (rcX ok0 cf_X11 ent0) rfl (le_ rfl) ⟨le_ rfl, le_ rfl⟩ dX11_yieldLeft_2 (le_ rfl) (le_ rfl)
  · obtain ⟨_, h1, hf⟩ := bn1_e hf
    refine j_invV [] [] E (c_X11_needPlot h1) ml_X11_208 mv_X11_needPlot rfl ⟨le_ rfl, le_ rfl⟩ (rcX ok0 cf_X11 ent0) rfl rfl (le_ rfl) ⟨le_ rfl, le_ rfl⟩ dX11_yieldLeft_2 ?_
    refine j_aload_n E 0 rfl dX11_yieldLeft_5 ?_
    refine j_get (f := 1) E ok0 cf_X11 fl_X11_19 (lt_ rfl) rfl ent0 rfl dX11_yieldLeft_6 ?_
    refine j_iload_n E 1 rfl dX11_yieldLeft_9 ?_
    obtain ⟨r1, h2, hf⟩ := bn1_e hf
    refine j_invV [] [.int r1] E (c_X0_greatestWithinLimit jl1 h2) ml_X11_217 mv_X0_greatestWithinLimit rfl ⟨le_ rfl, le_ rfl⟩ (rcX (okb10 jl1) cf_X0 ent10) rfl rfl (le_ rfl) ⟨le_ rfl, le_ rfl⟩ dX11_yieldLeft_10 ?_
    exact none_e hf
def t_X11_knownLoad (X : XT) (v1 : Int32) : Option Nat :=
  if v1 < 0 then (some 2) else (if v1 < (X 20 1 0 1) then (gd (¬ (v1 < 0 ∨ 20 ≤ v1.toNatClampNeg)) (none)) else (some 2))
set_option maxRecDepth 20000 in
theorem tc_X11_knownLoad {l : Launch} (hl : l.stackTraces = false) {D : DD} {z : Nat} {Y : YT} {X : XT} {v1 : Int32} {e0 : Nat} (hf : t_X11_knownLoad X v1 = some e0) : CT l yX11_knownLoad cX11_knownLoad 2 (some (.object "WineCooperative$Load")) (rmk 6 1 6) D z [.ref (z + aX 0 0 0), .int v1] (GG D z (X, Y)) (exN e0) (GG D z (X, Y)) := by
  unfold t_X11_knownLoad at hf
  refine ct_of pn_X11 (le_ rfl) (ls := [(0, .ref (z + aX 0 0 0)), (1, .int v1)]) rfl ?_
  intro p e s m args below meth c E hex
  refine j_iload_n E 1 rfl dX11_knownLoad_0 ?_
  refine j_if_lt E 18 (by decide) dX11_knownLoad_1 (fun c1 => ?_) (fun c1 => ?_)
  · rw [if_pos c1] at hf
    cases hf
    exact j_throwW (ex := "java/lang/IndexOutOfBoundsException") E hl hex tw_2 sl_X11_441 gg_grow dX11_knownLoad_18 dX11_knownLoad_21 dX11_knownLoad_22 dX11_knownLoad_25 dX11_knownLoad_28 (lt_ rfl) (le_ rfl) (le_ rfl) (le_ rfl) (le_ rfl) (le_ rfl)
  · rw [if_neg c1] at hf
    refine j_iload_n E 1 rfl dX11_knownLoad_4 ?_
    refine j_aload_n E 0 rfl dX11_knownLoad_5 ?_
    refine j_get (f := 1) E ok0 cf_X11 fl_X11_19 (lt_ rfl) rfl ent0 rfl dX11_knownLoad_6 ?_
    refine j_getN (f := 2) E (okb10 jl1) cf_X0 fl_X11_104 (lt_ rfl) rfl ent10 rfl dX11_knownLoad_9 ?_
    refine j_getN (f := 1) E (okb20 jl1) cf_X3 fl_X11_108 (lt_ rfl) rfl ent20 rfl dX11_knownLoad_12 ?_
    refine j_icmp_lt E 29 (by decide) dX11_knownLoad_15 (fun c2 => ?_) (fun c2 => ?_)
    · rw [if_pos c2] at hf
      refine j_aload_n E 0 rfl dX11_knownLoad_29 ?_
      refine j_get (f := 1) E ok0 cf_X11 fl_X11_19 (lt_ rfl) rfl ent0 rfl dX11_knownLoad_30 ?_
      refine j_getN (f := 2) E (okb10 jl1) cf_X0 fl_X11_104 (lt_ rfl) rfl ent10 rfl dX11_knownLoad_33 ?_
      refine j_getN (f := 0) E (okb20 jl1) cf_X3 fl_X11_444 (lt_ rfl) rfl ent20 rfl dX11_knownLoad_36 ?_
      refine j_iload_n E 1 rfl dX11_knownLoad_39 ?_
      obtain ⟨g1, hf⟩ := gd_e hf
      refine j_aald (t := 4) E (okb21 jl1) ent21 rfl g1 dX11_knownLoad_40 ?_
      exact none_e hf
    · rw [if_neg c2] at hf
      cases hf
      exact j_throwW (ex := "java/lang/IndexOutOfBoundsException") E hl hex tw_2 sl_X11_441 gg_grow dX11_knownLoad_18 dX11_knownLoad_21 dX11_knownLoad_22 dX11_knownLoad_25 dX11_knownLoad_28 (lt_ rfl) (le_ rfl) (le_ rfl) (le_ rfl) (le_ rfl) (le_ rfl)
def t_X11_plotOfLoad (X : XT) (v1 : Int32) : Option Nat :=
  orE (t_X11_knownLoad X v1) (bn1 (f_X11_knownLoad X v1) (fun r1 => gd (r1 < 20) (none)))
set_option maxRecDepth 20000 in
theorem tc_X11_plotOfLoad {l : Launch} (hl : l.stackTraces = false) {D : DD} {z : Nat} {Y : YT} {X : XT} {v1 : Int32} {e0 : Nat} (hf : t_X11_plotOfLoad X v1 = some e0) : CT l yX11_plotOfLoad cX11_plotOfLoad 2 (some .int) (rmk 7 1 6) D z [.ref (z + aX 0 0 0), .int v1] (GG D z (X, Y)) (exN e0) (GG D z (X, Y)) := by
  unfold t_X11_plotOfLoad at hf
  refine ct_of pn_X11 (le_ rfl) (ls := [(0, .ref (z + aX 0 0 0)), (1, .int v1)]) rfl ?_
  intro p e s m args below meth c E hex
  refine j_aload_n E 0 rfl dX11_plotOfLoad_0 ?_
  refine j_iload_n E 1 rfl dX11_plotOfLoad_1 ?_
  rcases orE_e hf with hq | hf
  · exact j_propV [] E hex (tc_X11_knownLoad hl hq) ml_X11_220 mv_X11_knownLoad rfl ⟨le_ rfl, le_ rfl⟩ (rcX ok0 cf_X11 ent0) rfl (le_ rfl) ⟨le_ rfl, le_ rfl⟩ dX11_plotOfLoad_2 (le_ rfl) (le_ rfl)
  · obtain ⟨r1, h1, hf⟩ := bn1_e hf
    obtain ⟨g1, hf⟩ := gd_e hf
    refine j_invV [] [.ref (z + aX 22 1 r1)] E (c_X11_knownLoad h1) ml_X11_220 mv_X11_knownLoad rfl ⟨le_ rfl, le_ rfl⟩ (rcX ok0 cf_X11 ent0) rfl rfl (le_ rfl) ⟨le_ rfl, le_ rfl⟩ dX11_plotOfLoad_2 ?_
    refine j_getN (f := 0) E (okb22 jl1 g1) cf_X6 fl_X11_224 (lt_ rfl) rfl ent22 rfl dX11_plotOfLoad_5 ?_
    exact none_e hf
def t_X11_classOfLoad (X : XT) (v1 : Int32) : Option Nat :=
  orE (t_X11_knownLoad X v1) (bn1 (f_X11_knownLoad X v1) (fun r1 => gd (r1 < 20) (none)))
set_option maxRecDepth 20000 in
theorem tc_X11_classOfLoad {l : Launch} (hl : l.stackTraces = false) {D : DD} {z : Nat} {Y : YT} {X : XT} {v1 : Int32} {e0 : Nat} (hf : t_X11_classOfLoad X v1 = some e0) : CT l yX11_classOfLoad cX11_classOfLoad 2 (some .int) (rmk 7 1 6) D z [.ref (z + aX 0 0 0), .int v1] (GG D z (X, Y)) (exN e0) (GG D z (X, Y)) := by
  unfold t_X11_classOfLoad at hf
  refine ct_of pn_X11 (le_ rfl) (ls := [(0, .ref (z + aX 0 0 0)), (1, .int v1)]) rfl ?_
  intro p e s m args below meth c E hex
  refine j_aload_n E 0 rfl dX11_classOfLoad_0 ?_
  refine j_iload_n E 1 rfl dX11_classOfLoad_1 ?_
  rcases orE_e hf with hq | hf
  · exact j_propV [] E hex (tc_X11_knownLoad hl hq) ml_X11_220 mv_X11_knownLoad rfl ⟨le_ rfl, le_ rfl⟩ (rcX ok0 cf_X11 ent0) rfl (le_ rfl) ⟨le_ rfl, le_ rfl⟩ dX11_classOfLoad_2 (le_ rfl) (le_ rfl)
  · obtain ⟨r1, h1, hf⟩ := bn1_e hf
    obtain ⟨g1, hf⟩ := gd_e hf
    refine j_invV [] [.ref (z + aX 22 1 r1)] E (c_X11_knownLoad h1) ml_X11_220 mv_X11_knownLoad rfl ⟨le_ rfl, le_ rfl⟩ (rcX ok0 cf_X11 ent0) rfl rfl (le_ rfl) ⟨le_ rfl, le_ rfl⟩ dX11_classOfLoad_2 ?_
    refine j_getN (f := 5) E (okb22 jl1 g1) cf_X6 fl_X11_229 (lt_ rfl) rfl ent22 rfl dX11_classOfLoad_5 ?_
    exact none_e hf
def t_X11_tankOfLoad (X : XT) (v1 : Int32) : Option Nat :=
  orE (t_X11_knownLoad X v1) (bn1 (f_X11_knownLoad X v1) (fun r1 => gd (r1 < 20) (none)))
set_option maxRecDepth 20000 in
theorem tc_X11_tankOfLoad {l : Launch} (hl : l.stackTraces = false) {D : DD} {z : Nat} {Y : YT} {X : XT} {v1 : Int32} {e0 : Nat} (hf : t_X11_tankOfLoad X v1 = some e0) : CT l yX11_tankOfLoad cX11_tankOfLoad 2 (some .int) (rmk 7 1 6) D z [.ref (z + aX 0 0 0), .int v1] (GG D z (X, Y)) (exN e0) (GG D z (X, Y)) := by
  unfold t_X11_tankOfLoad at hf
  refine ct_of pn_X11 (le_ rfl) (ls := [(0, .ref (z + aX 0 0 0)), (1, .int v1)]) rfl ?_
  intro p e s m args below meth c E hex
  refine j_aload_n E 0 rfl dX11_tankOfLoad_0 ?_
  refine j_iload_n E 1 rfl dX11_tankOfLoad_1 ?_
  rcases orE_e hf with hq | hf
  · exact j_propV [] E hex (tc_X11_knownLoad hl hq) ml_X11_220 mv_X11_knownLoad rfl ⟨le_ rfl, le_ rfl⟩ (rcX ok0 cf_X11 ent0) rfl (le_ rfl) ⟨le_ rfl, le_ rfl⟩ dX11_tankOfLoad_2 (le_ rfl) (le_ rfl)
  · obtain ⟨r1, h1, hf⟩ := bn1_e hf
    obtain ⟨g1, hf⟩ := gd_e hf
    refine j_invV [] [.ref (z + aX 22 1 r1)] E (c_X11_knownLoad h1) ml_X11_220 mv_X11_knownLoad rfl ⟨le_ rfl, le_ rfl⟩ (rcX ok0 cf_X11 ent0) rfl rfl (le_ rfl) ⟨le_ rfl, le_ rfl⟩ dX11_tankOfLoad_2 ?_
    refine j_getN (f := 6) E (okb22 jl1 g1) cf_X6 fl_X11_232 (lt_ rfl) rfl ent22 rfl dX11_tankOfLoad_5 ?_
    exact none_e hf
def t_X11_valueOf (X : XT) (v1 : Int32) : Option Nat :=
  orE (t_X11_knownLoad X v1) (bn1 (f_X11_knownLoad X v1) (fun r1 => gd (r1 < 20) (bn1 (f_X0_centsOf X 1 1 r1) (fun r2 => none))))
set_option maxRecDepth 20000 in
theorem tc_X11_valueOf {l : Launch} (hl : l.stackTraces = false) {D : DD} {z : Nat} {Y : YT} {X : XT} {v1 : Int32} {e0 : Nat} (hf : t_X11_valueOf X v1 = some e0) : CT l yX11_valueOf cX11_valueOf 2 (some .int) (rmk 7 1 6) D z [.ref (z + aX 0 0 0), .int v1] (GG D z (X, Y)) (exN e0) (GG D z (X, Y)) := by
  unfold t_X11_valueOf at hf
  refine ct_of pn_X11 (le_ rfl) (ls := [(0, .ref (z + aX 0 0 0)), (1, .int v1)]) rfl ?_
  intro p e s m args below meth c E hex
  refine j_aload_n E 0 rfl dX11_valueOf_0 ?_
  refine j_get (f := 1) E ok0 cf_X11 fl_X11_19 (lt_ rfl) rfl ent0 rfl dX11_valueOf_1 ?_
  refine j_aload_n E 0 rfl dX11_valueOf_4 ?_
  refine j_iload_n E 1 rfl dX11_valueOf_5 ?_
  rcases orE_e hf with hq | hf
  · exact j_propV [.ref (z + aX 10 1 0)] E hex (tc_X11_knownLoad hl hq) ml_X11_220 mv_X11_knownLoad rfl ⟨le_ rfl, le_ rfl⟩ (rcX ok0 cf_X11 ent0) rfl (le_ rfl) ⟨le_ rfl, le_ rfl⟩ dX11_valueOf_6 (le_ rfl) (le_ rfl)
  · obtain ⟨r1, h1, hf⟩ := bn1_e hf
    obtain ⟨g1, hf⟩ := gd_e hf
    refine j_invV [.ref (z + aX 10 1 0)] [.ref (z + aX 22 1 r1), .ref (z + aX 10 1 0)] E (c_X11_knownLoad h1) ml_X11_220 mv_X11_knownLoad rfl ⟨le_ rfl, le_ rfl⟩ (rcX ok0 cf_X11 ent0) rfl rfl (le_ rfl) ⟨le_ rfl, le_ rfl⟩ dX11_valueOf_6 ?_
    obtain ⟨r2, h2, hf⟩ := bn1_e hf
    refine j_invV [] [.int r2] E (c_X0_centsOf jl1 jl1 g1 h2) ml_X11_235 mv_X0_centsOf rfl ⟨le_ rfl, le_ rfl⟩ (rcX (okb10 jl1) cf_X0 ent10) rfl rfl (le_ rfl) ⟨le_ rfl, le_ rfl⟩ dX11_valueOf_9 ?_
    exact none_e hf
def t_X11_isPaid (X : XT) (v1 : Int32) : Option Nat :=
  orE (t_X11_knownLoad X v1) (bn1 (f_X11_knownLoad X v1) (fun r1 => gd (r1 < 20) (none)))
set_option maxRecDepth 20000 in
theorem tc_X11_isPaid {l : Launch} (hl : l.stackTraces = false) {D : DD} {z : Nat} {Y : YT} {X : XT} {v1 : Int32} {e0 : Nat} (hf : t_X11_isPaid X v1 = some e0) : CT l yX11_isPaid cX11_isPaid 2 (some .boolean) (rmk 7 1 6) D z [.ref (z + aX 0 0 0), .int v1] (GG D z (X, Y)) (exN e0) (GG D z (X, Y)) := by
  unfold t_X11_isPaid at hf
  refine ct_of pn_X11 (le_ rfl) (ls := [(0, .ref (z + aX 0 0 0)), (1, .int v1)]) rfl ?_
  intro p e s m args below meth c E hex
  refine j_aload_n E 0 rfl dX11_isPaid_0 ?_
  refine j_iload_n E 1 rfl dX11_isPaid_1 ?_
  rcases orE_e hf with hq | hf
  · exact j_propV [] E hex (tc_X11_knownLoad hl hq) ml_X11_220 mv_X11_knownLoad rfl ⟨le_ rfl, le_ rfl⟩ (rcX ok0 cf_X11 ent0) rfl (le_ rfl) ⟨le_ rfl, le_ rfl⟩ dX11_isPaid_2 (le_ rfl) (le_ rfl)
  · obtain ⟨r1, h1, hf⟩ := bn1_e hf
    obtain ⟨g1, hf⟩ := gd_e hf
    refine j_invV [] [.ref (z + aX 22 1 r1)] E (c_X11_knownLoad h1) ml_X11_220 mv_X11_knownLoad rfl ⟨le_ rfl, le_ rfl⟩ (rcX ok0 cf_X11 ent0) rfl rfl (le_ rfl) ⟨le_ rfl, le_ rfl⟩ dX11_isPaid_2 ?_
    refine j_getN (f := 7) E (okb22 jl1 g1) cf_X6 fl_X11_239 (lt_ rfl) rfl ent22 rfl dX11_isPaid_5 ?_
    exact none_e hf
def t_X11_isLowered (X : XT) (v1 : Int32) : Option Nat :=
  orE (t_X11_knownLoad X v1) (bn1 (f_X11_knownLoad X v1) (fun r1 => gd (r1 < 20) (bn1 (f_X1_gradeOfSugar X 1 (X 22 1 r1 4)) (fun r2 => if (X 22 1 r1 5) = r2 then (none) else (none)))))
set_option maxRecDepth 20000 in
theorem tc_X11_isLowered {l : Launch} (hl : l.stackTraces = false) {D : DD} {z : Nat} {Y : YT} {X : XT} {v1 : Int32} {e0 : Nat} (hf : t_X11_isLowered X v1 = some e0) : CT l yX11_isLowered cX11_isLowered 3 (some .boolean) (rmk 7 1 6) D z [.ref (z + aX 0 0 0), .int v1] (GG D z (X, Y)) (exN e0) (GG D z (X, Y)) := by
  unfold t_X11_isLowered at hf
  refine ct_of pn_X11 (le_ rfl) (ls := [(0, .ref (z + aX 0 0 0)), (1, .int v1)]) rfl ?_
  intro p e s m args below meth c E hex
  refine j_aload_n E 0 rfl dX11_isLowered_0 ?_
  refine j_iload_n E 1 rfl dX11_isLowered_1 ?_
  rcases orE_e hf with hq | hf
  · exact j_propV [] E hex (tc_X11_knownLoad hl hq) ml_X11_220 mv_X11_knownLoad rfl ⟨le_ rfl, le_ rfl⟩ (rcX ok0 cf_X11 ent0) rfl (le_ rfl) ⟨le_ rfl, le_ rfl⟩ dX11_isLowered_2 (le_ rfl) (le_ rfl)
  · obtain ⟨r1, h1, hf⟩ := bn1_e hf
    obtain ⟨g1, hf⟩ := gd_e hf
    refine j_invV [] [.ref (z + aX 22 1 r1)] E (c_X11_knownLoad h1) ml_X11_220 mv_X11_knownLoad rfl ⟨le_ rfl, le_ rfl⟩ (rcX ok0 cf_X11 ent0) rfl rfl (le_ rfl) ⟨le_ rfl, le_ rfl⟩ dX11_isLowered_2 ?_
    refine j_astore_n (ls' := [(2, .ref (z + aX 22 1 r1)), (0, .ref (z + aX 0 0 0)), (1, .int v1)]) E (lt_ rfl) rfl dX11_isLowered_5 ?_
    refine j_aload_n E 0 rfl dX11_isLowered_6 ?_
    refine j_getN (f := 5) E (okb22 jl1 g1) cf_X6 fl_X11_229 (lt_ rfl) rfl ent22 rfl dX11_isLowered_7 ?_
    refine j_aload_n E 1 rfl dX11_isLowered_10 ?_
    refine j_get (f := 1) E ok0 cf_X11 fl_X11_19 (lt_ rfl) rfl ent0 rfl dX11_isLowered_11 ?_
    refine j_getN (f := 0) E (okb10 jl1) cf_X0 fl_X11_119 (lt_ rfl) rfl ent10 rfl dX11_isLowered_14 ?_
    refine j_aload_n E 0 rfl dX11_isLowered_17 ?_
    refine j_getN (f := 4) E (okb22 jl1 g1) cf_X6 fl_X11_243 (lt_ rfl) rfl ent22 rfl dX11_isLowered_18 ?_
    obtain ⟨r2, h2, hf⟩ := bn1_e hf
    refine j_invV [.int (X 22 1 r1 5)] [.int r2, .int (X 22 1 r1 5)] E (c_X1_gradeOfSugar jl1 h2) ml_X11_155 mv_X1_gradeOfSugar rfl ⟨le_ rfl, le_ rfl⟩ (rcX (okb11 jl1) cf_X1 ent11) rfl rfl (le_ rfl) ⟨le_ rfl, le_ rfl⟩ dX11_isLowered_21 ?_
    refine j_icmp_eq E 31 (by decide) dX11_isLowered_24 (fun c1 => ?_) (fun c1 => ?_)
    · rw [if_pos c1] at hf
      refine j_iconst E 0 ic_0 dX11_isLowered_31 ?_
      exact none_e hf
    · rw [if_neg c1] at hf
      refine j_iconst E 1 ic_1 dX11_isLowered_27 ?_
      refine j_goto E 32 (by decide) dX11_isLowered_28 ?_
      exact none_e hf
def t_X11_knownTank (X : XT) (v1 : Int32) : Option Nat :=
  if v1 < 0 then (some 2) else (if v1 < (X 23 1 0 2) then (gd (¬ (v1 < 0 ∨ 5 ≤ v1.toNatClampNeg)) (none)) else (some 2))
set_option maxRecDepth 20000 in
theorem tc_X11_knownTank {l : Launch} (hl : l.stackTraces = false) {D : DD} {z : Nat} {Y : YT} {X : XT} {v1 : Int32} {e0 : Nat} (hf : t_X11_knownTank X v1 = some e0) : CT l yX11_knownTank cX11_knownTank 2 (some (.object "WineCooperative$Tank")) (rmk 6 1 6) D z [.ref (z + aX 0 0 0), .int v1] (GG D z (X, Y)) (exN e0) (GG D z (X, Y)) := by
  unfold t_X11_knownTank at hf
  refine ct_of pn_X11 (le_ rfl) (ls := [(0, .ref (z + aX 0 0 0)), (1, .int v1)]) rfl ?_
  intro p e s m args below meth c E hex
  refine j_iload_n E 1 rfl dX11_knownTank_0 ?_
  refine j_if_lt E 18 (by decide) dX11_knownTank_1 (fun c1 => ?_) (fun c1 => ?_)
  · rw [if_pos c1] at hf
    cases hf
    exact j_throwW (ex := "java/lang/IndexOutOfBoundsException") E hl hex tw_2 sl_X11_448 gg_grow dX11_knownTank_18 dX11_knownTank_21 dX11_knownTank_22 dX11_knownTank_25 dX11_knownTank_28 (lt_ rfl) (le_ rfl) (le_ rfl) (le_ rfl) (le_ rfl) (le_ rfl)
  · rw [if_neg c1] at hf
    refine j_iload_n E 1 rfl dX11_knownTank_4 ?_
    refine j_aload_n E 0 rfl dX11_knownTank_5 ?_
    refine j_get (f := 1) E ok0 cf_X11 fl_X11_19 (lt_ rfl) rfl ent0 rfl dX11_knownTank_6 ?_
    refine j_getN (f := 3) E (okb10 jl1) cf_X0 fl_X11_143 (lt_ rfl) rfl ent10 rfl dX11_knownTank_9 ?_
    refine j_getN (f := 2) E (okb23 jl1) cf_X2 fl_X11_411 (lt_ rfl) rfl ent23 rfl dX11_knownTank_12 ?_
    refine j_icmp_lt E 29 (by decide) dX11_knownTank_15 (fun c2 => ?_) (fun c2 => ?_)
    · rw [if_pos c2] at hf
      refine j_aload_n E 0 rfl dX11_knownTank_29 ?_
      refine j_get (f := 1) E ok0 cf_X11 fl_X11_19 (lt_ rfl) rfl ent0 rfl dX11_knownTank_30 ?_
      refine j_getN (f := 3) E (okb10 jl1) cf_X0 fl_X11_143 (lt_ rfl) rfl ent10 rfl dX11_knownTank_33 ?_
      refine j_getN (f := 0) E (okb23 jl1) cf_X2 fl_X11_418 (lt_ rfl) rfl ent23 rfl dX11_knownTank_36 ?_
      refine j_iload_n E 1 rfl dX11_knownTank_39 ?_
      obtain ⟨g1, hf⟩ := gd_e hf
      refine j_aald (t := 5) E (okb24 jl1) ent24 rfl g1 dX11_knownTank_40 ?_
      exact none_e hf
    · rw [if_neg c2] at hf
      cases hf
      exact j_throwW (ex := "java/lang/IndexOutOfBoundsException") E hl hex tw_2 sl_X11_448 gg_grow dX11_knownTank_18 dX11_knownTank_21 dX11_knownTank_22 dX11_knownTank_25 dX11_knownTank_28 (lt_ rfl) (le_ rfl) (le_ rfl) (le_ rfl) (le_ rfl) (le_ rfl)
def t_X11_content (X : XT) (v1 : Int32) : Option Nat :=
  orE (t_X11_knownTank X v1) (bn1 (f_X11_knownTank X v1) (fun r1 => gd (r1 < 5) (none)))
set_option maxRecDepth 20000 in
theorem tc_X11_content {l : Launch} (hl : l.stackTraces = false) {D : DD} {z : Nat} {Y : YT} {X : XT} {v1 : Int32} {e0 : Nat} (hf : t_X11_content X v1 = some e0) : CT l yX11_content cX11_content 2 (some .int) (rmk 7 1 6) D z [.ref (z + aX 0 0 0), .int v1] (GG D z (X, Y)) (exN e0) (GG D z (X, Y)) := by
  unfold t_X11_content at hf
  refine ct_of pn_X11 (le_ rfl) (ls := [(0, .ref (z + aX 0 0 0)), (1, .int v1)]) rfl ?_
  intro p e s m args below meth c E hex
  refine j_aload_n E 0 rfl dX11_content_0 ?_
  refine j_iload_n E 1 rfl dX11_content_1 ?_
  rcases orE_e hf with hq | hf
  · exact j_propV [] E hex (tc_X11_knownTank hl hq) ml_X11_246 mv_X11_knownTank rfl ⟨le_ rfl, le_ rfl⟩ (rcX ok0 cf_X11 ent0) rfl (le_ rfl) ⟨le_ rfl, le_ rfl⟩ dX11_content_2 (le_ rfl) (le_ rfl)
  · obtain ⟨r1, h1, hf⟩ := bn1_e hf
    obtain ⟨g1, hf⟩ := gd_e hf
    refine j_invV [] [.ref (z + aX 26 1 r1)] E (c_X11_knownTank h1) ml_X11_246 mv_X11_knownTank rfl ⟨le_ rfl, le_ rfl⟩ (rcX ok0 cf_X11 ent0) rfl rfl (le_ rfl) ⟨le_ rfl, le_ rfl⟩ dX11_content_2 ?_
    refine j_getN (f := 1) E (okb26 jl1 g1) cf_X9 fl_X11_250 (lt_ rfl) rfl ent26 rfl dX11_content_5 ?_
    exact none_e hf
def t_X11_varietyIn (X : XT) (v1 : Int32) : Option Nat :=
  orE (t_X11_knownTank X v1) (bn1 (f_X11_knownTank X v1) (fun r1 => gd (r1 < 5) (none)))
set_option maxRecDepth 20000 in
theorem tc_X11_varietyIn {l : Launch} (hl : l.stackTraces = false) {D : DD} {z : Nat} {Y : YT} {X : XT} {v1 : Int32} {e0 : Nat} (hf : t_X11_varietyIn X v1 = some e0) : CT l yX11_varietyIn cX11_varietyIn 2 (some .int) (rmk 7 1 6) D z [.ref (z + aX 0 0 0), .int v1] (GG D z (X, Y)) (exN e0) (GG D z (X, Y)) := by
  unfold t_X11_varietyIn at hf
  refine ct_of pn_X11 (le_ rfl) (ls := [(0, .ref (z + aX 0 0 0)), (1, .int v1)]) rfl ?_
  intro p e s m args below meth c E hex
  refine j_aload_n E 0 rfl dX11_varietyIn_0 ?_
  refine j_iload_n E 1 rfl dX11_varietyIn_1 ?_
  rcases orE_e hf with hq | hf
  · exact j_propV [] E hex (tc_X11_knownTank hl hq) ml_X11_246 mv_X11_knownTank rfl ⟨le_ rfl, le_ rfl⟩ (rcX ok0 cf_X11 ent0) rfl (le_ rfl) ⟨le_ rfl, le_ rfl⟩ dX11_varietyIn_2 (le_ rfl) (le_ rfl)
  · obtain ⟨r1, h1, hf⟩ := bn1_e hf
    obtain ⟨g1, hf⟩ := gd_e hf
    refine j_invV [] [.ref (z + aX 26 1 r1)] E (c_X11_knownTank h1) ml_X11_246 mv_X11_knownTank rfl ⟨le_ rfl, le_ rfl⟩ (rcX ok0 cf_X11 ent0) rfl rfl (le_ rfl) ⟨le_ rfl, le_ rfl⟩ dX11_varietyIn_2 ?_
    refine j_getN (f := 2) E (okb26 jl1 g1) cf_X9 fl_X11_255 (lt_ rfl) rfl ent26 rfl dX11_varietyIn_5 ?_
    exact none_e hf
def t_X11_meanSugar (X : XT) (v1 : Int32) : Option Nat :=
  orE (t_X11_knownTank X v1) (bn1 (f_X11_knownTank X v1) (fun r1 => gd (r1 < 5) (bn1 (f_X9_mean X 1 r1) (fun r2 => none))))
set_option maxRecDepth 20000 in
theorem tc_X11_meanSugar {l : Launch} (hl : l.stackTraces = false) {D : DD} {z : Nat} {Y : YT} {X : XT} {v1 : Int32} {e0 : Nat} (hf : t_X11_meanSugar X v1 = some e0) : CT l yX11_meanSugar cX11_meanSugar 2 (some .int) (rmk 7 1 6) D z [.ref (z + aX 0 0 0), .int v1] (GG D z (X, Y)) (exN e0) (GG D z (X, Y)) := by
  unfold t_X11_meanSugar at hf
  refine ct_of pn_X11 (le_ rfl) (ls := [(0, .ref (z + aX 0 0 0)), (1, .int v1)]) rfl ?_
  intro p e s m args below meth c E hex
  refine j_aload_n E 0 rfl dX11_meanSugar_0 ?_
  refine j_iload_n E 1 rfl dX11_meanSugar_1 ?_
  rcases orE_e hf with hq | hf
  · exact j_propV [] E hex (tc_X11_knownTank hl hq) ml_X11_246 mv_X11_knownTank rfl ⟨le_ rfl, le_ rfl⟩ (rcX ok0 cf_X11 ent0) rfl (le_ rfl) ⟨le_ rfl, le_ rfl⟩ dX11_meanSugar_2 (le_ rfl) (le_ rfl)
  · obtain ⟨r1, h1, hf⟩ := bn1_e hf
    obtain ⟨g1, hf⟩ := gd_e hf
    refine j_invV [] [.ref (z + aX 26 1 r1)] E (c_X11_knownTank h1) ml_X11_246 mv_X11_knownTank rfl ⟨le_ rfl, le_ rfl⟩ (rcX ok0 cf_X11 ent0) rfl rfl (le_ rfl) ⟨le_ rfl, le_ rfl⟩ dX11_meanSugar_2 ?_
    obtain ⟨r2, h2, hf⟩ := bn1_e hf
    refine j_invV [] [.int r2] E (c_X9_mean jl1 g1 h2) ml_X11_258 mv_X9_mean rfl ⟨le_ rfl, le_ rfl⟩ (rcX (okb26 jl1 g1) cf_X9 ent26) rfl rfl (le_ rfl) ⟨le_ rfl, le_ rfl⟩ dX11_meanSugar_5 ?_
    exact none_e hf
def t_X11_needWeight (v0 : Int32) : Option Nat :=
  if v0 < 1 then (some 1) else (if v0 ≤ 5000 then (none) else (some 1))
set_option maxRecDepth 20000 in
theorem tc_X11_needWeight {l : Launch} (hl : l.stackTraces = false) {D : DD} {z : Nat} {S0 : WS} {v0 : Int32} {e0 : Nat} (hf : t_X11_needWeight v0 = some e0) : CT l yX11_needWeight cX11_needWeight 1 none (rmk 6 1 6) D z [.int v0] (GG D z S0) (exN e0) (GG D z S0) := by
  unfold t_X11_needWeight at hf
  refine ct_of pn_X11 (le_ rfl) (ls := [(0, .int v0)]) rfl ?_
  intro p e s m args below meth c E hex
  refine j_iload_n E 0 rfl dX11_needWeight_0 ?_
  refine j_iconst E 1 ic_1 dX11_needWeight_1 ?_
  refine j_icmp_lt E 12 (by decide) dX11_needWeight_2 (fun c1 => ?_) (fun c1 => ?_)
  · rw [if_pos c1] at hf
    cases hf
    exact j_throwW (ex := "java/lang/IllegalArgumentException") E hl hex tw_1 sl_X11_475 gg_grow dX11_needWeight_12 dX11_needWeight_15 dX11_needWeight_16 dX11_needWeight_19 dX11_needWeight_22 (lt_ rfl) (le_ rfl) (le_ rfl) (le_ rfl) (le_ rfl) (le_ rfl)
  · rw [if_neg c1] at hf
    refine j_iload_n E 0 rfl dX11_needWeight_5 ?_
    refine j_sipush E 5000 sp_5000 dX11_needWeight_6 ?_
    refine j_icmp_le E 23 (by decide) dX11_needWeight_9 (fun c2 => ?_) (fun c2 => ?_)
    · rw [if_pos c2] at hf
      exact none_e hf
    · rw [if_neg c2] at hf
      cases hf
      exact j_throwW (ex := "java/lang/IllegalArgumentException") E hl hex tw_1 sl_X11_475 gg_grow dX11_needWeight_12 dX11_needWeight_15 dX11_needWeight_16 dX11_needWeight_19 dX11_needWeight_22 (lt_ rfl) (le_ rfl) (le_ rfl) (le_ rfl) (le_ rfl) (le_ rfl)
def t_X11_tankFor (X : XT) (v1 : Int32) (v2 : Int32) : Option Nat :=
  orE (t_X11_needVariety X v1) (bn1 (f_X11_needVariety X v1) (fun _ => orE (t_X11_needWeight v2) (bn1 (f_X11_needWeight v2) (fun _ => bn1 (f_X2_chooseTank X 1 v1 v2) (fun r1 => none)))))
set_option maxRecDepth 20000 in
theorem tc_X11_tankFor {l : Launch} (hl : l.stackTraces = false) {D : DD} {z : Nat} {Y : YT} {X : XT} {v1 : Int32} {v2 : Int32} {e0 : Nat} (hf : t_X11_tankFor X v1 v2 = some e0) : CT l yX11_tankFor cX11_tankFor 3 (some .int) (rmk 7 1 6) D z [.ref (z + aX 0 0 0), .int v1, .int v2] (GG D z (X, Y)) (exN e0) (GG D z (X, Y)) := by
  unfold t_X11_tankFor at hf
  refine ct_of pn_X11 (le_ rfl) (ls := [(0, .ref (z + aX 0 0 0)), (1, .int v1), (2, .int v2)]) rfl ?_
  intro p e s m args below meth c E hex
  refine j_aload_n E 0 rfl dX11_tankFor_0 ?_
  refine j_iload_n E 1 rfl dX11_tankFor_1 ?_
  rcases orE_e hf with hq | hf
  · exact j_propV [] E hex (tc_X11_needVariety hl hq) ml_X11_159 mv_X11_needVariety rfl ⟨le_ rfl, le_ rfl⟩ (rcX ok0 cf_X11 ent0) rfl (le_ rfl) ⟨le_ rfl, le_ rfl⟩ dX11_tankFor_2 (le_ rfl) (le_ rfl)
  · obtain ⟨_, h1, hf⟩ := bn1_e hf
    refine j_invV [] [] E (c_X11_needVariety h1) ml_X11_159 mv_X11_needVariety rfl ⟨le_ rfl, le_ rfl⟩ (rcX ok0 cf_X11 ent0) rfl rfl (le_ rfl) ⟨le_ rfl, le_ rfl⟩ dX11_tankFor_2 ?_
    refine j_iload_n E 2 rfl dX11_tankFor_5 ?_
    rcases orE_e hf with hq | hf
    · exact j_propS [] E hex (tc_X11_needWeight hl hq) ml_X11_261 ms_X11_needWeight rfl ⟨le_ rfl, le_ rfl⟩ rfl (le_ rfl) ⟨le_ rfl, le_ rfl⟩ dX11_tankFor_6 (le_ rfl) (le_ rfl)
    · obtain ⟨_, h2, hf⟩ := bn1_e hf
      refine j_invS [] [] E (c_X11_needWeight h2) ml_X11_261 ms_X11_needWeight rfl ⟨le_ rfl, le_ rfl⟩ rfl rfl (le_ rfl) ⟨le_ rfl, le_ rfl⟩ dX11_tankFor_6 ?_
      refine j_aload_n E 0 rfl dX11_tankFor_9 ?_
      refine j_get (f := 1) E ok0 cf_X11 fl_X11_19 (lt_ rfl) rfl ent0 rfl dX11_tankFor_10 ?_
      refine j_getN (f := 3) E (okb10 jl1) cf_X0 fl_X11_143 (lt_ rfl) rfl ent10 rfl dX11_tankFor_13 ?_
      refine j_iload_n E 1 rfl dX11_tankFor_16 ?_
      refine j_iload_n E 2 rfl dX11_tankFor_17 ?_
      obtain ⟨r1, h3, hf⟩ := bn1_e hf
      refine j_invV [] [.int r1] E (c_X2_chooseTank jl1 h3) ml_X11_264 mv_X2_chooseTank rfl ⟨le_ rfl, le_ rfl⟩ (rcX (okb23 jl1) cf_X2 ent23) rfl rfl (le_ rfl) ⟨le_ rfl, le_ rfl⟩ dX11_tankFor_18 ?_
      exact none_e hf
def t_X11_greatestLoad (X : XT) (v1 : Int32) : Option Nat :=
  orE (t_X11_needVariety X v1) (bn1 (f_X11_needVariety X v1) (fun _ => bn1 (f_X2_greatestWeightFor X 1 v1) (fun r1 => none)))
set_option maxRecDepth 20000 in
theorem tc_X11_greatestLoad {l : Launch} (hl : l.stackTraces = false) {D : DD} {z : Nat} {Y : YT} {X : XT} {v1 : Int32} {e0 : Nat} (hf : t_X11_greatestLoad X v1 = some e0) : CT l yX11_greatestLoad cX11_greatestLoad 2 (some .int) (rmk 7 1 6) D z [.ref (z + aX 0 0 0), .int v1] (GG D z (X, Y)) (exN e0) (GG D z (X, Y)) := by
  unfold t_X11_greatestLoad at hf
  refine ct_of pn_X11 (le_ rfl) (ls := [(0, .ref (z + aX 0 0 0)), (1, .int v1)]) rfl ?_
  intro p e s m args below meth c E hex
  refine j_aload_n E 0 rfl dX11_greatestLoad_0 ?_
  refine j_iload_n E 1 rfl dX11_greatestLoad_1 ?_
  rcases orE_e hf with hq | hf
  · exact j_propV [] E hex (tc_X11_needVariety hl hq) ml_X11_159 mv_X11_needVariety rfl ⟨le_ rfl, le_ rfl⟩ (rcX ok0 cf_X11 ent0) rfl (le_ rfl) ⟨le_ rfl, le_ rfl⟩ dX11_greatestLoad_2 (le_ rfl) (le_ rfl)
  · obtain ⟨_, h1, hf⟩ := bn1_e hf
    refine j_invV [] [] E (c_X11_needVariety h1) ml_X11_159 mv_X11_needVariety rfl ⟨le_ rfl, le_ rfl⟩ (rcX ok0 cf_X11 ent0) rfl rfl (le_ rfl) ⟨le_ rfl, le_ rfl⟩ dX11_greatestLoad_2 ?_
    refine j_aload_n E 0 rfl dX11_greatestLoad_5 ?_
    refine j_get (f := 1) E ok0 cf_X11 fl_X11_19 (lt_ rfl) rfl ent0 rfl dX11_greatestLoad_6 ?_
    refine j_getN (f := 3) E (okb10 jl1) cf_X0 fl_X11_143 (lt_ rfl) rfl ent10 rfl dX11_greatestLoad_9 ?_
    refine j_iload_n E 1 rfl dX11_greatestLoad_12 ?_
    obtain ⟨r1, h2, hf⟩ := bn1_e hf
    refine j_invV [] [.int r1] E (c_X2_greatestWeightFor jl1 h2) ml_X11_267 mv_X2_greatestWeightFor rfl ⟨le_ rfl, le_ rfl⟩ (rcX (okb23 jl1) cf_X2 ent23) rfl rfl (le_ rfl) ⟨le_ rfl, le_ rfl⟩ dX11_greatestLoad_13 ?_
    exact none_e hf
def t_X11_refusal (X : XT) (v1 : Int32) (v2 : Int32) (v3 : Int32) : Option Nat :=
  orE (t_X11_needPlot X v1) (bn1 (f_X11_needPlot X v1) (fun _ => orE (t_X11_needWeight v2) (bn1 (f_X11_needWeight v2) (fun _ => orE (t_X11_needSugar v3) (bn1 (f_X11_needSugar v3) (fun _ => bn1 (f_X0_reasonAgainst X 1 v1 v2 v3) (fun r1 => none)))))))
set_option maxRecDepth 20000 in
theorem tc_X11_refusal {l : Launch} (hl : l.stackTraces = false) {D : DD} {z : Nat} {Y : YT} {X : XT} {v1 : Int32} {v2 : Int32} {v3 : Int32} {e0 : Nat} (hf : t_X11_refusal X v1 v2 v3 = some e0) : CT l yX11_refusal cX11_refusal 4 (some .int) (rmk 7 1 6) D z [.ref (z + aX 0 0 0), .int v1, .int v2, .int v3] (GG D z (X, Y)) (exN e0) (GG D z (X, Y)) := by
  unfold t_X11_refusal at hf
  refine ct_of pn_X11 (le_ rfl) (ls := [(0, .ref (z + aX 0 0 0)), (1, .int v1), (2, .int v2), (3, .int v3)]) rfl ?_
  intro p e s m args below meth c E hex
  refine j_aload_n E 0 rfl dX11_refusal_0 ?_
  refine j_iload_n E 1 rfl dX11_refusal_1 ?_
  rcases orE_e hf with hq | hf
  · exact j_propV [] E hex (tc_X11_needPlot hl hq) ml_X11_208 mv_X11_needPlot rfl ⟨le_ rfl, le_ rfl⟩ (rcX ok0 cf_X11 ent0) rfl (le_ rfl) ⟨le_ rfl, le_ rfl⟩ dX11_refusal_2 (le_ rfl) (le_ rfl)
  · obtain ⟨_, h1, hf⟩ := bn1_e hf
    refine j_invV [] [] E (c_X11_needPlot h1) ml_X11_208 mv_X11_needPlot rfl ⟨le_ rfl, le_ rfl⟩ (rcX ok0 cf_X11 ent0) rfl rfl (le_ rfl) ⟨le_ rfl, le_ rfl⟩ dX11_refusal_2 ?_
    refine j_iload_n E 2 rfl dX11_refusal_5 ?_
    rcases orE_e hf with hq | hf
    · exact j_propS [] E hex (tc_X11_needWeight hl hq) ml_X11_261 ms_X11_needWeight rfl ⟨le_ rfl, le_ rfl⟩ rfl (le_ rfl) ⟨le_ rfl, le_ rfl⟩ dX11_refusal_6 (le_ rfl) (le_ rfl)
    · obtain ⟨_, h2, hf⟩ := bn1_e hf
      refine j_invS [] [] E (c_X11_needWeight h2) ml_X11_261 ms_X11_needWeight rfl ⟨le_ rfl, le_ rfl⟩ rfl rfl (le_ rfl) ⟨le_ rfl, le_ rfl⟩ dX11_refusal_6 ?_
      refine j_iload_n E 3 rfl dX11_refusal_9 ?_
      rcases orE_e hf with hq | hf
      · exact j_propS [] E hex (tc_X11_needSugar hl hq) ml_X11_152 ms_X11_needSugar rfl ⟨le_ rfl, le_ rfl⟩ rfl (le_ rfl) ⟨le_ rfl, le_ rfl⟩ dX11_refusal_10 (le_ rfl) (le_ rfl)
      · obtain ⟨_, h3, hf⟩ := bn1_e hf
        refine j_invS [] [] E (c_X11_needSugar h3) ml_X11_152 ms_X11_needSugar rfl ⟨le_ rfl, le_ rfl⟩ rfl rfl (le_ rfl) ⟨le_ rfl, le_ rfl⟩ dX11_refusal_10 ?_
        refine j_aload_n E 0 rfl dX11_refusal_13 ?_
        refine j_get (f := 1) E ok0 cf_X11 fl_X11_19 (lt_ rfl) rfl ent0 rfl dX11_refusal_14 ?_
        refine j_iload_n E 1 rfl dX11_refusal_17 ?_
        refine j_iload_n E 2 rfl dX11_refusal_18 ?_
        refine j_iload_n E 3 rfl dX11_refusal_19 ?_
        obtain ⟨r1, h4, hf⟩ := bn1_e hf
        refine j_invV [] [.int r1] E (c_X0_reasonAgainst jl1 h4) ml_X11_270 mv_X0_reasonAgainst rfl ⟨le_ rfl, le_ rfl⟩ (rcX (okb10 jl1) cf_X0 ent10) rfl rfl (le_ rfl) ⟨le_ rfl, le_ rfl⟩ dX11_refusal_20 ?_
        exact none_e hf
def t_X11_valueIfDelivered (X : XT) (v1 : Int32) (v2 : Int32) (v3 : Int32) : Option Nat :=
  orE (t_X11_needPlot X v1) (bn1 (f_X11_needPlot X v1) (fun _ => orE (t_X11_needWeight v2) (bn1 (f_X11_needWeight v2) (fun _ => orE (t_X11_needSugar v3) (bn1 (f_X11_needSugar v3) (fun _ => bn1 (f_X0_reasonAgainst X 1 v1 v2 v3) (fun r1 => if r1 = 0 then (bn1 (f_X5_varietyOn X 1 v1) (fun r2 => bn1 (f_X0_gradeFor X 1 v1 v2 v3) (fun r3 => bn1 (f_X1_centsFor X 1 r2 r3) (fun r4 => none)))) else (none))))))))
set_option maxRecDepth 20000 in
theorem tc_X11_valueIfDelivered {l : Launch} (hl : l.stackTraces = false) {D : DD} {z : Nat} {Y : YT} {X : XT} {v1 : Int32} {v2 : Int32} {v3 : Int32} {e0 : Nat} (hf : t_X11_valueIfDelivered X v1 v2 v3 = some e0) : CT l yX11_valueIfDelivered cX11_valueIfDelivered 4 (some .int) (rmk 7 1 6) D z [.ref (z + aX 0 0 0), .int v1, .int v2, .int v3] (GG D z (X, Y)) (exN e0) (GG D z (X, Y)) := by
  unfold t_X11_valueIfDelivered at hf
  refine ct_of pn_X11 (le_ rfl) (ls := [(0, .ref (z + aX 0 0 0)), (1, .int v1), (2, .int v2), (3, .int v3)]) rfl ?_
  intro p e s m args below meth c E hex
  refine j_aload_n E 0 rfl dX11_valueIfDelivered_0 ?_
  refine j_iload_n E 1 rfl dX11_valueIfDelivered_1 ?_
  rcases orE_e hf with hq | hf
  · exact j_propV [] E hex (tc_X11_needPlot hl hq) ml_X11_208 mv_X11_needPlot rfl ⟨le_ rfl, le_ rfl⟩ (rcX ok0 cf_X11 ent0) rfl (le_ rfl) ⟨le_ rfl, le_ rfl⟩ dX11_valueIfDelivered_2 (le_ rfl) (le_ rfl)
  · obtain ⟨_, h1, hf⟩ := bn1_e hf
    refine j_invV [] [] E (c_X11_needPlot h1) ml_X11_208 mv_X11_needPlot rfl ⟨le_ rfl, le_ rfl⟩ (rcX ok0 cf_X11 ent0) rfl rfl (le_ rfl) ⟨le_ rfl, le_ rfl⟩ dX11_valueIfDelivered_2 ?_
    refine j_iload_n E 2 rfl dX11_valueIfDelivered_5 ?_
    rcases orE_e hf with hq | hf
    · exact j_propS [] E hex (tc_X11_needWeight hl hq) ml_X11_261 ms_X11_needWeight rfl ⟨le_ rfl, le_ rfl⟩ rfl (le_ rfl) ⟨le_ rfl, le_ rfl⟩ dX11_valueIfDelivered_6 (le_ rfl) (le_ rfl)
    · obtain ⟨_, h2, hf⟩ := bn1_e hf
      refine j_invS [] [] E (c_X11_needWeight h2) ml_X11_261 ms_X11_needWeight rfl ⟨le_ rfl, le_ rfl⟩ rfl rfl (le_ rfl) ⟨le_ rfl, le_ rfl⟩ dX11_valueIfDelivered_6 ?_
      refine j_iload_n E 3 rfl dX11_valueIfDelivered_9 ?_
      rcases orE_e hf with hq | hf
      · exact j_propS [] E hex (tc_X11_needSugar hl hq) ml_X11_152 ms_X11_needSugar rfl ⟨le_ rfl, le_ rfl⟩ rfl (le_ rfl) ⟨le_ rfl, le_ rfl⟩ dX11_valueIfDelivered_10 (le_ rfl) (le_ rfl)
      · obtain ⟨_, h3, hf⟩ := bn1_e hf
        refine j_invS [] [] E (c_X11_needSugar h3) ml_X11_152 ms_X11_needSugar rfl ⟨le_ rfl, le_ rfl⟩ rfl rfl (le_ rfl) ⟨le_ rfl, le_ rfl⟩ dX11_valueIfDelivered_10 ?_
        refine j_aload_n E 0 rfl dX11_valueIfDelivered_13 ?_
        refine j_get (f := 1) E ok0 cf_X11 fl_X11_19 (lt_ rfl) rfl ent0 rfl dX11_valueIfDelivered_14 ?_
        refine j_iload_n E 1 rfl dX11_valueIfDelivered_17 ?_
        refine j_iload_n E 2 rfl dX11_valueIfDelivered_18 ?_
        refine j_iload_n E 3 rfl dX11_valueIfDelivered_19 ?_
        obtain ⟨r1, h4, hf⟩ := bn1_e hf
        refine j_invV [] [.int r1] E (c_X0_reasonAgainst jl1 h4) ml_X11_270 mv_X0_reasonAgainst rfl ⟨le_ rfl, le_ rfl⟩ (rcX (okb10 jl1) cf_X0 ent10) rfl rfl (le_ rfl) ⟨le_ rfl, le_ rfl⟩ dX11_valueIfDelivered_20 ?_
        refine j_if_eq E 28 (by decide) dX11_valueIfDelivered_23 (fun c1 => ?_) (fun c1 => ?_)
        · rw [if_pos c1] at hf
          refine j_iload_n E 2 rfl dX11_valueIfDelivered_28 ?_
          refine j_aload_n E 0 rfl dX11_valueIfDelivered_29 ?_
          refine j_get (f := 1) E ok0 cf_X11 fl_X11_19 (lt_ rfl) rfl ent0 rfl dX11_valueIfDelivered_30 ?_
          refine j_getN (f := 0) E (okb10 jl1) cf_X0 fl_X11_119 (lt_ rfl) rfl ent10 rfl dX11_valueIfDelivered_33 ?_
          refine j_aload_n E 0 rfl dX11_valueIfDelivered_36 ?_
          refine j_get (f := 1) E ok0 cf_X11 fl_X11_19 (lt_ rfl) rfl ent0 rfl dX11_valueIfDelivered_37 ?_
          refine j_getN (f := 1) E (okb10 jl1) cf_X0 fl_X11_131 (lt_ rfl) rfl ent10 rfl dX11_valueIfDelivered_40 ?_
          refine j_iload_n E 1 rfl dX11_valueIfDelivered_43 ?_
          obtain ⟨r2, h5, hf⟩ := bn1_e hf
          refine j_invV [.ref (z + aX 11 1 0), .int v2] [.int r2, .ref (z + aX 11 1 0), .int v2] E (c_X5_varietyOn jl1 h5) ml_X11_274 mv_X5_varietyOn rfl ⟨le_ rfl, le_ rfl⟩ (rcX (okb15 jl1) cf_X5 ent15) rfl rfl (le_ rfl) ⟨le_ rfl, le_ rfl⟩ dX11_valueIfDelivered_44 ?_
          refine j_aload_n E 0 rfl dX11_valueIfDelivered_47 ?_
          refine j_get (f := 1) E ok0 cf_X11 fl_X11_19 (lt_ rfl) rfl ent0 rfl dX11_valueIfDelivered_48 ?_
          refine j_iload_n E 1 rfl dX11_valueIfDelivered_51 ?_
          refine j_iload_n E 2 rfl dX11_valueIfDelivered_52 ?_
          refine j_iload_n E 3 rfl dX11_valueIfDelivered_53 ?_
          obtain ⟨r3, h6, hf⟩ := bn1_e hf
          refine j_invV [.int r2, .ref (z + aX 11 1 0), .int v2] [.int r3, .int r2, .ref (z + aX 11 1 0), .int v2] E (c_X0_gradeFor jl1 h6) ml_X11_277 mv_X0_gradeFor rfl ⟨le_ rfl, le_ rfl⟩ (rcX (okb10 jl1) cf_X0 ent10) rfl rfl (le_ rfl) ⟨le_ rfl, le_ rfl⟩ dX11_valueIfDelivered_54 ?_
          obtain ⟨r4, h7, hf⟩ := bn1_e hf
          refine j_invV [.int v2] [.int r4, .int v2] E (c_X1_centsFor jl1 h7) ml_X11_165 mv_X1_centsFor rfl ⟨le_ rfl, le_ rfl⟩ (rcX (okb11 jl1) cf_X1 ent11) rfl rfl (le_ rfl) ⟨le_ rfl, le_ rfl⟩ dX11_valueIfDelivered_57 ?_
          refine j_imul E dX11_valueIfDelivered_60 ?_
          exact none_e hf
        · rw [if_neg c1] at hf
          refine j_iconst E (-1) ic_m1 dX11_valueIfDelivered_26 ?_
          exact none_e hf
def t_X11_knownLot (X : XT) (v1 : Int32) : Option Nat :=
  if v1 < 0 then (some 2) else (if v1 < (X 23 1 0 3) then (gd (¬ (v1 < 0 ∨ 12 ≤ v1.toNatClampNeg)) (none)) else (some 2))
set_option maxRecDepth 20000 in
theorem tc_X11_knownLot {l : Launch} (hl : l.stackTraces = false) {D : DD} {z : Nat} {Y : YT} {X : XT} {v1 : Int32} {e0 : Nat} (hf : t_X11_knownLot X v1 = some e0) : CT l yX11_knownLot cX11_knownLot 2 (some (.object "WineCooperative$Lot")) (rmk 6 1 6) D z [.ref (z + aX 0 0 0), .int v1] (GG D z (X, Y)) (exN e0) (GG D z (X, Y)) := by
  unfold t_X11_knownLot at hf
  refine ct_of pn_X11 (le_ rfl) (ls := [(0, .ref (z + aX 0 0 0)), (1, .int v1)]) rfl ?_
  intro p e s m args below meth c E hex
  refine j_iload_n E 1 rfl dX11_knownLot_0 ?_
  refine j_if_lt E 18 (by decide) dX11_knownLot_1 (fun c1 => ?_) (fun c1 => ?_)
  · rw [if_pos c1] at hf
    cases hf
    exact j_throwW (ex := "java/lang/IndexOutOfBoundsException") E hl hex tw_2 sl_X11_450 gg_grow dX11_knownLot_18 dX11_knownLot_21 dX11_knownLot_22 dX11_knownLot_25 dX11_knownLot_28 (lt_ rfl) (le_ rfl) (le_ rfl) (le_ rfl) (le_ rfl) (le_ rfl)
  · rw [if_neg c1] at hf
    refine j_iload_n E 1 rfl dX11_knownLot_4 ?_
    refine j_aload_n E 0 rfl dX11_knownLot_5 ?_
    refine j_get (f := 1) E ok0 cf_X11 fl_X11_19 (lt_ rfl) rfl ent0 rfl dX11_knownLot_6 ?_
    refine j_getN (f := 3) E (okb10 jl1) cf_X0 fl_X11_143 (lt_ rfl) rfl ent10 rfl dX11_knownLot_9 ?_
    refine j_getN (f := 3) E (okb23 jl1) cf_X2 fl_X11_147 (lt_ rfl) rfl ent23 rfl dX11_knownLot_12 ?_
    refine j_icmp_lt E 29 (by decide) dX11_knownLot_15 (fun c2 => ?_) (fun c2 => ?_)
    · rw [if_pos c2] at hf
      refine j_aload_n E 0 rfl dX11_knownLot_29 ?_
      refine j_get (f := 1) E ok0 cf_X11 fl_X11_19 (lt_ rfl) rfl ent0 rfl dX11_knownLot_30 ?_
      refine j_getN (f := 3) E (okb10 jl1) cf_X0 fl_X11_143 (lt_ rfl) rfl ent10 rfl dX11_knownLot_33 ?_
      refine j_getN (f := 1) E (okb23 jl1) cf_X2 fl_X11_452 (lt_ rfl) rfl ent23 rfl dX11_knownLot_36 ?_
      refine j_iload_n E 1 rfl dX11_knownLot_39 ?_
      obtain ⟨g1, hf⟩ := gd_e hf
      refine j_aald (t := 6) E (okb25 jl1) ent25 rfl g1 dX11_knownLot_40 ?_
      exact none_e hf
    · rw [if_neg c2] at hf
      cases hf
      exact j_throwW (ex := "java/lang/IndexOutOfBoundsException") E hl hex tw_2 sl_X11_450 gg_grow dX11_knownLot_18 dX11_knownLot_21 dX11_knownLot_22 dX11_knownLot_25 dX11_knownLot_28 (lt_ rfl) (le_ rfl) (le_ rfl) (le_ rfl) (le_ rfl) (le_ rfl)
def t_X11_lotVariety (X : XT) (v1 : Int32) : Option Nat :=
  orE (t_X11_knownLot X v1) (bn1 (f_X11_knownLot X v1) (fun r1 => gd (r1 < 12) (none)))
set_option maxRecDepth 20000 in
theorem tc_X11_lotVariety {l : Launch} (hl : l.stackTraces = false) {D : DD} {z : Nat} {Y : YT} {X : XT} {v1 : Int32} {e0 : Nat} (hf : t_X11_lotVariety X v1 = some e0) : CT l yX11_lotVariety cX11_lotVariety 2 (some .int) (rmk 7 1 6) D z [.ref (z + aX 0 0 0), .int v1] (GG D z (X, Y)) (exN e0) (GG D z (X, Y)) := by
  unfold t_X11_lotVariety at hf
  refine ct_of pn_X11 (le_ rfl) (ls := [(0, .ref (z + aX 0 0 0)), (1, .int v1)]) rfl ?_
  intro p e s m args below meth c E hex
  refine j_aload_n E 0 rfl dX11_lotVariety_0 ?_
  refine j_iload_n E 1 rfl dX11_lotVariety_1 ?_
  rcases orE_e hf with hq | hf
  · exact j_propV [] E hex (tc_X11_knownLot hl hq) ml_X11_280 mv_X11_knownLot rfl ⟨le_ rfl, le_ rfl⟩ (rcX ok0 cf_X11 ent0) rfl (le_ rfl) ⟨le_ rfl, le_ rfl⟩ dX11_lotVariety_2 (le_ rfl) (le_ rfl)
  · obtain ⟨r1, h1, hf⟩ := bn1_e hf
    obtain ⟨g1, hf⟩ := gd_e hf
    refine j_invV [] [.ref (z + aX 27 1 r1)] E (c_X11_knownLot h1) ml_X11_280 mv_X11_knownLot rfl ⟨le_ rfl, le_ rfl⟩ (rcX ok0 cf_X11 ent0) rfl rfl (le_ rfl) ⟨le_ rfl, le_ rfl⟩ dX11_lotVariety_2 ?_
    refine j_getN (f := 0) E (okb27 jl1 g1) cf_X7 fl_X11_284 (lt_ rfl) rfl ent27 rfl dX11_lotVariety_5 ?_
    exact none_e hf
def t_X11_lotSugar (X : XT) (v1 : Int32) : Option Nat :=
  orE (t_X11_knownLot X v1) (bn1 (f_X11_knownLot X v1) (fun r1 => gd (r1 < 12) (none)))
set_option maxRecDepth 20000 in
theorem tc_X11_lotSugar {l : Launch} (hl : l.stackTraces = false) {D : DD} {z : Nat} {Y : YT} {X : XT} {v1 : Int32} {e0 : Nat} (hf : t_X11_lotSugar X v1 = some e0) : CT l yX11_lotSugar cX11_lotSugar 2 (some .int) (rmk 7 1 6) D z [.ref (z + aX 0 0 0), .int v1] (GG D z (X, Y)) (exN e0) (GG D z (X, Y)) := by
  unfold t_X11_lotSugar at hf
  refine ct_of pn_X11 (le_ rfl) (ls := [(0, .ref (z + aX 0 0 0)), (1, .int v1)]) rfl ?_
  intro p e s m args below meth c E hex
  refine j_aload_n E 0 rfl dX11_lotSugar_0 ?_
  refine j_iload_n E 1 rfl dX11_lotSugar_1 ?_
  rcases orE_e hf with hq | hf
  · exact j_propV [] E hex (tc_X11_knownLot hl hq) ml_X11_280 mv_X11_knownLot rfl ⟨le_ rfl, le_ rfl⟩ (rcX ok0 cf_X11 ent0) rfl (le_ rfl) ⟨le_ rfl, le_ rfl⟩ dX11_lotSugar_2 (le_ rfl) (le_ rfl)
  · obtain ⟨r1, h1, hf⟩ := bn1_e hf
    obtain ⟨g1, hf⟩ := gd_e hf
    refine j_invV [] [.ref (z + aX 27 1 r1)] E (c_X11_knownLot h1) ml_X11_280 mv_X11_knownLot rfl ⟨le_ rfl, le_ rfl⟩ (rcX ok0 cf_X11 ent0) rfl rfl (le_ rfl) ⟨le_ rfl, le_ rfl⟩ dX11_lotSugar_2 ?_
    refine j_getN (f := 1) E (okb27 jl1 g1) cf_X7 fl_X11_287 (lt_ rfl) rfl ent27 rfl dX11_lotSugar_5 ?_
    exact none_e hf
def t_X11_unsold (X : XT) (v1 : Int32) : Option Nat :=
  orE (t_X11_knownLot X v1) (bn1 (f_X11_knownLot X v1) (fun r1 => gd (r1 < 12) (none)))
set_option maxRecDepth 20000 in
theorem tc_X11_unsold {l : Launch} (hl : l.stackTraces = false) {D : DD} {z : Nat} {Y : YT} {X : XT} {v1 : Int32} {e0 : Nat} (hf : t_X11_unsold X v1 = some e0) : CT l yX11_unsold cX11_unsold 2 (some .int) (rmk 7 1 6) D z [.ref (z + aX 0 0 0), .int v1] (GG D z (X, Y)) (exN e0) (GG D z (X, Y)) := by
  unfold t_X11_unsold at hf
  refine ct_of pn_X11 (le_ rfl) (ls := [(0, .ref (z + aX 0 0 0)), (1, .int v1)]) rfl ?_
  intro p e s m args below meth c E hex
  refine j_aload_n E 0 rfl dX11_unsold_0 ?_
  refine j_iload_n E 1 rfl dX11_unsold_1 ?_
  rcases orE_e hf with hq | hf
  · exact j_propV [] E hex (tc_X11_knownLot hl hq) ml_X11_280 mv_X11_knownLot rfl ⟨le_ rfl, le_ rfl⟩ (rcX ok0 cf_X11 ent0) rfl (le_ rfl) ⟨le_ rfl, le_ rfl⟩ dX11_unsold_2 (le_ rfl) (le_ rfl)
  · obtain ⟨r1, h1, hf⟩ := bn1_e hf
    obtain ⟨g1, hf⟩ := gd_e hf
    refine j_invV [] [.ref (z + aX 27 1 r1)] E (c_X11_knownLot h1) ml_X11_280 mv_X11_knownLot rfl ⟨le_ rfl, le_ rfl⟩ (rcX ok0 cf_X11 ent0) rfl rfl (le_ rfl) ⟨le_ rfl, le_ rfl⟩ dX11_unsold_2 ?_
    refine j_getN (f := 3) E (okb27 jl1 g1) cf_X7 fl_X11_288 (lt_ rfl) rfl ent27 rfl dX11_unsold_5 ?_
    exact none_e hf
def t_X11_bottlesOf (X : XT) (v1 : Int32) : Option Nat :=
  orE (t_X11_needVariety X v1) (bn1 (f_X11_needVariety X v1) (fun _ => bn1 (f_X2_stockOf X 1 v1) (fun r1 => none)))
set_option maxRecDepth 20000 in
theorem tc_X11_bottlesOf {l : Launch} (hl : l.stackTraces = false) {D : DD} {z : Nat} {Y : YT} {X : XT} {v1 : Int32} {e0 : Nat} (hf : t_X11_bottlesOf X v1 = some e0) : CT l yX11_bottlesOf cX11_bottlesOf 2 (some .int) (rmk 7 1 6) D z [.ref (z + aX 0 0 0), .int v1] (GG D z (X, Y)) (exN e0) (GG D z (X, Y)) := by
  unfold t_X11_bottlesOf at hf
  refine ct_of pn_X11 (le_ rfl) (ls := [(0, .ref (z + aX 0 0 0)), (1, .int v1)]) rfl ?_
  intro p e s m args below meth c E hex
  refine j_aload_n E 0 rfl dX11_bottlesOf_0 ?_
  refine j_iload_n E 1 rfl dX11_bottlesOf_1 ?_
  rcases orE_e hf with hq | hf
  · exact j_propV [] E hex (tc_X11_needVariety hl hq) ml_X11_159 mv_X11_needVariety rfl ⟨le_ rfl, le_ rfl⟩ (rcX ok0 cf_X11 ent0) rfl (le_ rfl) ⟨le_ rfl, le_ rfl⟩ dX11_bottlesOf_2 (le_ rfl) (le_ rfl)
  · obtain ⟨_, h1, hf⟩ := bn1_e hf
    refine j_invV [] [] E (c_X11_needVariety h1) ml_X11_159 mv_X11_needVariety rfl ⟨le_ rfl, le_ rfl⟩ (rcX ok0 cf_X11 ent0) rfl rfl (le_ rfl) ⟨le_ rfl, le_ rfl⟩ dX11_bottlesOf_2 ?_
    refine j_aload_n E 0 rfl dX11_bottlesOf_5 ?_
    refine j_get (f := 1) E ok0 cf_X11 fl_X11_19 (lt_ rfl) rfl ent0 rfl dX11_bottlesOf_6 ?_
    refine j_getN (f := 3) E (okb10 jl1) cf_X0 fl_X11_143 (lt_ rfl) rfl ent10 rfl dX11_bottlesOf_9 ?_
    refine j_iload_n E 1 rfl dX11_bottlesOf_12 ?_
    obtain ⟨r1, h2, hf⟩ := bn1_e hf
    refine j_invV [] [.int r1] E (c_X2_stockOf jl1 h2) ml_X11_294 mv_X2_stockOf rfl ⟨le_ rfl, le_ rfl⟩ (rcX (okb23 jl1) cf_X2 ent23) rfl rfl (le_ rfl) ⟨le_ rfl, le_ rfl⟩ dX11_bottlesOf_13 ?_
    exact none_e hf
def t_X11_deliver (X : XT) (v1 : Int32) (v2 : Int32) (v3 : Int32) : Option Nat :=
  orE (t_X11_needPlot X v1) (bn1 (f_X11_needPlot X v1) (fun _ => orE (t_X11_needWeight v2) (bn1 (f_X11_needWeight v2) (fun _ => orE (t_X11_needSugar v3) (bn1 (f_X11_needSugar v3) (fun _ => bn1 (f_X0_reasonAgainst X 1 v1 v2 v3) (fun r1 => if r1 = 0 then (bn1 (f_X4_note X 1) (fun X1 => bn2 (f_X0_accept X1 1 v1 v2 v3) (fun r2 X2 => none))) else (some 0))))))))
set_option maxRecDepth 20000 in
theorem tc_X11_deliver {l : Launch} (hl : l.stackTraces = false) {D : DD} {z : Nat} {Y : YT} {X : XT} {v1 : Int32} {v2 : Int32} {v3 : Int32} {e0 : Nat} (hf : t_X11_deliver X v1 v2 v3 = some e0) : CT l yX11_deliver cX11_deliver 4 (some .int) (rmk 7 1 6) D z [.ref (z + aX 0 0 0), .int v1, .int v2, .int v3] (GG D z (X, Y)) (exN e0) (GG D z (X, Y)) := by
  unfold t_X11_deliver at hf
  refine ct_of pn_X11 (le_ rfl) (ls := [(0, .ref (z + aX 0 0 0)), (1, .int v1), (2, .int v2), (3, .int v3)]) rfl ?_
  intro p e s m args below meth c E hex
  refine j_aload_n E 0 rfl dX11_deliver_0 ?_
  refine j_iload_n E 1 rfl dX11_deliver_1 ?_
  rcases orE_e hf with hq | hf
  · exact j_propV [] E hex (tc_X11_needPlot hl hq) ml_X11_208 mv_X11_needPlot rfl ⟨le_ rfl, le_ rfl⟩ (rcX ok0 cf_X11 ent0) rfl (le_ rfl) ⟨le_ rfl, le_ rfl⟩ dX11_deliver_2 (le_ rfl) (le_ rfl)
  · obtain ⟨_, h1, hf⟩ := bn1_e hf
    refine j_invV [] [] E (c_X11_needPlot h1) ml_X11_208 mv_X11_needPlot rfl ⟨le_ rfl, le_ rfl⟩ (rcX ok0 cf_X11 ent0) rfl rfl (le_ rfl) ⟨le_ rfl, le_ rfl⟩ dX11_deliver_2 ?_
    refine j_iload_n E 2 rfl dX11_deliver_5 ?_
    rcases orE_e hf with hq | hf
    · exact j_propS [] E hex (tc_X11_needWeight hl hq) ml_X11_261 ms_X11_needWeight rfl ⟨le_ rfl, le_ rfl⟩ rfl (le_ rfl) ⟨le_ rfl, le_ rfl⟩ dX11_deliver_6 (le_ rfl) (le_ rfl)
    · obtain ⟨_, h2, hf⟩ := bn1_e hf
      refine j_invS [] [] E (c_X11_needWeight h2) ml_X11_261 ms_X11_needWeight rfl ⟨le_ rfl, le_ rfl⟩ rfl rfl (le_ rfl) ⟨le_ rfl, le_ rfl⟩ dX11_deliver_6 ?_
      refine j_iload_n E 3 rfl dX11_deliver_9 ?_
      rcases orE_e hf with hq | hf
      · exact j_propS [] E hex (tc_X11_needSugar hl hq) ml_X11_152 ms_X11_needSugar rfl ⟨le_ rfl, le_ rfl⟩ rfl (le_ rfl) ⟨le_ rfl, le_ rfl⟩ dX11_deliver_10 (le_ rfl) (le_ rfl)
      · obtain ⟨_, h3, hf⟩ := bn1_e hf
        refine j_invS [] [] E (c_X11_needSugar h3) ml_X11_152 ms_X11_needSugar rfl ⟨le_ rfl, le_ rfl⟩ rfl rfl (le_ rfl) ⟨le_ rfl, le_ rfl⟩ dX11_deliver_10 ?_
        refine j_aload_n E 0 rfl dX11_deliver_13 ?_
        refine j_get (f := 1) E ok0 cf_X11 fl_X11_19 (lt_ rfl) rfl ent0 rfl dX11_deliver_14 ?_
        refine j_iload_n E 1 rfl dX11_deliver_17 ?_
        refine j_iload_n E 2 rfl dX11_deliver_18 ?_
        refine j_iload_n E 3 rfl dX11_deliver_19 ?_
        obtain ⟨r1, h4, hf⟩ := bn1_e hf
        refine j_invV [] [.int r1] E (c_X0_reasonAgainst jl1 h4) ml_X11_270 mv_X0_reasonAgainst rfl ⟨le_ rfl, le_ rfl⟩ (rcX (okb10 jl1) cf_X0 ent10) rfl rfl (le_ rfl) ⟨le_ rfl, le_ rfl⟩ dX11_deliver_20 ?_
        refine j_if_eq E 37 (by decide) dX11_deliver_23 (fun c1 => ?_) (fun c1 => ?_)
        · rw [if_pos c1] at hf
          refine j_aload_n E 0 rfl dX11_deliver_37 ?_
          refine j_get (f := 2) E ok0 cf_X11 fl_X11_26 (lt_ rfl) rfl ent0 rfl dX11_deliver_38 ?_
          refine j_aload_n E 0 rfl dX11_deliver_41 ?_
          refine j_get (f := 1) E ok0 cf_X11 fl_X11_19 (lt_ rfl) rfl ent0 rfl dX11_deliver_42 ?_
          obtain ⟨X1, h5, hf⟩ := bn1_e hf
          refine j_invV [] [] E (c_X4_note jl1 h5) ml_X11_101 mv_X4_note rfl ⟨le_ rfl, le_ rfl⟩ (rcX ok4 cf_X4 ent4) rfl rfl (le_ rfl) ⟨le_ rfl, le_ rfl⟩ dX11_deliver_45 ?_
          refine j_aload_n E 0 rfl dX11_deliver_48 ?_
          refine j_get (f := 1) E ok0 cf_X11 fl_X11_19 (lt_ rfl) rfl ent0 rfl dX11_deliver_49 ?_
          refine j_iload_n E 1 rfl dX11_deliver_52 ?_
          refine j_iload_n E 2 rfl dX11_deliver_53 ?_
          refine j_iload_n E 3 rfl dX11_deliver_54 ?_
          obtain ⟨r2, X2, h6, hf⟩ := bn2_e hf
          refine j_invV [] [.int r2] E (c_X0_accept jl1 h6) ml_X11_337 mv_X0_accept rfl ⟨le_ rfl, le_ rfl⟩ (rcX (okb10 jl1) cf_X0 ent10) rfl rfl (le_ rfl) ⟨le_ rfl, le_ rfl⟩ dX11_deliver_55 ?_
          exact none_e hf
        · rw [if_neg c1] at hf
          cases hf
          exact j_throwW (ex := "java/lang/IllegalStateException") E hl hex tw_0 sl_X11_335 gg_grow dX11_deliver_26 dX11_deliver_29 dX11_deliver_30 dX11_deliver_33 dX11_deliver_36 (lt_ rfl) (le_ rfl) (le_ rfl) (le_ rfl) (le_ rfl) (le_ rfl)
def t_X11_setPrice (X : XT) (v1 : Int32) (v2 : Int32) (v3 : Int32) : Option Nat :=
  orE (t_X11_needVariety X v1) (bn1 (f_X11_needVariety X v1) (fun _ => orE (t_X11_needClass X v2) (bn1 (f_X11_needClass X v2) (fun _ => if v3 < 0 then (some 1) else (if v3 ≤ 999 then (bn1 (f_X4_note X 1) (fun X1 => bn1 (f_X1_centsFor X1 1 v1 v2) (fun r1 => bn1 (f_X1_putPrice X1 1 v1 v2 v3) (fun X2 => none)))) else (some 1))))))
set_option maxRecDepth 20000 in
theorem tc_X11_setPrice {l : Launch} (hl : l.stackTraces = false) {D : DD} {z : Nat} {Y : YT} {X : XT} {v1 : Int32} {v2 : Int32} {v3 : Int32} {e0 : Nat} (hf : t_X11_setPrice X v1 v2 v3 = some e0) : CT l yX11_setPrice cX11_setPrice 5 (some .int) (rmk 7 1 6) D z [.ref (z + aX 0 0 0), .int v1, .int v2, .int v3] (GG D z (X, Y)) (exN e0) (GG D z (X, Y)) := by
  unfold t_X11_setPrice at hf
  refine ct_of pn_X11 (le_ rfl) (ls := [(0, .ref (z + aX 0 0 0)), (1, .int v1), (2, .int v2), (3, .int v3)]) rfl ?_
  intro p e s m args below meth c E hex
  refine j_aload_n E 0 rfl dX11_setPrice_0 ?_
  refine j_iload_n E 1 rfl dX11_setPrice_1 ?_
  rcases orE_e hf with hq | hf
  · exact j_propV [] E hex (tc_X11_needVariety hl hq) ml_X11_159 mv_X11_needVariety rfl ⟨le_ rfl, le_ rfl⟩ (rcX ok0 cf_X11 ent0) rfl (le_ rfl) ⟨le_ rfl, le_ rfl⟩ dX11_setPrice_2 (le_ rfl) (le_ rfl)
  · obtain ⟨_, h1, hf⟩ := bn1_e hf
    refine j_invV [] [] E (c_X11_needVariety h1) ml_X11_159 mv_X11_needVariety rfl ⟨le_ rfl, le_ rfl⟩ (rcX ok0 cf_X11 ent0) rfl rfl (le_ rfl) ⟨le_ rfl, le_ rfl⟩ dX11_setPrice_2 ?_
    refine j_aload_n E 0 rfl dX11_setPrice_5 ?_
    refine j_iload_n E 2 rfl dX11_setPrice_6 ?_
    rcases orE_e hf with hq | hf
    · exact j_propV [] E hex (tc_X11_needClass hl hq) ml_X11_162 mv_X11_needClass rfl ⟨le_ rfl, le_ rfl⟩ (rcX ok0 cf_X11 ent0) rfl (le_ rfl) ⟨le_ rfl, le_ rfl⟩ dX11_setPrice_7 (le_ rfl) (le_ rfl)
    · obtain ⟨_, h2, hf⟩ := bn1_e hf
      refine j_invV [] [] E (c_X11_needClass h2) ml_X11_162 mv_X11_needClass rfl ⟨le_ rfl, le_ rfl⟩ (rcX ok0 cf_X11 ent0) rfl rfl (le_ rfl) ⟨le_ rfl, le_ rfl⟩ dX11_setPrice_7 ?_
      refine j_iload_n E 3 rfl dX11_setPrice_10 ?_
      refine j_if_lt E 21 (by decide) dX11_setPrice_11 (fun c1 => ?_) (fun c1 => ?_)
      · rw [if_pos c1] at hf
        cases hf
        exact j_throwW (ex := "java/lang/IllegalArgumentException") E hl hex tw_1 sl_X11_340 gg_grow dX11_setPrice_21 dX11_setPrice_24 dX11_setPrice_25 dX11_setPrice_28 dX11_setPrice_31 (lt_ rfl) (le_ rfl) (le_ rfl) (le_ rfl) (le_ rfl) (le_ rfl)
      · rw [if_neg c1] at hf
        refine j_iload_n E 3 rfl dX11_setPrice_14 ?_
        refine j_sipush E 999 sp_999 dX11_setPrice_15 ?_
        refine j_icmp_le E 32 (by decide) dX11_setPrice_18 (fun c2 => ?_) (fun c2 => ?_)
        · rw [if_pos c2] at hf
          refine j_aload_n E 0 rfl dX11_setPrice_32 ?_
          refine j_get (f := 2) E ok0 cf_X11 fl_X11_26 (lt_ rfl) rfl ent0 rfl dX11_setPrice_33 ?_
          refine j_aload_n E 0 rfl dX11_setPrice_36 ?_
          refine j_get (f := 1) E ok0 cf_X11 fl_X11_19 (lt_ rfl) rfl ent0 rfl dX11_setPrice_37 ?_
          obtain ⟨X1, h3, hf⟩ := bn1_e hf
          refine j_invV [] [] E (c_X4_note jl1 h3) ml_X11_101 mv_X4_note rfl ⟨le_ rfl, le_ rfl⟩ (rcX ok4 cf_X4 ent4) rfl rfl (le_ rfl) ⟨le_ rfl, le_ rfl⟩ dX11_setPrice_40 ?_
          refine j_aload_n E 0 rfl dX11_setPrice_43 ?_
          refine j_get (f := 1) E ok0 cf_X11 fl_X11_19 (lt_ rfl) rfl ent0 rfl dX11_setPrice_44 ?_
          refine j_getN (f := 0) E (okb10 jl1) cf_X0 fl_X11_119 (lt_ rfl) rfl ent10 rfl dX11_setPrice_47 ?_
          refine j_iload_n E 1 rfl dX11_setPrice_50 ?_
          refine j_iload_n E 2 rfl dX11_setPrice_51 ?_
          obtain ⟨r1, h4, hf⟩ := bn1_e hf
          refine j_invV [] [.int r1] E (c_X1_centsFor jl1 h4) ml_X11_165 mv_X1_centsFor rfl ⟨le_ rfl, le_ rfl⟩ (rcX (okb11 jl1) cf_X1 ent11) rfl rfl (le_ rfl) ⟨le_ rfl, le_ rfl⟩ dX11_setPrice_52 ?_
          refine j_istore (ls' := [(4, .int r1), (0, .ref (z + aX 0 0 0)), (1, .int v1), (2, .int v2), (3, .int v3)]) E (lt_ rfl) rfl dX11_setPrice_55 ?_
          refine j_aload_n E 1 rfl dX11_setPrice_57 ?_
          refine j_get (f := 1) E ok0 cf_X11 fl_X11_19 (lt_ rfl) rfl ent0 rfl dX11_setPrice_58 ?_
          refine j_getN (f := 0) E (okb10 jl1) cf_X0 fl_X11_119 (lt_ rfl) rfl ent10 rfl dX11_setPrice_61 ?_
          refine j_iload_n E 2 rfl dX11_setPrice_64 ?_
          refine j_iload_n E 3 rfl dX11_setPrice_65 ?_
          refine j_iload_n E 4 rfl dX11_setPrice_66 ?_
          obtain ⟨X2, h5, hf⟩ := bn1_e hf
          refine j_invV [] [] E (c_X1_putPrice jl1 h5) ml_X11_342 mv_X1_putPrice rfl ⟨le_ rfl, le_ rfl⟩ (rcX (okb11 jl1) cf_X1 ent11) rfl rfl (le_ rfl) ⟨le_ rfl, le_ rfl⟩ dX11_setPrice_67 ?_
          refine j_iload E 0 rfl dX11_setPrice_70 ?_
          exact none_e hf
        · rw [if_neg c2] at hf
          cases hf
          exact j_throwW (ex := "java/lang/IllegalArgumentException") E hl hex tw_1 sl_X11_340 gg_grow dX11_setPrice_21 dX11_setPrice_24 dX11_setPrice_25 dX11_setPrice_28 dX11_setPrice_31 (lt_ rfl) (le_ rfl) (le_ rfl) (le_ rfl) (le_ rfl) (le_ rfl)
def t_X11_needBottles (v0 : Int32) : Option Nat :=
  if v0 < 1 then (some 1) else (if v0 ≤ 20000 then (none) else (some 1))
set_option maxRecDepth 20000 in
theorem tc_X11_needBottles {l : Launch} (hl : l.stackTraces = false) {D : DD} {z : Nat} {S0 : WS} {v0 : Int32} {e0 : Nat} (hf : t_X11_needBottles v0 = some e0) : CT l yX11_needBottles cX11_needBottles 1 none (rmk 6 1 6) D z [.int v0] (GG D z S0) (exN e0) (GG D z S0) := by
  unfold t_X11_needBottles at hf
  refine ct_of pn_X11 (le_ rfl) (ls := [(0, .int v0)]) rfl ?_
  intro p e s m args below meth c E hex
  refine j_iload_n E 0 rfl dX11_needBottles_0 ?_
  refine j_iconst E 1 ic_1 dX11_needBottles_1 ?_
  refine j_icmp_lt E 12 (by decide) dX11_needBottles_2 (fun c1 => ?_) (fun c1 => ?_)
  · rw [if_pos c1] at hf
    cases hf
    exact j_throwW (ex := "java/lang/IllegalArgumentException") E hl hex tw_1 sl_X11_479 gg_grow dX11_needBottles_12 dX11_needBottles_15 dX11_needBottles_16 dX11_needBottles_19 dX11_needBottles_22 (lt_ rfl) (le_ rfl) (le_ rfl) (le_ rfl) (le_ rfl) (le_ rfl)
  · rw [if_neg c1] at hf
    refine j_iload_n E 0 rfl dX11_needBottles_5 ?_
    refine j_sipush E 20000 sp_20000 dX11_needBottles_6 ?_
    refine j_icmp_le E 23 (by decide) dX11_needBottles_9 (fun c2 => ?_) (fun c2 => ?_)
    · rw [if_pos c2] at hf
      exact none_e hf
    · rw [if_neg c2] at hf
      cases hf
      exact j_throwW (ex := "java/lang/IllegalArgumentException") E hl hex tw_1 sl_X11_479 gg_grow dX11_needBottles_12 dX11_needBottles_15 dX11_needBottles_16 dX11_needBottles_19 dX11_needBottles_22 (lt_ rfl) (le_ rfl) (le_ rfl) (le_ rfl) (le_ rfl) (le_ rfl)
def t_X11_bottle (X : XT) (v1 : Int32) (v2 : Int32) : Option Nat :=
  orE (t_X11_knownTank X v1) (bn1 (f_X11_knownTank X v1) (fun r1 => gd (r1 < 5) (orE (t_X11_needBottles v2) (bn1 (f_X11_needBottles v2) (fun _ => bn1 (f_X2_canFillLot X 1 1 r1 v2) (fun r2 => if r2 = 0 then (some 0) else (bn1 (f_X4_note X 1) (fun X1 => bn2 (f_X2_fillLot X1 1 1 r1 v2) (fun r3 X2 => none)))))))))
set_option maxRecDepth 20000 in
theorem tc_X11_bottle {l : Launch} (hl : l.stackTraces = false) {D : DD} {z : Nat} {Y : YT} {X : XT} {v1 : Int32} {v2 : Int32} {e0 : Nat} (hf : t_X11_bottle X v1 v2 = some e0) : CT l yX11_bottle cX11_bottle 4 (some .int) (rmk 7 1 6) D z [.ref (z + aX 0 0 0), .int v1, .int v2] (GG D z (X, Y)) (exN e0) (GG D z (X, Y)) := by
  unfold t_X11_bottle at hf
  refine ct_of pn_X11 (le_ rfl) (ls := [(0, .ref (z + aX 0 0 0)), (1, .int v1), (2, .int v2)]) rfl ?_
  intro p e s m args below meth c E hex
  refine j_aload_n E 0 rfl dX11_bottle_0 ?_
  refine j_iload_n E 1 rfl dX11_bottle_1 ?_
  rcases orE_e hf with hq | hf
  · exact j_propV [] E hex (tc_X11_knownTank hl hq) ml_X11_246 mv_X11_knownTank rfl ⟨le_ rfl, le_ rfl⟩ (rcX ok0 cf_X11 ent0) rfl (le_ rfl) ⟨le_ rfl, le_ rfl⟩ dX11_bottle_2 (le_ rfl) (le_ rfl)
  · obtain ⟨r1, h1, hf⟩ := bn1_e hf
    obtain ⟨g1, hf⟩ := gd_e hf
    refine j_invV [] [.ref (z + aX 26 1 r1)] E (c_X11_knownTank h1) ml_X11_246 mv_X11_knownTank rfl ⟨le_ rfl, le_ rfl⟩ (rcX ok0 cf_X11 ent0) rfl rfl (le_ rfl) ⟨le_ rfl, le_ rfl⟩ dX11_bottle_2 ?_
    refine j_astore_n (ls' := [(3, .ref (z + aX 26 1 r1)), (0, .ref (z + aX 0 0 0)), (1, .int v1), (2, .int v2)]) E (lt_ rfl) rfl dX11_bottle_5 ?_
    refine j_iload_n E 3 rfl dX11_bottle_6 ?_
    rcases orE_e hf with hq | hf
    · exact j_propS [] E hex (tc_X11_needBottles hl hq) ml_X11_346 ms_X11_needBottles rfl ⟨le_ rfl, le_ rfl⟩ rfl (le_ rfl) ⟨le_ rfl, le_ rfl⟩ dX11_bottle_7 (le_ rfl) (le_ rfl)
    · obtain ⟨_, h2, hf⟩ := bn1_e hf
      refine j_invS [] [] E (c_X11_needBottles h2) ml_X11_346 ms_X11_needBottles rfl ⟨le_ rfl, le_ rfl⟩ rfl rfl (le_ rfl) ⟨le_ rfl, le_ rfl⟩ dX11_bottle_7 ?_
      refine j_aload_n E 1 rfl dX11_bottle_10 ?_
      refine j_get (f := 1) E ok0 cf_X11 fl_X11_19 (lt_ rfl) rfl ent0 rfl dX11_bottle_11 ?_
      refine j_getN (f := 3) E (okb10 jl1) cf_X0 fl_X11_143 (lt_ rfl) rfl ent10 rfl dX11_bottle_14 ?_
      refine j_aload_n E 0 rfl dX11_bottle_17 ?_
      refine j_iload_n E 3 rfl dX11_bottle_18 ?_
      obtain ⟨r2, h3, hf⟩ := bn1_e hf
      refine j_invV [] [.int r2] E (c_X2_canFillLot jl1 jl1 g1 h3) ml_X11_349 mv_X2_canFillLot rfl ⟨le_ rfl, le_ rfl⟩ (rcX (okb23 jl1) cf_X2 ent23) rfl rfl (le_ rfl) ⟨le_ rfl, le_ rfl⟩ dX11_bottle_19 ?_
      refine j_if_ne E 36 (by decide) dX11_bottle_22 (fun c1 => ?_) (fun c1 => ?_)
      · rw [if_neg c1] at hf
        refine j_aload_n E 1 rfl dX11_bottle_36 ?_
        refine j_get (f := 2) E ok0 cf_X11 fl_X11_26 (lt_ rfl) rfl ent0 rfl dX11_bottle_37 ?_
        refine j_aload_n E 1 rfl dX11_bottle_40 ?_
        refine j_get (f := 1) E ok0 cf_X11 fl_X11_19 (lt_ rfl) rfl ent0 rfl dX11_bottle_41 ?_
        obtain ⟨X1, h4, hf⟩ := bn1_e hf
        refine j_invV [] [] E (c_X4_note jl1 h4) ml_X11_101 mv_X4_note rfl ⟨le_ rfl, le_ rfl⟩ (rcX ok4 cf_X4 ent4) rfl rfl (le_ rfl) ⟨le_ rfl, le_ rfl⟩ dX11_bottle_44 ?_
        refine j_aload_n E 1 rfl dX11_bottle_47 ?_
        refine j_get (f := 1) E ok0 cf_X11 fl_X11_19 (lt_ rfl) rfl ent0 rfl dX11_bottle_48 ?_
        refine j_getN (f := 3) E (okb10 jl1) cf_X0 fl_X11_143 (lt_ rfl) rfl ent10 rfl dX11_bottle_51 ?_
        refine j_aload_n E 0 rfl dX11_bottle_54 ?_
        refine j_iload_n E 3 rfl dX11_bottle_55 ?_
        obtain ⟨r3, X2, h5, hf⟩ := bn2_e hf
        refine j_invV [] [.int r3] E (c_X2_fillLot jl1 jl1 g1 h5) ml_X11_355 mv_X2_fillLot rfl ⟨le_ rfl, le_ rfl⟩ (rcX (okb23 jl1) cf_X2 ent23) rfl rfl (le_ rfl) ⟨le_ rfl, le_ rfl⟩ dX11_bottle_56 ?_
        exact none_e hf
      · rw [if_pos c1] at hf
        cases hf
        exact j_throwW (ex := "java/lang/IllegalStateException") E hl hex tw_0 sl_X11_353 gg_grow dX11_bottle_25 dX11_bottle_28 dX11_bottle_29 dX11_bottle_32 dX11_bottle_35 (lt_ rfl) (le_ rfl) (le_ rfl) (le_ rfl) (le_ rfl) (le_ rfl)
def t_X11_sell (X : XT) (v1 : Int32) (v2 : Int32) (v3 : Int32) : Option Nat :=
  orE (t_X11_knownLot X v1) (bn1 (f_X11_knownLot X v1) (fun r1 => gd (r1 < 12) (orE (t_X11_needBottles v2) (bn1 (f_X11_needBottles v2) (fun _ => if v3 < 1 then (some 1) else (if v3 ≤ 9999 then (bn1 (f_X0_canTrade X 1 1 r1 v2 v3) (fun r2 => if r2 = 0 then (some 0) else (bn1 (f_X4_note X 1) (fun X1 => bn1 (f_X0_trade X1 1 1 r1 v2 v3) (fun X2 => none))))) else (some 1)))))))
set_option maxRecDepth 20000 in
theorem tc_X11_sell {l : Launch} (hl : l.stackTraces = false) {D : DD} {z : Nat} {Y : YT} {X : XT} {v1 : Int32} {v2 : Int32} {v3 : Int32} {e0 : Nat} (hf : t_X11_sell X v1 v2 v3 = some e0) : CT l yX11_sell cX11_sell 5 (some .int) (rmk 7 1 6) D z [.ref (z + aX 0 0 0), .int v1, .int v2, .int v3] (GG D z (X, Y)) (exN e0) (GG D z (X, Y)) := by
  unfold t_X11_sell at hf
  refine ct_of pn_X11 (le_ rfl) (ls := [(0, .ref (z + aX 0 0 0)), (1, .int v1), (2, .int v2), (3, .int v3)]) rfl ?_
  intro p e s m args below meth c E hex
  refine j_aload_n E 0 rfl dX11_sell_0 ?_
  refine j_iload_n E 1 rfl dX11_sell_1 ?_
  rcases orE_e hf with hq | hf
  · exact j_propV [] E hex (tc_X11_knownLot hl hq) ml_X11_280 mv_X11_knownLot rfl ⟨le_ rfl, le_ rfl⟩ (rcX ok0 cf_X11 ent0) rfl (le_ rfl) ⟨le_ rfl, le_ rfl⟩ dX11_sell_2 (le_ rfl) (le_ rfl)
  · obtain ⟨r1, h1, hf⟩ := bn1_e hf
    obtain ⟨g1, hf⟩ := gd_e hf
    refine j_invV [] [.ref (z + aX 27 1 r1)] E (c_X11_knownLot h1) ml_X11_280 mv_X11_knownLot rfl ⟨le_ rfl, le_ rfl⟩ (rcX ok0 cf_X11 ent0) rfl rfl (le_ rfl) ⟨le_ rfl, le_ rfl⟩ dX11_sell_2 ?_
    refine j_astore (ls' := [(4, .ref (z + aX 27 1 r1)), (0, .ref (z + aX 0 0 0)), (1, .int v1), (2, .int v2), (3, .int v3)]) E (lt_ rfl) rfl dX11_sell_5 ?_
    refine j_iload_n E 3 rfl dX11_sell_7 ?_
    rcases orE_e hf with hq | hf
    · exact j_propS [] E hex (tc_X11_needBottles hl hq) ml_X11_346 ms_X11_needBottles rfl ⟨le_ rfl, le_ rfl⟩ rfl (le_ rfl) ⟨le_ rfl, le_ rfl⟩ dX11_sell_8 (le_ rfl) (le_ rfl)
    · obtain ⟨_, h2, hf⟩ := bn1_e hf
      refine j_invS [] [] E (c_X11_needBottles h2) ml_X11_346 ms_X11_needBottles rfl ⟨le_ rfl, le_ rfl⟩ rfl rfl (le_ rfl) ⟨le_ rfl, le_ rfl⟩ dX11_sell_8 ?_
      refine j_iload_n E 4 rfl dX11_sell_11 ?_
      refine j_iconst E 1 ic_1 dX11_sell_12 ?_
      refine j_icmp_lt E 23 (by decide) dX11_sell_13 (fun c1 => ?_) (fun c1 => ?_)
      · rw [if_pos c1] at hf
        cases hf
        exact j_throwW (ex := "java/lang/IllegalArgumentException") E hl hex tw_1 sl_X11_359 gg_grow dX11_sell_23 dX11_sell_26 dX11_sell_27 dX11_sell_30 dX11_sell_33 (lt_ rfl) (le_ rfl) (le_ rfl) (le_ rfl) (le_ rfl) (le_ rfl)
      · rw [if_neg c1] at hf
        refine j_iload_n E 4 rfl dX11_sell_16 ?_
        refine j_sipush E 9999 sp_9999 dX11_sell_17 ?_
        refine j_icmp_le E 34 (by decide) dX11_sell_20 (fun c2 => ?_) (fun c2 => ?_)
        · rw [if_pos c2] at hf
          refine j_aload_n E 1 rfl dX11_sell_34 ?_
          refine j_get (f := 1) E ok0 cf_X11 fl_X11_19 (lt_ rfl) rfl ent0 rfl dX11_sell_35 ?_
          refine j_aload E 0 rfl dX11_sell_38 ?_
          refine j_iload_n E 3 rfl dX11_sell_40 ?_
          refine j_iload_n E 4 rfl dX11_sell_41 ?_
          obtain ⟨r2, h3, hf⟩ := bn1_e hf
          refine j_invV [] [.int r2] E (c_X0_canTrade jl1 jl1 g1 h3) ml_X11_361 mv_X0_canTrade rfl ⟨le_ rfl, le_ rfl⟩ (rcX (okb10 jl1) cf_X0 ent10) rfl rfl (le_ rfl) ⟨le_ rfl, le_ rfl⟩ dX11_sell_42 ?_
          refine j_if_ne E 59 (by decide) dX11_sell_45 (fun c3 => ?_) (fun c3 => ?_)
          · rw [if_neg c3] at hf
            refine j_aload_n E 1 rfl dX11_sell_59 ?_
            refine j_get (f := 2) E ok0 cf_X11 fl_X11_26 (lt_ rfl) rfl ent0 rfl dX11_sell_60 ?_
            refine j_aload_n E 1 rfl dX11_sell_63 ?_
            refine j_get (f := 1) E ok0 cf_X11 fl_X11_19 (lt_ rfl) rfl ent0 rfl dX11_sell_64 ?_
            obtain ⟨X1, h4, hf⟩ := bn1_e hf
            refine j_invV [] [] E (c_X4_note jl1 h4) ml_X11_101 mv_X4_note rfl ⟨le_ rfl, le_ rfl⟩ (rcX ok4 cf_X4 ent4) rfl rfl (le_ rfl) ⟨le_ rfl, le_ rfl⟩ dX11_sell_67 ?_
            refine j_aload_n E 1 rfl dX11_sell_70 ?_
            refine j_get (f := 1) E ok0 cf_X11 fl_X11_19 (lt_ rfl) rfl ent0 rfl dX11_sell_71 ?_
            refine j_aload E 0 rfl dX11_sell_74 ?_
            refine j_iload_n E 3 rfl dX11_sell_76 ?_
            refine j_iload_n E 4 rfl dX11_sell_77 ?_
            obtain ⟨X2, h5, hf⟩ := bn1_e hf
            refine j_invV [] [] E (c_X0_trade jl1 jl1 g1 h5) ml_X11_367 mv_X0_trade rfl ⟨le_ rfl, le_ rfl⟩ (rcX (okb10 jl1) cf_X0 ent10) rfl rfl (le_ rfl) ⟨le_ rfl, le_ rfl⟩ dX11_sell_78 ?_
            refine j_aload_n E 1 rfl dX11_sell_81 ?_
            refine j_get (f := 1) E ok0 cf_X11 fl_X11_19 (lt_ rfl) rfl ent0 rfl dX11_sell_82 ?_
            refine j_getN (f := 6) E (okb10 jl1) cf_X0 fl_X11_300 (lt_ rfl) rfl ent10 rfl dX11_sell_85 ?_
            exact none_e hf
          · rw [if_pos c3] at hf
            cases hf
            exact j_throwW (ex := "java/lang/IllegalStateException") E hl hex tw_0 sl_X11_365 gg_grow dX11_sell_48 dX11_sell_51 dX11_sell_52 dX11_sell_55 dX11_sell_58 (lt_ rfl) (le_ rfl) (le_ rfl) (le_ rfl) (le_ rfl) (le_ rfl)
        · rw [if_neg c2] at hf
          cases hf
          exact j_throwW (ex := "java/lang/IllegalArgumentException") E hl hex tw_1 sl_X11_359 gg_grow dX11_sell_23 dX11_sell_26 dX11_sell_27 dX11_sell_30 dX11_sell_33 (lt_ rfl) (le_ rfl) (le_ rfl) (le_ rfl) (le_ rfl) (le_ rfl)
def t_X11_payLoad (X : XT) (v1 : Int32) : Option Nat :=
  orE (t_X11_knownLoad X v1) (bn1 (f_X11_knownLoad X v1) (fun r1 => gd (r1 < 20) (bn1 (f_X0_centsOf X 1 1 r1) (fun r2 => if (X 22 1 r1 7) = 0 then (if r2 ≤ (X 10 1 0 6) then (bn1 (f_X4_note X 1) (fun X1 => bn2 (f_X0_settle X1 1 1 r1 r2) (fun r3 X2 => none))) else (some 0)) else (some 0)))))
set_option maxRecDepth 20000 in
theorem tc_X11_payLoad {l : Launch} (hl : l.stackTraces = false) {D : DD} {z : Nat} {Y : YT} {X : XT} {v1 : Int32} {e0 : Nat} (hf : t_X11_payLoad X v1 = some e0) : CT l yX11_payLoad cX11_payLoad 4 (some .int) (rmk 7 1 6) D z [.ref (z + aX 0 0 0), .int v1] (GG D z (X, Y)) (exN e0) (GG D z (X, Y)) := by
  unfold t_X11_payLoad at hf
  refine ct_of pn_X11 (le_ rfl) (ls := [(0, .ref (z + aX 0 0 0)), (1, .int v1)]) rfl ?_
  intro p e s m args below meth c E hex
  refine j_aload_n E 0 rfl dX11_payLoad_0 ?_
  refine j_iload_n E 1 rfl dX11_payLoad_1 ?_
  rcases orE_e hf with hq | hf
  · exact j_propV [] E hex (tc_X11_knownLoad hl hq) ml_X11_220 mv_X11_knownLoad rfl ⟨le_ rfl, le_ rfl⟩ (rcX ok0 cf_X11 ent0) rfl (le_ rfl) ⟨le_ rfl, le_ rfl⟩ dX11_payLoad_2 (le_ rfl) (le_ rfl)
  · obtain ⟨r1, h1, hf⟩ := bn1_e hf
    obtain ⟨g1, hf⟩ := gd_e hf
    refine j_invV [] [.ref (z + aX 22 1 r1)] E (c_X11_knownLoad h1) ml_X11_220 mv_X11_knownLoad rfl ⟨le_ rfl, le_ rfl⟩ (rcX ok0 cf_X11 ent0) rfl rfl (le_ rfl) ⟨le_ rfl, le_ rfl⟩ dX11_payLoad_2 ?_
    refine j_astore_n (ls' := [(2, .ref (z + aX 22 1 r1)), (0, .ref (z + aX 0 0 0)), (1, .int v1)]) E (lt_ rfl) rfl dX11_payLoad_5 ?_
    refine j_aload_n E 1 rfl dX11_payLoad_6 ?_
    refine j_get (f := 1) E ok0 cf_X11 fl_X11_19 (lt_ rfl) rfl ent0 rfl dX11_payLoad_7 ?_
    refine j_aload_n E 0 rfl dX11_payLoad_10 ?_
    obtain ⟨r2, h2, hf⟩ := bn1_e hf
    refine j_invV [] [.int r2] E (c_X0_centsOf jl1 jl1 g1 h2) ml_X11_235 mv_X0_centsOf rfl ⟨le_ rfl, le_ rfl⟩ (rcX (okb10 jl1) cf_X0 ent10) rfl rfl (le_ rfl) ⟨le_ rfl, le_ rfl⟩ dX11_payLoad_11 ?_
    refine j_istore_n (ls' := [(3, .int r2), (2, .ref (z + aX 22 1 r1)), (0, .ref (z + aX 0 0 0)), (1, .int v1)]) E (lt_ rfl) rfl dX11_payLoad_14 ?_
    refine j_aload_n E 1 rfl dX11_payLoad_15 ?_
    refine j_getN (f := 7) E (okb22 jl1 g1) cf_X6 fl_X11_239 (lt_ rfl) rfl ent22 rfl dX11_payLoad_16 ?_
    refine j_if_ne E 33 (by decide) dX11_payLoad_19 (fun c1 => ?_) (fun c1 => ?_)
    · rw [if_neg c1] at hf
      cases hf
      exact j_throwW (ex := "java/lang/IllegalStateException") E hl hex tw_0 sl_X11_371 gg_grow dX11_payLoad_33 dX11_payLoad_36 dX11_payLoad_37 dX11_payLoad_40 dX11_payLoad_43 (lt_ rfl) (le_ rfl) (le_ rfl) (le_ rfl) (le_ rfl) (le_ rfl)
    · rw [if_pos c1] at hf
      refine j_iload_n E 0 rfl dX11_payLoad_22 ?_
      refine j_aload_n E 2 rfl dX11_payLoad_23 ?_
      refine j_get (f := 1) E ok0 cf_X11 fl_X11_19 (lt_ rfl) rfl ent0 rfl dX11_payLoad_24 ?_
      refine j_getN (f := 6) E (okb10 jl1) cf_X0 fl_X11_300 (lt_ rfl) rfl ent10 rfl dX11_payLoad_27 ?_
      refine j_icmp_le E 44 (by decide) dX11_payLoad_30 (fun c2 => ?_) (fun c2 => ?_)
      · rw [if_pos c2] at hf
        refine j_aload_n E 2 rfl dX11_payLoad_44 ?_
        refine j_get (f := 2) E ok0 cf_X11 fl_X11_26 (lt_ rfl) rfl ent0 rfl dX11_payLoad_45 ?_
        refine j_aload_n E 2 rfl dX11_payLoad_48 ?_
        refine j_get (f := 1) E ok0 cf_X11 fl_X11_19 (lt_ rfl) rfl ent0 rfl dX11_payLoad_49 ?_
        obtain ⟨X1, h3, hf⟩ := bn1_e hf
        refine j_invV [] [] E (c_X4_note jl1 h3) ml_X11_101 mv_X4_note rfl ⟨le_ rfl, le_ rfl⟩ (rcX ok4 cf_X4 ent4) rfl rfl (le_ rfl) ⟨le_ rfl, le_ rfl⟩ dX11_payLoad_52 ?_
        refine j_aload_n E 2 rfl dX11_payLoad_55 ?_
        refine j_get (f := 1) E ok0 cf_X11 fl_X11_19 (lt_ rfl) rfl ent0 rfl dX11_payLoad_56 ?_
        refine j_aload_n E 1 rfl dX11_payLoad_59 ?_
        refine j_iload_n E 0 rfl dX11_payLoad_60 ?_
        obtain ⟨r3, X2, h4, hf⟩ := bn2_e hf
        refine j_invV [] [.int r3] E (c_X0_settle jl1 jl1 g1 h4) ml_X11_373 mv_X0_settle rfl ⟨le_ rfl, le_ rfl⟩ (rcX (okb10 jl1) cf_X0 ent10) rfl rfl (le_ rfl) ⟨le_ rfl, le_ rfl⟩ dX11_payLoad_61 ?_
        exact none_e hf
      · rw [if_neg c2] at hf
        cases hf
        exact j_throwW (ex := "java/lang/IllegalStateException") E hl hex tw_0 sl_X11_371 gg_grow dX11_payLoad_33 dX11_payLoad_36 dX11_payLoad_37 dX11_payLoad_40 dX11_payLoad_43 (lt_ rfl) (le_ rfl) (le_ rfl) (le_ rfl) (le_ rfl) (le_ rfl)
def t_X11_payGrower (X : XT) (v1 : Int32) : Option Nat :=
  orE (t_X11_needGrower X v1) (bn1 (f_X11_needGrower X v1) (fun _ => bn1 (f_X0_canSettleAll X 1 v1) (fun r1 => if r1 = 0 then (some 0) else (bn1 (f_X4_note X 1) (fun X1 => bn2 (f_X0_settleAll X1 1 v1) (fun r2 X2 => none))))))
set_option maxRecDepth 20000 in
theorem tc_X11_payGrower {l : Launch} (hl : l.stackTraces = false) {D : DD} {z : Nat} {Y : YT} {X : XT} {v1 : Int32} {e0 : Nat} (hf : t_X11_payGrower X v1 = some e0) : CT l yX11_payGrower cX11_payGrower 2 (some .int) (rmk 7 1 6) D z [.ref (z + aX 0 0 0), .int v1] (GG D z (X, Y)) (exN e0) (GG D z (X, Y)) := by
  unfold t_X11_payGrower at hf
  refine ct_of pn_X11 (le_ rfl) (ls := [(0, .ref (z + aX 0 0 0)), (1, .int v1)]) rfl ?_
  intro p e s m args below meth c E hex
  refine j_aload_n E 0 rfl dX11_payGrower_0 ?_
  refine j_iload_n E 1 rfl dX11_payGrower_1 ?_
  rcases orE_e hf with hq | hf
  · exact j_propV [] E hex (tc_X11_needGrower hl hq) ml_X11_187 mv_X11_needGrower rfl ⟨le_ rfl, le_ rfl⟩ (rcX ok0 cf_X11 ent0) rfl (le_ rfl) ⟨le_ rfl, le_ rfl⟩ dX11_payGrower_2 (le_ rfl) (le_ rfl)
  · obtain ⟨_, h1, hf⟩ := bn1_e hf
    refine j_invV [] [] E (c_X11_needGrower h1) ml_X11_187 mv_X11_needGrower rfl ⟨le_ rfl, le_ rfl⟩ (rcX ok0 cf_X11 ent0) rfl rfl (le_ rfl) ⟨le_ rfl, le_ rfl⟩ dX11_payGrower_2 ?_
    refine j_aload_n E 0 rfl dX11_payGrower_5 ?_
    refine j_get (f := 1) E ok0 cf_X11 fl_X11_19 (lt_ rfl) rfl ent0 rfl dX11_payGrower_6 ?_
    refine j_iload_n E 1 rfl dX11_payGrower_9 ?_
    obtain ⟨r1, h2, hf⟩ := bn1_e hf
    refine j_invV [] [.int r1] E (c_X0_canSettleAll jl1 h2) ml_X11_377 mv_X0_canSettleAll rfl ⟨le_ rfl, le_ rfl⟩ (rcX (okb10 jl1) cf_X0 ent10) rfl rfl (le_ rfl) ⟨le_ rfl, le_ rfl⟩ dX11_payGrower_10 ?_
    refine j_if_ne E 27 (by decide) dX11_payGrower_13 (fun c1 => ?_) (fun c1 => ?_)
    · rw [if_neg c1] at hf
      refine j_aload_n E 0 rfl dX11_payGrower_27 ?_
      refine j_get (f := 2) E ok0 cf_X11 fl_X11_26 (lt_ rfl) rfl ent0 rfl dX11_payGrower_28 ?_
      refine j_aload_n E 0 rfl dX11_payGrower_31 ?_
      refine j_get (f := 1) E ok0 cf_X11 fl_X11_19 (lt_ rfl) rfl ent0 rfl dX11_payGrower_32 ?_
      obtain ⟨X1, h3, hf⟩ := bn1_e hf
      refine j_invV [] [] E (c_X4_note jl1 h3) ml_X11_101 mv_X4_note rfl ⟨le_ rfl, le_ rfl⟩ (rcX ok4 cf_X4 ent4) rfl rfl (le_ rfl) ⟨le_ rfl, le_ rfl⟩ dX11_payGrower_35 ?_
      refine j_aload_n E 0 rfl dX11_payGrower_38 ?_
      refine j_get (f := 1) E ok0 cf_X11 fl_X11_19 (lt_ rfl) rfl ent0 rfl dX11_payGrower_39 ?_
      refine j_iload_n E 1 rfl dX11_payGrower_42 ?_
      obtain ⟨r2, X2, h4, hf⟩ := bn2_e hf
      refine j_invV [] [.int r2] E (c_X0_settleAll jl1 h4) ml_X11_382 mv_X0_settleAll rfl ⟨le_ rfl, le_ rfl⟩ (rcX (okb10 jl1) cf_X0 ent10) rfl rfl (le_ rfl) ⟨le_ rfl, le_ rfl⟩ dX11_payGrower_43 ?_
      exact none_e hf
    · rw [if_pos c1] at hf
      cases hf
      exact j_throwW (ex := "java/lang/IllegalStateException") E hl hex tw_0 sl_X11_380 gg_grow dX11_payGrower_16 dX11_payGrower_19 dX11_payGrower_20 dX11_payGrower_23 dX11_payGrower_26 (lt_ rfl) (le_ rfl) (le_ rfl) (le_ rfl) (le_ rfl) (le_ rfl)
def t_X11_pump (X : XT) (v1 : Int32) (v2 : Int32) : Option Nat :=
  orE (t_X11_knownTank X v1) (bn1 (f_X11_knownTank X v1) (fun r1 => gd (r1 < 5) (orE (t_X11_knownTank X v2) (bn1 (f_X11_knownTank X v2) (fun r2 => gd (r2 < 5) (if v1 = v2 then (some 1) else (bn1 (f_X9_canMoveTo X 1 r1 1 r2) (fun r3 => if r3 = 0 then (some 0) else (bn1 (f_X4_note X 1) (fun X1 => bn1 (f_X9_moveTo X1 1 r1 1 r2) (fun X2 => none)))))))))))
set_option maxRecDepth 20000 in
theorem tc_X11_pump {l : Launch} (hl : l.stackTraces = false) {D : DD} {z : Nat} {Y : YT} {X : XT} {v1 : Int32} {v2 : Int32} {e0 : Nat} (hf : t_X11_pump X v1 v2 = some e0) : CT l yX11_pump cX11_pump 5 (some .int) (rmk 7 1 6) D z [.ref (z + aX 0 0 0), .int v1, .int v2] (GG D z (X, Y)) (exN e0) (GG D z (X, Y)) := by
  unfold t_X11_pump at hf
  refine ct_of pn_X11 (le_ rfl) (ls := [(0, .ref (z + aX 0 0 0)), (1, .int v1), (2, .int v2)]) rfl ?_
  intro p e s m args below meth c E hex
  refine j_aload_n E 0 rfl dX11_pump_0 ?_
  refine j_iload_n E 1 rfl dX11_pump_1 ?_
  rcases orE_e hf with hq | hf
  · exact j_propV [] E hex (tc_X11_knownTank hl hq) ml_X11_246 mv_X11_knownTank rfl ⟨le_ rfl, le_ rfl⟩ (rcX ok0 cf_X11 ent0) rfl (le_ rfl) ⟨le_ rfl, le_ rfl⟩ dX11_pump_2 (le_ rfl) (le_ rfl)
  · obtain ⟨r1, h1, hf⟩ := bn1_e hf
    obtain ⟨g1, hf⟩ := gd_e hf
    refine j_invV [] [.ref (z + aX 26 1 r1)] E (c_X11_knownTank h1) ml_X11_246 mv_X11_knownTank rfl ⟨le_ rfl, le_ rfl⟩ (rcX ok0 cf_X11 ent0) rfl rfl (le_ rfl) ⟨le_ rfl, le_ rfl⟩ dX11_pump_2 ?_
    refine j_astore_n (ls' := [(3, .ref (z + aX 26 1 r1)), (0, .ref (z + aX 0 0 0)), (1, .int v1), (2, .int v2)]) E (lt_ rfl) rfl dX11_pump_5 ?_
    refine j_aload_n E 1 rfl dX11_pump_6 ?_
    refine j_iload_n E 3 rfl dX11_pump_7 ?_
    rcases orE_e hf with hq | hf
    · exact j_propV [] E hex (tc_X11_knownTank hl hq) ml_X11_246 mv_X11_knownTank rfl ⟨le_ rfl, le_ rfl⟩ (rcX ok0 cf_X11 ent0) rfl (le_ rfl) ⟨le_ rfl, le_ rfl⟩ dX11_pump_8 (le_ rfl) (le_ rfl)
    · obtain ⟨r2, h2, hf⟩ := bn1_e hf
      obtain ⟨g2, hf⟩ := gd_e hf
      refine j_invV [] [.ref (z + aX 26 1 r2)] E (c_X11_knownTank h2) ml_X11_246 mv_X11_knownTank rfl ⟨le_ rfl, le_ rfl⟩ (rcX ok0 cf_X11 ent0) rfl rfl (le_ rfl) ⟨le_ rfl, le_ rfl⟩ dX11_pump_8 ?_
      refine j_astore (ls' := [(4, .ref (z + aX 26 1 r2)), (3, .ref (z + aX 26 1 r1)), (0, .ref (z + aX 0 0 0)), (1, .int v1), (2, .int v2)]) E (lt_ rfl) rfl dX11_pump_11 ?_
      refine j_iload_n E 3 rfl dX11_pump_13 ?_
      refine j_iload_n E 4 rfl dX11_pump_14 ?_
      refine j_icmp_ne E 29 (by decide) dX11_pump_15 (fun c1 => ?_) (fun c1 => ?_)
      · rw [if_neg c1] at hf
        refine j_aload_n E 1 rfl dX11_pump_29 ?_
        refine j_aload E 0 rfl dX11_pump_30 ?_
        obtain ⟨r3, h3, hf⟩ := bn1_e hf
        refine j_invV [] [.int r3] E (c_X9_canMoveTo jl1 g1 jl1 g2 h3) ml_X11_387 mv_X9_canMoveTo rfl ⟨le_ rfl, le_ rfl⟩ (rcX (okb26 jl1 g1) cf_X9 ent26) rfl rfl (le_ rfl) ⟨le_ rfl, le_ rfl⟩ dX11_pump_32 ?_
        refine j_if_ne E 49 (by decide) dX11_pump_35 (fun c2 => ?_) (fun c2 => ?_)
        · rw [if_neg c2] at hf
          refine j_aload_n E 2 rfl dX11_pump_49 ?_
          refine j_get (f := 2) E ok0 cf_X11 fl_X11_26 (lt_ rfl) rfl ent0 rfl dX11_pump_50 ?_
          refine j_aload_n E 2 rfl dX11_pump_53 ?_
          refine j_get (f := 1) E ok0 cf_X11 fl_X11_19 (lt_ rfl) rfl ent0 rfl dX11_pump_54 ?_
          obtain ⟨X1, h4, hf⟩ := bn1_e hf
          refine j_invV [] [] E (c_X4_note jl1 h4) ml_X11_101 mv_X4_note rfl ⟨le_ rfl, le_ rfl⟩ (rcX ok4 cf_X4 ent4) rfl rfl (le_ rfl) ⟨le_ rfl, le_ rfl⟩ dX11_pump_57 ?_
          refine j_aload_n E 1 rfl dX11_pump_60 ?_
          refine j_aload E 0 rfl dX11_pump_61 ?_
          obtain ⟨X2, h5, hf⟩ := bn1_e hf
          refine j_invV [] [] E (c_X9_moveTo jl1 g1 jl1 g2 h5) ml_X11_393 mv_X9_moveTo rfl ⟨le_ rfl, le_ rfl⟩ (rcX (okb26 jl1 g1) cf_X9 ent26) rfl rfl (le_ rfl) ⟨le_ rfl, le_ rfl⟩ dX11_pump_63 ?_
          refine j_aload E 0 rfl dX11_pump_66 ?_
          refine j_getN (f := 1) E (okb26 jl1 g2) cf_X9 fl_X11_250 (lt_ rfl) rfl ent26 rfl dX11_pump_68 ?_
          exact none_e hf
        · rw [if_pos c2] at hf
          cases hf
          exact j_throwW (ex := "java/lang/IllegalStateException") E hl hex tw_0 sl_X11_391 gg_grow dX11_pump_38 dX11_pump_41 dX11_pump_42 dX11_pump_45 dX11_pump_48 (lt_ rfl) (le_ rfl) (le_ rfl) (le_ rfl) (le_ rfl) (le_ rfl)
      · rw [if_pos c1] at hf
        cases hf
        exact j_throwW (ex := "java/lang/IllegalArgumentException") E hl hex tw_1 sl_X11_385 gg_grow dX11_pump_18 dX11_pump_21 dX11_pump_22 dX11_pump_25 dX11_pump_28 (lt_ rfl) (le_ rfl) (le_ rfl) (le_ rfl) (le_ rfl) (le_ rfl)
def t_X11_needSlot (v0 : Int32) : Option Nat :=
  if v0 < 0 then (some 2) else (if v0 < 2 then (none) else (some 2))
set_option maxRecDepth 20000 in
theorem tc_X11_needSlot {l : Launch} (hl : l.stackTraces = false) {D : DD} {z : Nat} {S0 : WS} {v0 : Int32} {e0 : Nat} (hf : t_X11_needSlot v0 = some e0) : CT l yX11_needSlot cX11_needSlot 1 none (rmk 6 1 6) D z [.int v0] (GG D z S0) (exN e0) (GG D z S0) := by
  unfold t_X11_needSlot at hf
  refine ct_of pn_X11 (le_ rfl) (ls := [(0, .int v0)]) rfl ?_
  intro p e s m args below meth c E hex
  refine j_iload_n E 0 rfl dX11_needSlot_0 ?_
  refine j_if_lt E 9 (by decide) dX11_needSlot_1 (fun c1 => ?_) (fun c1 => ?_)
  · rw [if_pos c1] at hf
    cases hf
    exact j_throwW (ex := "java/lang/IndexOutOfBoundsException") E hl hex tw_2 sl_X11_473 gg_grow dX11_needSlot_9 dX11_needSlot_12 dX11_needSlot_13 dX11_needSlot_16 dX11_needSlot_19 (lt_ rfl) (le_ rfl) (le_ rfl) (le_ rfl) (le_ rfl) (le_ rfl)
  · rw [if_neg c1] at hf
    refine j_iload_n E 0 rfl dX11_needSlot_4 ?_
    refine j_iconst E 2 ic_2 dX11_needSlot_5 ?_
    refine j_icmp_lt E 20 (by decide) dX11_needSlot_6 (fun c2 => ?_) (fun c2 => ?_)
    · rw [if_pos c2] at hf
      exact none_e hf
    · rw [if_neg c2] at hf
      cases hf
      exact j_throwW (ex := "java/lang/IndexOutOfBoundsException") E hl hex tw_2 sl_X11_473 gg_grow dX11_needSlot_9 dX11_needSlot_12 dX11_needSlot_13 dX11_needSlot_16 dX11_needSlot_19 (lt_ rfl) (le_ rfl) (le_ rfl) (le_ rfl) (le_ rfl) (le_ rfl)
def t_X11_save (X : XT) (v1 : Int32) : Option Nat :=
  orE (t_X11_needSlot v1) (bn1 (f_X11_needSlot v1) (fun _ => gd (¬ (v1 < 0 ∨ 2 ≤ v1.toNatClampNeg)) (bn1 (f_X0_copyFrom X (8 + v1.toNatClampNeg) 1) (fun X1 => gd (¬ (v1 < 0 ∨ 2 ≤ v1.toNatClampNeg)) (bnd (xs X1 7 0 0 (v1.toNatClampNeg) 1) (fun X2 => none))))))
set_option maxRecDepth 20000 in
theorem tc_X11_save {l : Launch} (hl : l.stackTraces = false) {D : DD} {z : Nat} {Y : YT} {X : XT} {v1 : Int32} {e0 : Nat} (hf : t_X11_save X v1 = some e0) : CT l yX11_save cX11_save 2 (some .int) (rmk 7 1 6) D z [.ref (z + aX 0 0 0), .int v1] (GG D z (X, Y)) (exN e0) (GG D z (X, Y)) := by
  unfold t_X11_save at hf
  refine ct_of pn_X11 (le_ rfl) (ls := [(0, .ref (z + aX 0 0 0)), (1, .int v1)]) rfl ?_
  intro p e s m args below meth c E hex
  refine j_iload_n E 1 rfl dX11_save_0 ?_
  rcases orE_e hf with hq | hf
  · exact j_propS [] E hex (tc_X11_needSlot hl hq) ml_X11_397 ms_X11_needSlot rfl ⟨le_ rfl, le_ rfl⟩ rfl (le_ rfl) ⟨le_ rfl, le_ rfl⟩ dX11_save_1 (le_ rfl) (le_ rfl)
  · obtain ⟨_, h1, hf⟩ := bn1_e hf
    refine j_invS [] [] E (c_X11_needSlot h1) ml_X11_397 ms_X11_needSlot rfl ⟨le_ rfl, le_ rfl⟩ rfl rfl (le_ rfl) ⟨le_ rfl, le_ rfl⟩ dX11_save_1 ?_
    refine j_aload_n E 0 rfl dX11_save_4 ?_
    refine j_get (f := 3) E ok0 cf_X11 fl_X11_30 (lt_ rfl) rfl ent0 rfl dX11_save_5 ?_
    refine j_iload_n E 1 rfl dX11_save_8 ?_
    obtain ⟨g1, hf⟩ := gd_e hf
    refine j_aald (t := 7) E ok6 ent6 rfl g1 dX11_save_9 ?_
    refine j_aload_n E 0 rfl dX11_save_10 ?_
    refine j_get (f := 1) E ok0 cf_X11 fl_X11_19 (lt_ rfl) rfl ent0 rfl dX11_save_11 ?_
    obtain ⟨X1, h2, hf⟩ := bn1_e hf
    refine j_invV [] [] E (c_X0_copyFrom (hb8 g1) jl1 h2) ml_X11_74 mv_X0_copyFrom rfl ⟨le_ rfl, le_ rfl⟩ (rcX (okb10 (hb8 g1)) cf_X0 ent10) rfl rfl (le_ rfl) ⟨le_ rfl, le_ rfl⟩ dX11_save_14 ?_
    refine j_aload_n E 0 rfl dX11_save_17 ?_
    refine j_get (f := 4) E ok0 cf_X11 fl_X11_34 (lt_ rfl) rfl ent0 rfl dX11_save_18 ?_
    refine j_iload_n E 1 rfl dX11_save_21 ?_
    refine j_iconst E 1 ic_1 dX11_save_22 ?_
    obtain ⟨g2, hf⟩ := gd_e hf
    obtain ⟨X2, hX2, hf⟩ := bnd_e hf
    refine j_zast E ok7 (fun _ => ent7) g2 (v1.toNatClampNeg) rfl rfl hX2 dX11_save_23 ?_
    refine j_aload_n E 0 rfl dX11_save_24 ?_
    refine j_get (f := 1) E ok0 cf_X11 fl_X11_19 (lt_ rfl) rfl ent0 rfl dX11_save_25 ?_
    refine j_getN (f := 6) E (okb10 jl1) cf_X0 fl_X11_300 (lt_ rfl) rfl ent10 rfl dX11_save_28 ?_
    exact none_e hf
def t_X11_restore (X : XT) (v1 : Int32) : Option Nat :=
  orE (t_X11_needSlot v1) (bn1 (f_X11_needSlot v1) (fun _ => gd (¬ (v1 < 0 ∨ 2 ≤ v1.toNatClampNeg)) (if (X 7 0 0 v1.toNatClampNeg) = 0 then (some 0) else (bn1 (f_X4_note X 1) (fun X1 => gd (¬ (v1 < 0 ∨ 2 ≤ v1.toNatClampNeg)) (bn1 (f_X0_copyFrom X1 1 (8 + v1.toNatClampNeg)) (fun X2 => none)))))))
set_option maxRecDepth 20000 in
theorem tc_X11_restore {l : Launch} (hl : l.stackTraces = false) {D : DD} {z : Nat} {Y : YT} {X : XT} {v1 : Int32} {e0 : Nat} (hf : t_X11_restore X v1 = some e0) : CT l yX11_restore cX11_restore 2 (some .int) (rmk 7 1 6) D z [.ref (z + aX 0 0 0), .int v1] (GG D z (X, Y)) (exN e0) (GG D z (X, Y)) := by
  unfold t_X11_restore at hf
  refine ct_of pn_X11 (le_ rfl) (ls := [(0, .ref (z + aX 0 0 0)), (1, .int v1)]) rfl ?_
  intro p e s m args below meth c E hex
  refine j_iload_n E 1 rfl dX11_restore_0 ?_
  rcases orE_e hf with hq | hf
  · exact j_propS [] E hex (tc_X11_needSlot hl hq) ml_X11_397 ms_X11_needSlot rfl ⟨le_ rfl, le_ rfl⟩ rfl (le_ rfl) ⟨le_ rfl, le_ rfl⟩ dX11_restore_1 (le_ rfl) (le_ rfl)
  · obtain ⟨_, h1, hf⟩ := bn1_e hf
    refine j_invS [] [] E (c_X11_needSlot h1) ml_X11_397 ms_X11_needSlot rfl ⟨le_ rfl, le_ rfl⟩ rfl rfl (le_ rfl) ⟨le_ rfl, le_ rfl⟩ dX11_restore_1 ?_
    refine j_aload_n E 0 rfl dX11_restore_4 ?_
    refine j_get (f := 4) E ok0 cf_X11 fl_X11_34 (lt_ rfl) rfl ent0 rfl dX11_restore_5 ?_
    refine j_iload_n E 1 rfl dX11_restore_8 ?_
    obtain ⟨g1, hf⟩ := gd_e hf
    refine j_zald E ok7 ent7 g1 (v1.toNatClampNeg) rfl dX11_restore_9 ?_
    refine j_if_ne E 24 (by decide) dX11_restore_10 (fun c1 => ?_) (fun c1 => ?_)
    · rw [if_neg c1] at hf
      refine j_aload_n E 0 rfl dX11_restore_24 ?_
      refine j_get (f := 2) E ok0 cf_X11 fl_X11_26 (lt_ rfl) rfl ent0 rfl dX11_restore_25 ?_
      refine j_aload_n E 0 rfl dX11_restore_28 ?_
      refine j_get (f := 1) E ok0 cf_X11 fl_X11_19 (lt_ rfl) rfl ent0 rfl dX11_restore_29 ?_
      obtain ⟨X1, h2, hf⟩ := bn1_e hf
      refine j_invV [] [] E (c_X4_note jl1 h2) ml_X11_101 mv_X4_note rfl ⟨le_ rfl, le_ rfl⟩ (rcX ok4 cf_X4 ent4) rfl rfl (le_ rfl) ⟨le_ rfl, le_ rfl⟩ dX11_restore_32 ?_
      refine j_aload_n E 0 rfl dX11_restore_35 ?_
      refine j_get (f := 1) E ok0 cf_X11 fl_X11_19 (lt_ rfl) rfl ent0 rfl dX11_restore_36 ?_
      refine j_aload_n E 0 rfl dX11_restore_39 ?_
      refine j_get (f := 3) E ok0 cf_X11 fl_X11_30 (lt_ rfl) rfl ent0 rfl dX11_restore_40 ?_
      refine j_iload_n E 1 rfl dX11_restore_43 ?_
      obtain ⟨g2, hf⟩ := gd_e hf
      refine j_aald (t := 7) E ok6 ent6 rfl g2 dX11_restore_44 ?_
      obtain ⟨X2, h3, hf⟩ := bn1_e hf
      refine j_invV [] [] E (c_X0_copyFrom jl1 (hb8 g2) h3) ml_X11_74 mv_X0_copyFrom rfl ⟨le_ rfl, le_ rfl⟩ (rcX (okb10 jl1) cf_X0 ent10) rfl rfl (le_ rfl) ⟨le_ rfl, le_ rfl⟩ dX11_restore_45 ?_
      refine j_aload_n E 0 rfl dX11_restore_48 ?_
      refine j_get (f := 1) E ok0 cf_X11 fl_X11_19 (lt_ rfl) rfl ent0 rfl dX11_restore_49 ?_
      refine j_getN (f := 6) E (okb10 jl1) cf_X0 fl_X11_300 (lt_ rfl) rfl ent10 rfl dX11_restore_52 ?_
      exact none_e hf
    · rw [if_pos c1] at hf
      cases hf
      exact j_throwW (ex := "java/lang/IllegalStateException") E hl hex tw_0 sl_X11_400 gg_grow dX11_restore_13 dX11_restore_16 dX11_restore_17 dX11_restore_20 dX11_restore_23 (lt_ rfl) (le_ rfl) (le_ rfl) (le_ rfl) (le_ rfl) (le_ rfl)
def t_X11_undo (X : XT) : Option Nat :=
  if (X 4 0 0 2) = 0 then (some 0) else (bn1 (f_X4_bringBack X 1) (fun X1 => none))
set_option maxRecDepth 20000 in
theorem tc_X11_undo {l : Launch} (hl : l.stackTraces = false) {D : DD} {z : Nat} {Y : YT} {X : XT} {e0 : Nat} (hf : t_X11_undo X = some e0) : CT l yX11_undo cX11_undo 1 (some .int) (rmk 6 1 6) D z [.ref (z + aX 0 0 0)] (GG D z (X, Y)) (exN e0) (GG D z (X, Y)) := by
  unfold t_X11_undo at hf
  refine ct_of pn_X11 (le_ rfl) (ls := [(0, .ref (z + aX 0 0 0))]) rfl ?_
  intro p e s m args below meth c E hex
  refine j_aload_n E 0 rfl dX11_undo_0 ?_
  refine j_get (f := 2) E ok0 cf_X11 fl_X11_26 (lt_ rfl) rfl ent0 rfl dX11_undo_1 ?_
  refine j_getN (f := 2) E ok4 cf_X4 fl_X11_402 (lt_ rfl) rfl ent4 rfl dX11_undo_4 ?_
  refine j_if_ne E 21 (by decide) dX11_undo_7 (fun c1 => ?_) (fun c1 => ?_)
  · rw [if_neg c1] at hf
    refine j_aload_n E 0 rfl dX11_undo_21 ?_
    refine j_get (f := 2) E ok0 cf_X11 fl_X11_26 (lt_ rfl) rfl ent0 rfl dX11_undo_22 ?_
    refine j_aload_n E 0 rfl dX11_undo_25 ?_
    refine j_get (f := 1) E ok0 cf_X11 fl_X11_19 (lt_ rfl) rfl ent0 rfl dX11_undo_26 ?_
    obtain ⟨X1, h1, hf⟩ := bn1_e hf
    refine j_invV [] [] E (c_X4_bringBack jl1 h1) ml_X11_405 mv_X4_bringBack rfl ⟨le_ rfl, le_ rfl⟩ (rcX ok4 cf_X4 ent4) rfl rfl (le_ rfl) ⟨le_ rfl, le_ rfl⟩ dX11_undo_29 ?_
    refine j_aload_n E 0 rfl dX11_undo_32 ?_
    refine j_get (f := 2) E ok0 cf_X11 fl_X11_26 (lt_ rfl) rfl ent0 rfl dX11_undo_33 ?_
    refine j_getN (f := 2) E ok4 cf_X4 fl_X11_402 (lt_ rfl) rfl ent4 rfl dX11_undo_36 ?_
    exact none_e hf
  · rw [if_pos c1] at hf
    cases hf
    exact j_throwW (ex := "java/lang/IllegalStateException") E hl hex tw_0 sl_X11_403 gg_grow dX11_undo_10 dX11_undo_13 dX11_undo_14 dX11_undo_17 dX11_undo_20 (lt_ rfl) (le_ rfl) (le_ rfl) (le_ rfl) (le_ rfl) (le_ rfl)
