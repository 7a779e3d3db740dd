def t_X11_needPlot (X : XT) (v1 : Int32) : Option Nat :=
  bn1 (f_X5_hasPlot X 1 v1) (fun r1 => if r1 = 0 then (some 2) else (none))
set_option maxRecDepth 20000 in
theorem tc_X11_needPlot {l : Launch} (hl : l.stackTraces = false) {D : DD} {z : Nat} {Y : YT} {X : XT} {v1 : Int32} {e0 : Nat} (hf : t_X11_needPlot X v1 = some e0) : CT l yX11_needPlot cX11_needPlot 2 none (rmk 6 1 6) D z [.ref (z + aX 0 0 0), .int v1] (GG D z (X, Y)) (exN e0) (GG D z (X, Y)) := by
  unfold t_X11_needPlot at hf
  refine ct_of pn_X11 (le_ rfl) (ls := [(0, .ref (z + aX 0 0 0)), (1, .int v1)]) rfl ?_
  intro p e s m args below meth c E hex
  refine j_aload_n E 0 rfl dX11_needPlot_0 ?_
  refine j_get (f := 1) E ok0 cf_X11 fl_X11_19 (lt_ rfl) rfl ent0 rfl dX11_needPlot_1 ?_
  refine j_getN (f := 1) E (okb10 jl1) cf_X0 fl_X11_131 (lt_ rfl) rfl ent10 rfl dX11_needPlot_4 ?_
  refine j_iload_n E 1 rfl dX11_needPlot_7 ?_
  obtain ⟨r1, h1, hf⟩ := bn1_e hf
  refine j_invV [] [.int r1] E (c_X5_hasPlot jl1 h1) ml_X11_468 mv_X5_hasPlot rfl ⟨le_ rfl, le_ rfl⟩ (rcX (okb15 jl1) cf_X5 ent15) rfl rfl (le_ rfl) ⟨le_ rfl, le_ rfl⟩ dX11_needPlot_8 ?_
  refine j_if_ne E 25 (by decide) dX11_needPlot_11 (fun c1 => ?_) (fun c1 => ?_)
  · rw [if_neg c1] at hf
    exact none_e hf
  · rw [if_pos c1] at hf
    cases hf
    exact j_throwW (ex := "java/lang/IndexOutOfBoundsException") E hl hex tw_2 sl_X11_471 gg_grow dX11_needPlot_14 dX11_needPlot_17 dX11_needPlot_18 dX11_needPlot_21 dX11_needPlot_24 (lt_ rfl) (le_ rfl) (le_ rfl) (le_ rfl) (le_ rfl) (le_ rfl)
def t_X11_needWeight (v0 : Int32) : Option Nat :=
  if v0 < 1 then (some 1) else (if v0 ≤ 5000 then (none) else (some 1))
set_option maxRecDepth 20000 in
theorem tc_X11_needWeight {l : Launch} (hl : l.stackTraces = false) {D : DD} {z : Nat} {S0 : WS} {v0 : Int32} {e0 : Nat} (hf : t_X11_needWeight v0 = some e0) : CT l yX11_needWeight cX11_needWeight 1 none (rmk 6 1 6) D z [.int v0] (GG D z S0) (exN e0) (GG D z S0) := by
  unfold t_X11_needWeight at hf
  refine ct_of pn_X11 (le_ rfl) (ls := [(0, .int v0)]) rfl ?_
  intro p e s m args below meth c E hex
  refine j_iload_n E 0 rfl dX11_needWeight_0 ?_
  refine j_iconst E 1 ic_1 dX11_needWeight_1 ?_
  refine j_icmp_lt E 12 (by decide) dX11_needWeight_2 (fun c1 => ?_) (fun c1 => ?_)
  · rw [if_pos c1] at hf
    cases hf
    exact j_throwW (ex := "java/lang/IllegalArgumentException") E hl hex tw_1 sl_X11_475 gg_grow dX11_needWeight_12 dX11_needWeight_15 dX11_needWeight_16 dX11_needWeight_19 dX11_needWeight_22 (lt_ rfl) (le_ rfl) (le_ rfl) (le_ rfl) (le_ rfl) (le_ rfl)
  · rw [if_neg c1] at hf
    refine j_iload_n E 0 rfl dX11_needWeight_5 ?_
    refine j_sipush E 5000 sp_5000 dX11_needWeight_6 ?_
    refine j_icmp_le E 23 (by decide) dX11_needWeight_9 (fun c2 => ?_) (fun c2 => ?_)
    · rw [if_pos c2] at hf
      exact none_e hf
    · rw [if_neg c2] at hf
      cases hf
      exact j_throwW (ex := "java/lang/IllegalArgumentException") E hl hex tw_1 sl_X11_475 gg_grow dX11_needWeight_12 dX11_needWeight_15 dX11_needWeight_16 dX11_needWeight_19 dX11_needWeight_22 (lt_ rfl) (le_ rfl) (le_ rfl) (le_ rfl) (le_ rfl) (le_ rfl)
def t_X11_needSugar (v0 : Int32) : Option Nat :=
  if v0 < 0 then (some 1) else (if v0 ≤ 250 then (none) else (some 1))
set_option maxRecDepth 20000 in
theorem tc_X11_needSugar {l : Launch} (hl : l.stackTraces = false) {D : DD} {z : Nat} {S0 : WS} {v0 : Int32} {e0 : Nat} (hf : t_X11_needSugar v0 = some e0) : CT l yX11_needSugar cX11_needSugar 1 none (rmk 6 1 6) D z [.int v0] (GG D z S0) (exN e0) (GG D z S0) := by
  unfold t_X11_needSugar at hf
  refine ct_of pn_X11 (le_ rfl) (ls := [(0, .int v0)]) rfl ?_
  intro p e s m args below meth c E hex
  refine j_iload_n E 0 rfl dX11_needSugar_0 ?_
  refine j_if_lt E 11 (by decide) dX11_needSugar_1 (fun c1 => ?_) (fun c1 => ?_)
  · rw [if_pos c1] at hf
    cases hf
    exact j_throwW (ex := "java/lang/IllegalArgumentException") E hl hex tw_1 sl_X11_477 gg_grow dX11_needSugar_11 dX11_needSugar_14 dX11_needSugar_15 dX11_needSugar_18 dX11_needSugar_21 (lt_ rfl) (le_ rfl) (le_ rfl) (le_ rfl) (le_ rfl) (le_ rfl)
  · rw [if_neg c1] at hf
    refine j_iload_n E 0 rfl dX11_needSugar_4 ?_
    refine j_sipush E 250 sp_250 dX11_needSugar_5 ?_
    refine j_icmp_le E 22 (by decide) dX11_needSugar_8 (fun c2 => ?_) (fun c2 => ?_)
    · rw [if_pos c2] at hf
      exact none_e hf
    · rw [if_neg c2] at hf
      cases hf
      exact j_throwW (ex := "java/lang/IllegalArgumentException") E hl hex tw_1 sl_X11_477 gg_grow dX11_needSugar_11 dX11_needSugar_14 dX11_needSugar_15 dX11_needSugar_18 dX11_needSugar_21 (lt_ rfl) (le_ rfl) (le_ rfl) (le_ rfl) (le_ rfl) (le_ rfl)
def t_X11_deliver (X : XT) (v1 : Int32) (v2 : Int32) (v3 : Int32) : Option Nat :=
  orE (t_X11_needPlot X v1) (bn1 (f_X11_needPlot X v1) (fun _ => orE (t_X11_needWeight v2) (bn1 (f_X11_needWeight v2) (fun _ => orE (t_X11_needSugar v3) (bn1 (f_X11_needSugar v3) (fun _ => bn1 (f_X0_reasonAgainst X 1 v1 v2 v3) (fun r1 => if r1 = 0 then (bn1 (f_X4_note X 1) (fun X1 => bn2 (f_X0_accept X1 1 v1 v2 v3) (fun r2 X2 => none))) else (some 0))))))))
set_option maxRecDepth 20000 in
theorem tc_X11_deliver {l : Launch} (hl : l.stackTraces = false) {D : DD} {z : Nat} {Y : YT} {X : XT} {v1 : Int32} {v2 : Int32} {v3 : Int32} {e0 : Nat} (hf : t_X11_deliver X v1 v2 v3 = some e0) : CT l yX11_deliver cX11_deliver 4 (some .int) (rmk 7 1 6) D z [.ref (z + aX 0 0 0), .int v1, .int v2, .int v3] (GG D z (X, Y)) (exN e0) (GG D z (X, Y)) := by
  unfold t_X11_deliver at hf
  refine ct_of pn_X11 (le_ rfl) (ls := [(0, .ref (z + aX 0 0 0)), (1, .int v1), (2, .int v2), (3, .int v3)]) rfl ?_
  intro p e s m args below meth c E hex
  refine j_aload_n E 0 rfl dX11_deliver_0 ?_
  refine j_iload_n E 1 rfl dX11_deliver_1 ?_
  rcases orE_e hf with hq | hf
  · exact j_propV [] E hex (tc_X11_needPlot hl hq) ml_X11_208 mv_X11_needPlot rfl ⟨le_ rfl, le_ rfl⟩ (rcX ok0 cf_X11 ent0) rfl (le_ rfl) ⟨le_ rfl, le_ rfl⟩ dX11_deliver_2 (le_ rfl) (le_ rfl)
  · obtain ⟨_, h1, hf⟩ := bn1_e hf
    refine j_invV [] [] E (c_X11_needPlot h1) ml_X11_208 mv_X11_needPlot rfl ⟨le_ rfl, le_ rfl⟩ (rcX ok0 cf_X11 ent0) rfl rfl (le_ rfl) ⟨le_ rfl, le_ rfl⟩ dX11_deliver_2 ?_
    refine j_iload_n E 2 rfl dX11_deliver_5 ?_
    rcases orE_e hf with hq | hf
    · exact j_propS [] E hex (tc_X11_needWeight hl hq) ml_X11_261 ms_X11_needWeight rfl ⟨le_ rfl, le_ rfl⟩ rfl (le_ rfl) ⟨le_ rfl, le_ rfl⟩ dX11_deliver_6 (le_ rfl) (le_ rfl)
    · obtain ⟨_, h2, hf⟩ := bn1_e hf
      refine j_invS [] [] E (c_X11_needWeight h2) ml_X11_261 ms_X11_needWeight rfl ⟨le_ rfl, le_ rfl⟩ rfl rfl (le_ rfl) ⟨le_ rfl, le_ rfl⟩ dX11_deliver_6 ?_
      refine j_iload_n E 3 rfl dX11_deliver_9 ?_
      rcases orE_e hf with hq | hf
      · exact j_propS [] E hex (tc_X11_needSugar hl hq) ml_X11_152 ms_X11_needSugar rfl ⟨le_ rfl, le_ rfl⟩ rfl (le_ rfl) ⟨le_ rfl, le_ rfl⟩ dX11_deliver_10 (le_ rfl) (le_ rfl)
      · obtain ⟨_, h3, hf⟩ := bn1_e hf
        refine j_invS [] [] E (c_X11_needSugar h3) ml_X11_152 ms_X11_needSugar rfl ⟨le_ rfl, le_ rfl⟩ rfl rfl (le_ rfl) ⟨le_ rfl, le_ rfl⟩ dX11_deliver_10 ?_
        refine j_aload_n E 0 rfl dX11_deliver_13 ?_
        refine j_get (f := 1) E ok0 cf_X11 fl_X11_19 (lt_ rfl) rfl ent0 rfl dX11_deliver_14 ?_
        refine j_iload_n E 1 rfl dX11_deliver_17 ?_
        refine j_iload_n E 2 rfl dX11_deliver_18 ?_
        refine j_iload_n E 3 rfl dX11_deliver_19 ?_
        obtain ⟨r1, h4, hf⟩ := bn1_e hf
        refine j_invV [] [.int r1] E (c_X0_reasonAgainst jl1 h4) ml_X11_270 mv_X0_reasonAgainst rfl ⟨le_ rfl, le_ rfl⟩ (rcX (okb10 jl1) cf_X0 ent10) rfl rfl (le_ rfl) ⟨le_ rfl, le_ rfl⟩ dX11_deliver_20 ?_
        refine j_if_eq E 37 (by decide) dX11_deliver_23 (fun c1 => ?_) (fun c1 => ?_)
        · rw [if_pos c1] at hf
          refine j_aload_n E 0 rfl dX11_deliver_37 ?_
          refine j_get (f := 2) E ok0 cf_X11 fl_X11_26 (lt_ rfl) rfl ent0 rfl dX11_deliver_38 ?_
          refine j_aload_n E 0 rfl dX11_deliver_41 ?_
          refine j_get (f := 1) E ok0 cf_X11 fl_X11_19 (lt_ rfl) rfl ent0 rfl dX11_deliver_42 ?_
          obtain ⟨X1, h5, hf⟩ := bn1_e hf
          refine j_invV [] [] E (c_X4_note jl1 h5) ml_X11_101 mv_X4_note rfl ⟨le_ rfl, le_ rfl⟩ (rcX ok4 cf_X4 ent4) rfl rfl (le_ rfl) ⟨le_ rfl, le_ rfl⟩ dX11_deliver_45 ?_
          refine j_aload_n E 0 rfl dX11_deliver_48 ?_
          refine j_get (f := 1) E ok0 cf_X11 fl_X11_19 (lt_ rfl) rfl ent0 rfl dX11_deliver_49 ?_
          refine j_iload_n E 1 rfl dX11_deliver_52 ?_
          refine j_iload_n E 2 rfl dX11_deliver_53 ?_
          refine j_iload_n E 3 rfl dX11_deliver_54 ?_
          obtain ⟨r2, X2, h6, hf⟩ := bn2_e hf
          refine j_invV [] [.int r2] E (c_X0_accept jl1 h6) ml_X11_337 mv_X0_accept rfl ⟨le_ rfl, le_ rfl⟩ (rcX (okb10 jl1) cf_X0 ent10) rfl rfl (le_ rfl) ⟨le_ rfl, le_ rfl⟩ dX11_deliver_55 ?_
          exact none_e hf
        · rw [if_neg c1] at hf
          cases hf
          exact j_throwW (ex := "java/lang/IllegalStateException") E hl hex tw_0 sl_X11_335 gg_grow dX11_deliver_26 dX11_deliver_29 dX11_deliver_30 dX11_deliver_33 dX11_deliver_36 (lt_ rfl) (le_ rfl) (le_ rfl) (le_ rfl) (le_ rfl) (le_ rfl)
def t_X11_knownTank (X : XT) (v1 : Int32) : Option Nat :=
  if v1 < 0 then (some 2) else (if v1 < (X 23 1 0 2) then (gd (¬ (v1 < 0 ∨ 5 ≤ v1.toNatClampNeg)) (none)) else (some 2))
set_option maxRecDepth 20000 in
theorem tc_X11_knownTank {l : Launch} (hl : l.stackTraces = false) {D : DD} {z : Nat} {Y : YT} {X : XT} {v1 : Int32} {e0 : Nat} (hf : t_X11_knownTank X v1 = some e0) : CT l yX11_knownTank cX11_knownTank 2 (some (.object "WineCooperative$Tank")) (rmk 6 1 6) D z [.ref (z + aX 0 0 0), .int v1] (GG D z (X, Y)) (exN e0) (GG D z (X, Y)) := by
  unfold t_X11_knownTank at hf
  refine ct_of pn_X11 (le_ rfl) (ls := [(0, .ref (z + aX 0 0 0)), (1, .int v1)]) rfl ?_
  intro p e s m args below meth c E hex
  refine j_iload_n E 1 rfl dX11_knownTank_0 ?_
  refine j_if_lt E 18 (by decide) dX11_knownTank_1 (fun c1 => ?_) (fun c1 => ?_)
  · rw [if_pos c1] at hf
    cases hf
    exact j_throwW (ex := "java/lang/IndexOutOfBoundsException") E hl hex tw_2 sl_X11_448 gg_grow dX11_knownTank_18 dX11_knownTank_21 dX11_knownTank_22 dX11_knownTank_25 dX11_knownTank_28 (lt_ rfl) (le_ rfl) (le_ rfl) (le_ rfl) (le_ rfl) (le_ rfl)
  · rw [if_neg c1] at hf
    refine j_iload_n E 1 rfl dX11_knownTank_4 ?_
    refine j_aload_n E 0 rfl dX11_knownTank_5 ?_
    refine j_get (f := 1) E ok0 cf_X11 fl_X11_19 (lt_ rfl) rfl ent0 rfl dX11_knownTank_6 ?_
    refine j_getN (f := 3) E (okb10 jl1) cf_X0 fl_X11_143 (lt_ rfl) rfl ent10 rfl dX11_knownTank_9 ?_
    refine j_getN (f := 2) E (okb23 jl1) cf_X2 fl_X11_411 (lt_ rfl) rfl ent23 rfl dX11_knownTank_12 ?_
    refine j_icmp_lt E 29 (by decide) dX11_knownTank_15 (fun c2 => ?_) (fun c2 => ?_)
    · rw [if_pos c2] at hf
      refine j_aload_n E 0 rfl dX11_knownTank_29 ?_
      refine j_get (f := 1) E ok0 cf_X11 fl_X11_19 (lt_ rfl) rfl ent0 rfl dX11_knownTank_30 ?_
      refine j_getN (f := 3) E (okb10 jl1) cf_X0 fl_X11_143 (lt_ rfl) rfl ent10 rfl dX11_knownTank_33 ?_
      refine j_getN (f := 0) E (okb23 jl1) cf_X2 fl_X11_418 (lt_ rfl) rfl ent23 rfl dX11_knownTank_36 ?_
      refine j_iload_n E 1 rfl dX11_knownTank_39 ?_
      obtain ⟨g1, hf⟩ := gd_e hf
      refine j_aald (t := 5) E (okb24 jl1) ent24 rfl g1 dX11_knownTank_40 ?_
      exact none_e hf
    · rw [if_neg c2] at hf
      cases hf
      exact j_throwW (ex := "java/lang/IndexOutOfBoundsException") E hl hex tw_2 sl_X11_448 gg_grow dX11_knownTank_18 dX11_knownTank_21 dX11_knownTank_22 dX11_knownTank_25 dX11_knownTank_28 (lt_ rfl) (le_ rfl) (le_ rfl) (le_ rfl) (le_ rfl) (le_ rfl)
def t_X11_needBottles (v0 : Int32) : Option Nat :=
  if v0 < 1 then (some 1) else (if v0 ≤ 20000 then (none) else (some 1))
set_option maxRecDepth 20000 in
theorem tc_X11_needBottles {l : Launch} (hl : l.stackTraces = false) {D : DD} {z : Nat} {S0 : WS} {v0 : Int32} {e0 : Nat} (hf : t_X11_needBottles v0 = some e0) : CT l yX11_needBottles cX11_needBottles 1 none (rmk 6 1 6) D z [.int v0] (GG D z S0) (exN e0) (GG D z S0) := by
  unfold t_X11_needBottles at hf
  refine ct_of pn_X11 (le_ rfl) (ls := [(0, .int v0)]) rfl ?_
  intro p e s m args below meth c E hex
  refine j_iload_n E 0 rfl dX11_needBottles_0 ?_
  refine j_iconst E 1 ic_1 dX11_needBottles_1 ?_
  refine j_icmp_lt E 12 (by decide) dX11_needBottles_2 (fun c1 => ?_) (fun c1 => ?_)
  · rw [if_pos c1] at hf
    cases hf
    exact j_throwW (ex := "java/lang/IllegalArgumentException") E hl hex tw_1 sl_X11_479 gg_grow dX11_needBottles_12 dX11_needBottles_15 dX11_needBottles_16 dX11_needBottles_19 dX11_needBottles_22 (lt_ rfl) (le_ rfl) (le_ rfl) (le_ rfl) (le_ rfl) (le_ rfl)
  · rw [if_neg c1] at hf
    refine j_iload_n E 0 rfl dX11_needBottles_5 ?_
    refine j_sipush E 20000 sp_20000 dX11_needBottles_6 ?_
    refine j_icmp_le E 23 (by decide) dX11_needBottles_9 (fun c2 => ?_) (fun c2 => ?_)
    · rw [if_pos c2] at hf
      exact none_e hf
    · rw [if_neg c2] at hf
      cases hf
      exact j_throwW (ex := "java/lang/IllegalArgumentException") E hl hex tw_1 sl_X11_479 gg_grow dX11_needBottles_12 dX11_needBottles_15 dX11_needBottles_16 dX11_needBottles_19 dX11_needBottles_22 (lt_ rfl) (le_ rfl) (le_ rfl) (le_ rfl) (le_ rfl) (le_ rfl)
def t_X11_bottle (X : XT) (v1 : Int32) (v2 : Int32) : Option Nat :=
  orE (t_X11_knownTank X v1) (bn1 (f_X11_knownTank X v1) (fun r1 => gd (r1 < 5) (orE (t_X11_needBottles v2) (bn1 (f_X11_needBottles v2) (fun _ => bn1 (f_X2_canFillLot X 1 1 r1 v2) (fun r2 => if r2 = 0 then (some 0) else (bn1 (f_X4_note X 1) (fun X1 => bn2 (f_X2_fillLot X1 1 1 r1 v2) (fun r3 X2 => none)))))))))
set_option maxRecDepth 20000 in
theorem tc_X11_bottle {l : Launch} (hl : l.stackTraces = false) {D : DD} {z : Nat} {Y : YT} {X : XT} {v1 : Int32} {v2 : Int32} {e0 : Nat} (hf : t_X11_bottle X v1 v2 = some e0) : CT l yX11_bottle cX11_bottle 4 (some .int) (rmk 7 1 6) D z [.ref (z + aX 0 0 0), .int v1, .int v2] (GG D z (X, Y)) (exN e0) (GG D z (X, Y)) := by
  unfold t_X11_bottle at hf
  refine ct_of pn_X11 (le_ rfl) (ls := [(0, .ref (z + aX 0 0 0)), (1, .int v1), (2, .int v2)]) rfl ?_
  intro p e s m args below meth c E hex
  refine j_aload_n E 0 rfl dX11_bottle_0 ?_
  refine j_iload_n E 1 rfl dX11_bottle_1 ?_
  rcases orE_e hf with hq | hf
  · exact j_propV [] E hex (tc_X11_knownTank hl hq) ml_X11_246 mv_X11_knownTank rfl ⟨le_ rfl, le_ rfl⟩ (rcX ok0 cf_X11 ent0) rfl (le_ rfl) ⟨le_ rfl, le_ rfl⟩ dX11_bottle_2 (le_ rfl) (le_ rfl)
  · obtain ⟨r1, h1, hf⟩ := bn1_e hf
    obtain ⟨g1, hf⟩ := gd_e hf
    refine j_invV [] [.ref (z + aX 26 1 r1)] E (c_X11_knownTank h1) ml_X11_246 mv_X11_knownTank rfl ⟨le_ rfl, le_ rfl⟩ (rcX ok0 cf_X11 ent0) rfl rfl (le_ rfl) ⟨le_ rfl, le_ rfl⟩ dX11_bottle_2 ?_
    refine j_astore_n (ls' := [(3, .ref (z + aX 26 1 r1)), (0, .ref (z + aX 0 0 0)), (1, .int v1), (2, .int v2)]) E (lt_ rfl) rfl dX11_bottle_5 ?_
    refine j_iload_n E 3 rfl dX11_bottle_6 ?_
    rcases orE_e hf with hq | hf
    · exact j_propS [] E hex (tc_X11_needBottles hl hq) ml_X11_346 ms_X11_needBottles rfl ⟨le_ rfl, le_ rfl⟩ rfl (le_ rfl) ⟨le_ rfl, le_ rfl⟩ dX11_bottle_7 (le_ rfl) (le_ rfl)
    · obtain ⟨_, h2, hf⟩ := bn1_e hf
      refine j_invS [] [] E (c_X11_needBottles h2) ml_X11_346 ms_X11_needBottles rfl ⟨le_ rfl, le_ rfl⟩ rfl rfl (le_ rfl) ⟨le_ rfl, le_ rfl⟩ dX11_bottle_7 ?_
      refine j_aload_n E 1 rfl dX11_bottle_10 ?_
      refine j_get (f := 1) E ok0 cf_X11 fl_X11_19 (lt_ rfl) rfl ent0 rfl dX11_bottle_11 ?_
      refine j_getN (f := 3) E (okb10 jl1) cf_X0 fl_X11_143 (lt_ rfl) rfl ent10 rfl dX11_bottle_14 ?_
      refine j_aload_n E 0 rfl dX11_bottle_17 ?_
      refine j_iload_n E 3 rfl dX11_bottle_18 ?_
      obtain ⟨r2, h3, hf⟩ := bn1_e hf
      refine j_invV [] [.int r2] E (c_X2_canFillLot jl1 jl1 g1 h3) ml_X11_349 mv_X2_canFillLot rfl ⟨le_ rfl, le_ rfl⟩ (rcX (okb23 jl1) cf_X2 ent23) rfl rfl (le_ rfl) ⟨le_ rfl, le_ rfl⟩ dX11_bottle_19 ?_
      refine j_if_ne E 36 (by decide) dX11_bottle_22 (fun c1 => ?_) (fun c1 => ?_)
      · rw [if_neg c1] at hf
        refine j_aload_n E 1 rfl dX11_bottle_36 ?_
        refine j_get (f := 2) E ok0 cf_X11 fl_X11_26 (lt_ rfl) rfl ent0 rfl dX11_bottle_37 ?_
        refine j_aload_n E 1 rfl dX11_bottle_40 ?_
        refine j_get (f := 1) E ok0 cf_X11 fl_X11_19 (lt_ rfl) rfl ent0 rfl dX11_bottle_41 ?_
        obtain ⟨X1, h4, hf⟩ := bn1_e hf
        refine j_invV [] [] E (c_X4_note jl1 h4) ml_X11_101 mv_X4_note rfl ⟨le_ rfl, le_ rfl⟩ (rcX ok4 cf_X4 ent4) rfl rfl (le_ rfl) ⟨le_ rfl, le_ rfl⟩ dX11_bottle_44 ?_
        refine j_aload_n E 1 rfl dX11_bottle_47 ?_
        refine j_get (f := 1) E ok0 cf_X11 fl_X11_19 (lt_ rfl) rfl ent0 rfl dX11_bottle_48 ?_
        refine j_getN (f := 3) E (okb10 jl1) cf_X0 fl_X11_143 (lt_ rfl) rfl ent10 rfl dX11_bottle_51 ?_
        refine j_aload_n E 0 rfl dX11_bottle_54 ?_
        refine j_iload_n E 3 rfl dX11_bottle_55 ?_
        obtain ⟨r3, X2, h5, hf⟩ := bn2_e hf
        refine j_invV [] [.int r3] E (c_X2_fillLot jl1 jl1 g1 h5) ml_X11_355 mv_X2_fillLot rfl ⟨le_ rfl, le_ rfl⟩ (rcX (okb23 jl1) cf_X2 ent23) rfl rfl (le_ rfl) ⟨le_ rfl, le_ rfl⟩ dX11_bottle_56 ?_
        exact none_e hf
      · rw [if_pos c1] at hf
        cases hf
        exact j_throwW (ex := "java/lang/IllegalStateException") E hl hex tw_0 sl_X11_353 gg_grow dX11_bottle_25 dX11_bottle_28 dX11_bottle_29 dX11_bottle_32 dX11_bottle_35 (lt_ rfl) (le_ rfl) (le_ rfl) (le_ rfl) (le_ rfl) (le_ rfl)
def t_X11_knownLot (X : XT) (v1 : Int32) : Option Nat :=
  if v1 < 0 then (some 2) else (if v1 < (X 23 1 0 3) then (gd (¬ (v1 < 0 ∨ 12 ≤ v1.toNatClampNeg)) (none)) else (some 2))
set_option maxRecDepth 20000 in
theorem tc_X11_knownLot {l : Launch} (hl : l.stackTraces = false) {D : DD} {z : Nat} {Y : YT} {X : XT} {v1 : Int32} {e0 : Nat} (hf : t_X11_knownLot X v1 = some e0) : CT l yX11_knownLot cX11_knownLot 2 (some (.object "WineCooperative$Lot")) (rmk 6 1 6) D z [.ref (z + aX 0 0 0), .int v1] (GG D z (X, Y)) (exN e0) (GG D z (X, Y)) := by
  unfold t_X11_knownLot at hf
  refine ct_of pn_X11 (le_ rfl) (ls := [(0, .ref (z + aX 0 0 0)), (1, .int v1)]) rfl ?_
  intro p e s m args below meth c E hex
  refine j_iload_n E 1 rfl dX11_knownLot_0 ?_
  refine j_if_lt E 18 (by decide) dX11_knownLot_1 (fun c1 => ?_) (fun c1 => ?_)
  · rw [if_pos c1] at hf
    cases hf
    exact j_throwW (ex := "java/lang/IndexOutOfBoundsException") E hl hex tw_2 sl_X11_450 gg_grow dX11_knownLot_18 dX11_knownLot_21 dX11_knownLot_22 dX11_knownLot_25 dX11_knownLot_28 (lt_ rfl) (le_ rfl) (le_ rfl) (le_ rfl) (le_ rfl) (le_ rfl)
  · rw [if_neg c1] at hf
    refine j_iload_n E 1 rfl dX11_knownLot_4 ?_
    refine j_aload_n E 0 rfl dX11_knownLot_5 ?_
    refine j_get (f := 1) E ok0 cf_X11 fl_X11_19 (lt_ rfl) rfl ent0 rfl dX11_knownLot_6 ?_
    refine j_getN (f := 3) E (okb10 jl1) cf_X0 fl_X11_143 (lt_ rfl) rfl ent10 rfl dX11_knownLot_9 ?_
    refine j_getN (f := 3) E (okb23 jl1) cf_X2 fl_X11_147 (lt_ rfl) rfl ent23 rfl dX11_knownLot_12 ?_
    refine j_icmp_lt E 29 (by decide) dX11_knownLot_15 (fun c2 => ?_) (fun c2 => ?_)
    · rw [if_pos c2] at hf
      refine j_aload_n E 0 rfl dX11_knownLot_29 ?_
      refine j_get (f := 1) E ok0 cf_X11 fl_X11_19 (lt_ rfl) rfl ent0 rfl dX11_knownLot_30 ?_
      refine j_getN (f := 3) E (okb10 jl1) cf_X0 fl_X11_143 (lt_ rfl) rfl ent10 rfl dX11_knownLot_33 ?_
      refine j_getN (f := 1) E (okb23 jl1) cf_X2 fl_X11_452 (lt_ rfl) rfl ent23 rfl dX11_knownLot_36 ?_
      refine j_iload_n E 1 rfl dX11_knownLot_39 ?_
      obtain ⟨g1, hf⟩ := gd_e hf
      refine j_aald (t := 6) E (okb25 jl1) ent25 rfl g1 dX11_knownLot_40 ?_
      exact none_e hf
    · rw [if_neg c2] at hf
      cases hf
      exact j_throwW (ex := "java/lang/IndexOutOfBoundsException") E hl hex tw_2 sl_X11_450 gg_grow dX11_knownLot_18 dX11_knownLot_21 dX11_knownLot_22 dX11_knownLot_25 dX11_knownLot_28 (lt_ rfl) (le_ rfl) (le_ rfl) (le_ rfl) (le_ rfl) (le_ rfl)
def t_X11_sell (X : XT) (v1 : Int32) (v2 : Int32) (v3 : Int32) : Option Nat :=
  orE (t_X11_knownLot X v1) (bn1 (f_X11_knownLot X v1) (fun r1 => gd (r1 < 12) (orE (t_X11_needBottles v2) (bn1 (f_X11_needBottles v2) (fun _ => if v3 < 1 then (some 1) else (if v3 ≤ 9999 then (bn1 (f_X0_canTrade X 1 1 r1 v2 v3) (fun r2 => if r2 = 0 then (some 0) else (bn1 (f_X4_note X 1) (fun X1 => bn1 (f_X0_trade X1 1 1 r1 v2 v3) (fun X2 => none))))) else (some 1)))))))
set_option maxRecDepth 20000 in
theorem tc_X11_sell {l : Launch} (hl : l.stackTraces = false) {D : DD} {z : Nat} {Y : YT} {X : XT} {v1 : Int32} {v2 : Int32} {v3 : Int32} {e0 : Nat} (hf : t_X11_sell X v1 v2 v3 = some e0) : CT l yX11_sell cX11_sell 5 (some .int) (rmk 7 1 6) D z [.ref (z + aX 0 0 0), .int v1, .int v2, .int v3] (GG D z (X, Y)) (exN e0) (GG D z (X, Y)) := by
  unfold t_X11_sell at hf
  refine ct_of pn_X11 (le_ rfl) (ls := [(0, .ref (z + aX 0 0 0)), (1, .int v1), (2, .int v2), (3, .int v3)]) rfl ?_
  intro p e s m args below meth c E hex
  refine j_aload_n E 0 rfl dX11_sell_0 ?_
  refine j_iload_n E 1 rfl dX11_sell_1 ?_
  rcases orE_e hf with hq | hf
  · exact j_propV [] E hex (tc_X11_knownLot hl hq) ml_X11_280 mv_X11_knownLot rfl ⟨le_ rfl, le_ rfl⟩ (rcX ok0 cf_X11 ent0) rfl (le_ rfl) ⟨le_ rfl, le_ rfl⟩ dX11_sell_2 (le_ rfl) (le_ rfl)
  · obtain ⟨r1, h1, hf⟩ := bn1_e hf
    obtain ⟨g1, hf⟩ := gd_e hf
    refine j_invV [] [.ref (z + aX 27 1 r1)] E (c_X11_knownLot h1) ml_X11_280 mv_X11_knownLot rfl ⟨le_ rfl, le_ rfl⟩ (rcX ok0 cf_X11 ent0) rfl rfl (le_ rfl) ⟨le_ rfl, le_ rfl⟩ dX11_sell_2 ?_
    refine j_astore (ls' := [(4, .ref (z + aX 27 1 r1)), (0, .ref (z + aX 0 0 0)), (1, .int v1), (2, .int v2), (3, .int v3)]) E (lt_ rfl) rfl dX11_sell_5 ?_
    refine j_iload_n E 3 rfl dX11_sell_7 ?_
    rcases orE_e hf with hq | hf
    · exact j_propS [] E hex (tc_X11_needBottles hl hq) ml_X11_346 ms_X11_needBottles rfl ⟨le_ rfl, le_ rfl⟩ rfl (le_ rfl) ⟨le_ rfl, le_ rfl⟩ dX11_sell_8 (le_ rfl) (le_ rfl)
    · obtain ⟨_, h2, hf⟩ := bn1_e hf
      refine j_invS [] [] E (c_X11_needBottles h2) ml_X11_346 ms_X11_needBottles rfl ⟨le_ rfl, le_ rfl⟩ rfl rfl (le_ rfl) ⟨le_ rfl, le_ rfl⟩ dX11_sell_8 ?_
      refine j_iload_n E 4 rfl dX11_sell_11 ?_
      refine j_iconst E 1 ic_1 dX11_sell_12 ?_
      refine j_icmp_lt E 23 (by decide) dX11_sell_13 (fun c1 => ?_) (fun c1 => ?_)
      · rw [if_pos c1] at hf
        cases hf
        exact j_throwW (ex := "java/lang/IllegalArgumentException") E hl hex tw_1 sl_X11_359 gg_grow dX11_sell_23 dX11_sell_26 dX11_sell_27 dX11_sell_30 dX11_sell_33 (lt_ rfl) (le_ rfl) (le_ rfl) (le_ rfl) (le_ rfl) (le_ rfl)
      · rw [if_neg c1] at hf
        refine j_iload_n E 4 rfl dX11_sell_16 ?_
        refine j_sipush E 9999 sp_9999 dX11_sell_17 ?_
        refine j_icmp_le E 34 (by decide) dX11_sell_20 (fun c2 => ?_) (fun c2 => ?_)
        · rw [if_pos c2] at hf
          refine j_aload_n E 1 rfl dX11_sell_34 ?_
          refine j_get (f := 1) E ok0 cf_X11 fl_X11_19 (lt_ rfl) rfl ent0 rfl dX11_sell_35 ?_
          refine j_aload E 0 rfl dX11_sell_38 ?_
          refine j_iload_n E 3 rfl dX11_sell_40 ?_
          refine j_iload_n E 4 rfl dX11_sell_41 ?_
          obtain ⟨r2, h3, hf⟩ := bn1_e hf
          refine j_invV [] [.int r2] E (c_X0_canTrade jl1 jl1 g1 h3) ml_X11_361 mv_X0_canTrade rfl ⟨le_ rfl, le_ rfl⟩ (rcX (okb10 jl1) cf_X0 ent10) rfl rfl (le_ rfl) ⟨le_ rfl, le_ rfl⟩ dX11_sell_42 ?_
          refine j_if_ne E 59 (by decide) dX11_sell_45 (fun c3 => ?_) (fun c3 => ?_)
          · rw [if_neg c3] at hf
            refine j_aload_n E 1 rfl dX11_sell_59 ?_
            refine j_get (f := 2) E ok0 cf_X11 fl_X11_26 (lt_ rfl) rfl ent0 rfl dX11_sell_60 ?_
            refine j_aload_n E 1 rfl dX11_sell_63 ?_
            refine j_get (f := 1) E ok0 cf_X11 fl_X11_19 (lt_ rfl) rfl ent0 rfl dX11_sell_64 ?_
            obtain ⟨X1, h4, hf⟩ := bn1_e hf
            refine j_invV [] [] E (c_X4_note jl1 h4) ml_X11_101 mv_X4_note rfl ⟨le_ rfl, le_ rfl⟩ (rcX ok4 cf_X4 ent4) rfl rfl (le_ rfl) ⟨le_ rfl, le_ rfl⟩ dX11_sell_67 ?_
            refine j_aload_n E 1 rfl dX11_sell_70 ?_
            refine j_get (f := 1) E ok0 cf_X11 fl_X11_19 (lt_ rfl) rfl ent0 rfl dX11_sell_71 ?_
            refine j_aload E 0 rfl dX11_sell_74 ?_
            refine j_iload_n E 3 rfl dX11_sell_76 ?_
            refine j_iload_n E 4 rfl dX11_sell_77 ?_
            obtain ⟨X2, h5, hf⟩ := bn1_e hf
            refine j_invV [] [] E (c_X0_trade jl1 jl1 g1 h5) ml_X11_367 mv_X0_trade rfl ⟨le_ rfl, le_ rfl⟩ (rcX (okb10 jl1) cf_X0 ent10) rfl rfl (le_ rfl) ⟨le_ rfl, le_ rfl⟩ dX11_sell_78 ?_
            refine j_aload_n E 1 rfl dX11_sell_81 ?_
            refine j_get (f := 1) E ok0 cf_X11 fl_X11_19 (lt_ rfl) rfl ent0 rfl dX11_sell_82 ?_
            refine j_getN (f := 6) E (okb10 jl1) cf_X0 fl_X11_300 (lt_ rfl) rfl ent10 rfl dX11_sell_85 ?_
            exact none_e hf
          · rw [if_pos c3] at hf
            cases hf
            exact j_throwW (ex := "java/lang/IllegalStateException") E hl hex tw_0 sl_X11_365 gg_grow dX11_sell_48 dX11_sell_51 dX11_sell_52 dX11_sell_55 dX11_sell_58 (lt_ rfl) (le_ rfl) (le_ rfl) (le_ rfl) (le_ rfl) (le_ rfl)
        · rw [if_neg c2] at hf
          cases hf
          exact j_throwW (ex := "java/lang/IllegalArgumentException") E hl hex tw_1 sl_X11_359 gg_grow dX11_sell_23 dX11_sell_26 dX11_sell_27 dX11_sell_30 dX11_sell_33 (lt_ rfl) (le_ rfl) (le_ rfl) (le_ rfl) (le_ rfl) (le_ rfl)
def t_X11_knownLoad (X : XT) (v1 : Int32) : Option Nat :=
  if v1 < 0 then (some 2) else (if v1 < (X 20 1 0 1) then (gd (¬ (v1 < 0 ∨ 20 ≤ v1.toNatClampNeg)) (none)) else (some 2))
set_option maxRecDepth 20000 in
theorem tc_X11_knownLoad {l : Launch} (hl : l.stackTraces = false) {D : DD} {z : Nat} {Y : YT} {X : XT} {v1 : Int32} {e0 : Nat} (hf : t_X11_knownLoad X v1 = some e0) : CT l yX11_knownLoad cX11_knownLoad 2 (some (.object "WineCooperative$Load")) (rmk 6 1 6) D z [.ref (z + aX 0 0 0), .int v1] (GG D z (X, Y)) (exN e0) (GG D z (X, Y)) := by
  unfold t_X11_knownLoad at hf
  refine ct_of pn_X11 (le_ rfl) (ls := [(0, .ref (z + aX 0 0 0)), (1, .int v1)]) rfl ?_
  intro p e s m args below meth c E hex
  refine j_iload_n E 1 rfl dX11_knownLoad_0 ?_
  refine j_if_lt E 18 (by decide) dX11_knownLoad_1 (fun c1 => ?_) (fun c1 => ?_)
  · rw [if_pos c1] at hf
    cases hf
    exact j_throwW (ex := "java/lang/IndexOutOfBoundsException") E hl hex tw_2 sl_X11_441 gg_grow dX11_knownLoad_18 dX11_knownLoad_21 dX11_knownLoad_22 dX11_knownLoad_25 dX11_knownLoad_28 (lt_ rfl) (le_ rfl) (le_ rfl) (le_ rfl) (le_ rfl) (le_ rfl)
  · rw [if_neg c1] at hf
    refine j_iload_n E 1 rfl dX11_knownLoad_4 ?_
    refine j_aload_n E 0 rfl dX11_knownLoad_5 ?_
    refine j_get (f := 1) E ok0 cf_X11 fl_X11_19 (lt_ rfl) rfl ent0 rfl dX11_knownLoad_6 ?_
    refine j_getN (f := 2) E (okb10 jl1) cf_X0 fl_X11_104 (lt_ rfl) rfl ent10 rfl dX11_knownLoad_9 ?_
    refine j_getN (f := 1) E (okb20 jl1) cf_X3 fl_X11_108 (lt_ rfl) rfl ent20 rfl dX11_knownLoad_12 ?_
    refine j_icmp_lt E 29 (by decide) dX11_knownLoad_15 (fun c2 => ?_) (fun c2 => ?_)
    · rw [if_pos c2] at hf
      refine j_aload_n E 0 rfl dX11_knownLoad_29 ?_
      refine j_get (f := 1) E ok0 cf_X11 fl_X11_19 (lt_ rfl) rfl ent0 rfl dX11_knownLoad_30 ?_
      refine j_getN (f := 2) E (okb10 jl1) cf_X0 fl_X11_104 (lt_ rfl) rfl ent10 rfl dX11_knownLoad_33 ?_
      refine j_getN (f := 0) E (okb20 jl1) cf_X3 fl_X11_444 (lt_ rfl) rfl ent20 rfl dX11_knownLoad_36 ?_
      refine j_iload_n E 1 rfl dX11_knownLoad_39 ?_
      obtain ⟨g1, hf⟩ := gd_e hf
      refine j_aald (t := 4) E (okb21 jl1) ent21 rfl g1 dX11_knownLoad_40 ?_
      exact none_e hf
    · rw [if_neg c2] at hf
      cases hf
      exact j_throwW (ex := "java/lang/IndexOutOfBoundsException") E hl hex tw_2 sl_X11_441 gg_grow dX11_knownLoad_18 dX11_knownLoad_21 dX11_knownLoad_22 dX11_knownLoad_25 dX11_knownLoad_28 (lt_ rfl) (le_ rfl) (le_ rfl) (le_ rfl) (le_ rfl) (le_ rfl)
def t_X11_payLoad (X : XT) (v1 : Int32) : Option Nat :=
  orE (t_X11_knownLoad X v1) (bn1 (f_X11_knownLoad X v1) (fun r1 => gd (r1 < 20) (bn1 (f_X0_centsOf X 1 1 r1) (fun r2 => if (X 22 1 r1 7) = 0 then (if r2 ≤ (X 10 1 0 6) then (bn1 (f_X4_note X 1) (fun X1 => bn2 (f_X0_settle X1 1 1 r1 r2) (fun r3 X2 => none))) else (some 0)) else (some 0)))))
set_option maxRecDepth 20000 in
theorem tc_X11_payLoad {l : Launch} (hl : l.stackTraces = false) {D : DD} {z : Nat} {Y : YT} {X : XT} {v1 : Int32} {e0 : Nat} (hf : t_X11_payLoad X v1 = some e0) : CT l yX11_payLoad cX11_payLoad 4 (some .int) (rmk 7 1 6) D z [.ref (z + aX 0 0 0), .int v1] (GG D z (X, Y)) (exN e0) (GG D z (X, Y)) := by
  unfold t_X11_payLoad at hf
  refine ct_of pn_X11 (le_ rfl) (ls := [(0, .ref (z + aX 0 0 0)), (1, .int v1)]) rfl ?_
  intro p e s m args below meth c E hex
  refine j_aload_n E 0 rfl dX11_payLoad_0 ?_
  refine j_iload_n E 1 rfl dX11_payLoad_1 ?_
  rcases orE_e hf with hq | hf
  · exact j_propV [] E hex (tc_X11_knownLoad hl hq) ml_X11_220 mv_X11_knownLoad rfl ⟨le_ rfl, le_ rfl⟩ (rcX ok0 cf_X11 ent0) rfl (le_ rfl) ⟨le_ rfl, le_ rfl⟩ dX11_payLoad_2 (le_ rfl) (le_ rfl)
  · obtain ⟨r1, h1, hf⟩ := bn1_e hf
    obtain ⟨g1, hf⟩ := gd_e hf
    refine j_invV [] [.ref (z + aX 22 1 r1)] E (c_X11_knownLoad h1) ml_X11_220 mv_X11_knownLoad rfl ⟨le_ rfl, le_ rfl⟩ (rcX ok0 cf_X11 ent0) rfl rfl (le_ rfl) ⟨le_ rfl, le_ rfl⟩ dX11_payLoad_2 ?_
    refine j_astore_n (ls' := [(2, .ref (z + aX 22 1 r1)), (0, .ref (z + aX 0 0 0)), (1, .int v1)]) E (lt_ rfl) rfl dX11_payLoad_5 ?_
    refine j_aload_n E 1 rfl dX11_payLoad_6 ?_
    refine j_get (f := 1) E ok0 cf_X11 fl_X11_19 (lt_ rfl) rfl ent0 rfl dX11_payLoad_7 ?_
    refine j_aload_n E 0 rfl dX11_payLoad_10 ?_
    obtain ⟨r2, h2, hf⟩ := bn1_e hf
    refine j_invV [] [.int r2] E (c_X0_centsOf jl1 jl1 g1 h2) ml_X11_235 mv_X0_centsOf rfl ⟨le_ rfl, le_ rfl⟩ (rcX (okb10 jl1) cf_X0 ent10) rfl rfl (le_ rfl) ⟨le_ rfl, le_ rfl⟩ dX11_payLoad_11 ?_
    refine j_istore_n (ls' := [(3, .int r2), (2, .ref (z + aX 22 1 r1)), (0, .ref (z + aX 0 0 0)), (1, .int v1)]) E (lt_ rfl) rfl dX11_payLoad_14 ?_
    refine j_aload_n E 1 rfl dX11_payLoad_15 ?_
    refine j_getN (f := 7) E (okb22 jl1 g1) cf_X6 fl_X11_239 (lt_ rfl) rfl ent22 rfl dX11_payLoad_16 ?_
    refine j_if_ne E 33 (by decide) dX11_payLoad_19 (fun c1 => ?_) (fun c1 => ?_)
    · rw [if_neg c1] at hf
      cases hf
      exact j_throwW (ex := "java/lang/IllegalStateException") E hl hex tw_0 sl_X11_371 gg_grow dX11_payLoad_33 dX11_payLoad_36 dX11_payLoad_37 dX11_payLoad_40 dX11_payLoad_43 (lt_ rfl) (le_ rfl) (le_ rfl) (le_ rfl) (le_ rfl) (le_ rfl)
    · rw [if_pos c1] at hf
      refine j_iload_n E 0 rfl dX11_payLoad_22 ?_
      refine j_aload_n E 2 rfl dX11_payLoad_23 ?_
      refine j_get (f := 1) E ok0 cf_X11 fl_X11_19 (lt_ rfl) rfl ent0 rfl dX11_payLoad_24 ?_
      refine j_getN (f := 6) E (okb10 jl1) cf_X0 fl_X11_300 (lt_ rfl) rfl ent10 rfl dX11_payLoad_27 ?_
      refine j_icmp_le E 44 (by decide) dX11_payLoad_30 (fun c2 => ?_) (fun c2 => ?_)
      · rw [if_pos c2] at hf
        refine j_aload_n E 2 rfl dX11_payLoad_44 ?_
        refine j_get (f := 2) E ok0 cf_X11 fl_X11_26 (lt_ rfl) rfl ent0 rfl dX11_payLoad_45 ?_
        refine j_aload_n E 2 rfl dX11_payLoad_48 ?_
        refine j_get (f := 1) E ok0 cf_X11 fl_X11_19 (lt_ rfl) rfl ent0 rfl dX11_payLoad_49 ?_
        obtain ⟨X1, h3, hf⟩ := bn1_e hf
        refine j_invV [] [] E (c_X4_note jl1 h3) ml_X11_101 mv_X4_note rfl ⟨le_ rfl, le_ rfl⟩ (rcX ok4 cf_X4 ent4) rfl rfl (le_ rfl) ⟨le_ rfl, le_ rfl⟩ dX11_payLoad_52 ?_
        refine j_aload_n E 2 rfl dX11_payLoad_55 ?_
        refine j_get (f := 1) E ok0 cf_X11 fl_X11_19 (lt_ rfl) rfl ent0 rfl dX11_payLoad_56 ?_
        refine j_aload_n E 1 rfl dX11_payLoad_59 ?_
        refine j_iload_n E 0 rfl dX11_payLoad_60 ?_
        obtain ⟨r3, X2, h4, hf⟩ := bn2_e hf
        refine j_invV [] [.int r3] E (c_X0_settle jl1 jl1 g1 h4) ml_X11_373 mv_X0_settle rfl ⟨le_ rfl, le_ rfl⟩ (rcX (okb10 jl1) cf_X0 ent10) rfl rfl (le_ rfl) ⟨le_ rfl, le_ rfl⟩ dX11_payLoad_61 ?_
        exact none_e hf
      · rw [if_neg c2] at hf
        cases hf
        exact j_throwW (ex := "java/lang/IllegalStateException") E hl hex tw_0 sl_X11_371 gg_grow dX11_payLoad_33 dX11_payLoad_36 dX11_payLoad_37 dX11_payLoad_40 dX11_payLoad_43 (lt_ rfl) (le_ rfl) (le_ rfl) (le_ rfl) (le_ rfl) (le_ rfl)
def t_X11_needGrower (X : XT) (v1 : Int32) : Option Nat :=
  if v1 < 0 then (some 2) else (if v1 < (X 15 1 0 4) then (none) else (some 2))
set_option maxRecDepth 20000 in
theorem tc_X11_needGrower {l : Launch} (hl : l.stackTraces = false) {D : DD} {z : Nat} {Y : YT} {X : XT} {v1 : Int32} {e0 : Nat} (hf : t_X11_needGrower X v1 = some e0) : CT l yX11_needGrower cX11_needGrower 2 none (rmk 6 1 6) D z [.ref (z + aX 0 0 0), .int v1] (GG D z (X, Y)) (exN e0) (GG D z (X, Y)) := by
  unfold t_X11_needGrower at hf
  refine ct_of pn_X11 (le_ rfl) (ls := [(0, .ref (z + aX 0 0 0)), (1, .int v1)]) rfl ?_
  intro p e s m args below meth c E hex
  refine j_iload_n E 1 rfl dX11_needGrower_0 ?_
  refine j_if_lt E 18 (by decide) dX11_needGrower_1 (fun c1 => ?_) (fun c1 => ?_)
  · rw [if_pos c1] at hf
    cases hf
    exact j_throwW (ex := "java/lang/IndexOutOfBoundsException") E hl hex tw_2 sl_X11_466 gg_grow dX11_needGrower_18 dX11_needGrower_21 dX11_needGrower_22 dX11_needGrower_25 dX11_needGrower_28 (lt_ rfl) (le_ rfl) (le_ rfl) (le_ rfl) (le_ rfl) (le_ rfl)
  · rw [if_neg c1] at hf
    refine j_iload_n E 1 rfl dX11_needGrower_4 ?_
    refine j_aload_n E 0 rfl dX11_needGrower_5 ?_
    refine j_get (f := 1) E ok0 cf_X11 fl_X11_19 (lt_ rfl) rfl ent0 rfl dX11_needGrower_6 ?_
    refine j_getN (f := 1) E (okb10 jl1) cf_X0 fl_X11_131 (lt_ rfl) rfl ent10 rfl dX11_needGrower_9 ?_
    refine j_getN (f := 4) E (okb15 jl1) cf_X5 fl_X11_135 (lt_ rfl) rfl ent15 rfl dX11_needGrower_12 ?_
    refine j_icmp_lt E 29 (by decide) dX11_needGrower_15 (fun c2 => ?_) (fun c2 => ?_)
    · rw [if_pos c2] at hf
      exact none_e hf
    · rw [if_neg c2] at hf
      cases hf
      exact j_throwW (ex := "java/lang/IndexOutOfBoundsException") E hl hex tw_2 sl_X11_466 gg_grow dX11_needGrower_18 dX11_needGrower_21 dX11_needGrower_22 dX11_needGrower_25 dX11_needGrower_28 (lt_ rfl) (le_ rfl) (le_ rfl) (le_ rfl) (le_ rfl) (le_ rfl)
def t_X11_payGrower (X : XT) (v1 : Int32) : Option Nat :=
  orE (t_X11_needGrower X v1) (bn1 (f_X11_needGrower X v1) (fun _ => bn1 (f_X0_canSettleAll X 1 v1) (fun r1 => if r1 = 0 then (some 0) else (bn1 (f_X4_note X 1) (fun X1 => bn2 (f_X0_settleAll X1 1 v1) (fun r2 X2 => none))))))
set_option maxRecDepth 20000 in
theorem tc_X11_payGrower {l : Launch} (hl : l.stackTraces = false) {D : DD} {z : Nat} {Y : YT} {X : XT} {v1 : Int32} {e0 : Nat} (hf : t_X11_payGrower X v1 = some e0) : CT l yX11_payGrower cX11_payGrower 2 (some .int) (rmk 7 1 6) D z [.ref (z + aX 0 0 0), .int v1] (GG D z (X, Y)) (exN e0) (GG D z (X, Y)) := by
  unfold t_X11_payGrower at hf
  refine ct_of pn_X11 (le_ rfl) (ls := [(0, .ref (z + aX 0 0 0)), (1, .int v1)]) rfl ?_
  intro p e s m args below meth c E hex
  refine j_aload_n E 0 rfl dX11_payGrower_0 ?_
  refine j_iload_n E 1 rfl dX11_payGrower_1 ?_
  rcases orE_e hf with hq | hf
  · exact j_propV [] E hex (tc_X11_needGrower hl hq) ml_X11_187 mv_X11_needGrower rfl ⟨le_ rfl, le_ rfl⟩ (rcX ok0 cf_X11 ent0) rfl (le_ rfl) ⟨le_ rfl, le_ rfl⟩ dX11_payGrower_2 (le_ rfl) (le_ rfl)
  · obtain ⟨_, h1, hf⟩ := bn1_e hf
    refine j_invV [] [] E (c_X11_needGrower h1) ml_X11_187 mv_X11_needGrower rfl ⟨le_ rfl, le_ rfl⟩ (rcX ok0 cf_X11 ent0) rfl rfl (le_ rfl) ⟨le_ rfl, le_ rfl⟩ dX11_payGrower_2 ?_
    refine j_aload_n E 0 rfl dX11_payGrower_5 ?_
    refine j_get (f := 1) E ok0 cf_X11 fl_X11_19 (lt_ rfl) rfl ent0 rfl dX11_payGrower_6 ?_
    refine j_iload_n E 1 rfl dX11_payGrower_9 ?_
    obtain ⟨r1, h2, hf⟩ := bn1_e hf
    refine j_invV [] [.int r1] E (c_X0_canSettleAll jl1 h2) ml_X11_377 mv_X0_canSettleAll rfl ⟨le_ rfl, le_ rfl⟩ (rcX (okb10 jl1) cf_X0 ent10) rfl rfl (le_ rfl) ⟨le_ rfl, le_ rfl⟩ dX11_payGrower_10 ?_
    refine j_if_ne E 27 (by decide) dX11_payGrower_13 (fun c1 => ?_) (fun c1 => ?_)
    · rw [if_neg c1] at hf
      refine j_aload_n E 0 rfl dX11_payGrower_27 ?_
      refine j_get (f := 2) E ok0 cf_X11 fl_X11_26 (lt_ rfl) rfl ent0 rfl dX11_payGrower_28 ?_
      refine j_aload_n E 0 rfl dX11_payGrower_31 ?_
      refine j_get (f := 1) E ok0 cf_X11 fl_X11_19 (lt_ rfl) rfl ent0 rfl dX11_payGrower_32 ?_
      obtain ⟨X1, h3, hf⟩ := bn1_e hf
      refine j_invV [] [] E (c_X4_note jl1 h3) ml_X11_101 mv_X4_note rfl ⟨le_ rfl, le_ rfl⟩ (rcX ok4 cf_X4 ent4) rfl rfl (le_ rfl) ⟨le_ rfl, le_ rfl⟩ dX11_payGrower_35 ?_
      refine j_aload_n E 0 rfl dX11_payGrower_38 ?_
      refine j_get (f := 1) E ok0 cf_X11 fl_X11_19 (lt_ rfl) rfl ent0 rfl dX11_payGrower_39 ?_
      refine j_iload_n E 1 rfl dX11_payGrower_42 ?_
      obtain ⟨r2, X2, h4, hf⟩ := bn2_e hf
      refine j_invV [] [.int r2] E (c_X0_settleAll jl1 h4) ml_X11_382 mv_X0_settleAll rfl ⟨le_ rfl, le_ rfl⟩ (rcX (okb10 jl1) cf_X0 ent10) rfl rfl (le_ rfl) ⟨le_ rfl, le_ rfl⟩ dX11_payGrower_43 ?_
      exact none_e hf
    · rw [if_pos c1] at hf
      cases hf
      exact j_throwW (ex := "java/lang/IllegalStateException") E hl hex tw_0 sl_X11_380 gg_grow dX11_payGrower_16 dX11_payGrower_19 dX11_payGrower_20 dX11_payGrower_23 dX11_payGrower_26 (lt_ rfl) (le_ rfl) (le_ rfl) (le_ rfl) (le_ rfl) (le_ rfl)
def t_X11_pump (X : XT) (v1 : Int32) (v2 : Int32) : Option Nat :=
  orE (t_X11_knownTank X v1) (bn1 (f_X11_knownTank X v1) (fun r1 => gd (r1 < 5) (orE (t_X11_knownTank X v2) (bn1 (f_X11_knownTank X v2) (fun r2 => gd (r2 < 5) (if v1 = v2 then (some 1) else (bn1 (f_X9_canMoveTo X 1 r1 1 r2) (fun r3 => if r3 = 0 then (some 0) else (bn1 (f_X4_note X 1) (fun X1 => bn1 (f_X9_moveTo X1 1 r1 1 r2) (fun X2 => none)))))))))))
set_option maxRecDepth 20000 in
theorem tc_X11_pump {l : Launch} (hl : l.stackTraces = false) {D : DD} {z : Nat} {Y : YT} {X : XT} {v1 : Int32} {v2 : Int32} {e0 : Nat} (hf : t_X11_pump X v1 v2 = some e0) : CT l yX11_pump cX11_pump 5 (some .int) (rmk 7 1 6) D z [.ref (z + aX 0 0 0), .int v1, .int v2] (GG D z (X, Y)) (exN e0) (GG D z (X, Y)) := by
  unfold t_X11_pump at hf
  refine ct_of pn_X11 (le_ rfl) (ls := [(0, .ref (z + aX 0 0 0)), (1, .int v1), (2, .int v2)]) rfl ?_
  intro p e s m args below meth c E hex
  refine j_aload_n E 0 rfl dX11_pump_0 ?_
  refine j_iload_n E 1 rfl dX11_pump_1 ?_
  rcases orE_e hf with hq | hf
  · exact j_propV [] E hex (tc_X11_knownTank hl hq) ml_X11_246 mv_X11_knownTank rfl ⟨le_ rfl, le_ rfl⟩ (rcX ok0 cf_X11 ent0) rfl (le_ rfl) ⟨le_ rfl, le_ rfl⟩ dX11_pump_2 (le_ rfl) (le_ rfl)
  · obtain ⟨r1, h1, hf⟩ := bn1_e hf
    obtain ⟨g1, hf⟩ := gd_e hf
    refine j_invV [] [.ref (z + aX 26 1 r1)] E (c_X11_knownTank h1) ml_X11_246 mv_X11_knownTank rfl ⟨le_ rfl, le_ rfl⟩ (rcX ok0 cf_X11 ent0) rfl rfl (le_ rfl) ⟨le_ rfl, le_ rfl⟩ dX11_pump_2 ?_
    refine j_astore_n (ls' := [(3, .ref (z + aX 26 1 r1)), (0, .ref (z + aX 0 0 0)), (1, .int v1), (2, .int v2)]) E (lt_ rfl) rfl dX11_pump_5 ?_
    refine j_aload_n E 1 rfl dX11_pump_6 ?_
    refine j_iload_n E 3 rfl dX11_pump_7 ?_
    rcases orE_e hf with hq | hf
    · exact j_propV [] E hex (tc_X11_knownTank hl hq) ml_X11_246 mv_X11_knownTank rfl ⟨le_ rfl, le_ rfl⟩ (rcX ok0 cf_X11 ent0) rfl (le_ rfl) ⟨le_ rfl, le_ rfl⟩ dX11_pump_8 (le_ rfl) (le_ rfl)
    · obtain ⟨r2, h2, hf⟩ := bn1_e hf
      obtain ⟨g2, hf⟩ := gd_e hf
      refine j_invV [] [.ref (z + aX 26 1 r2)] E (c_X11_knownTank h2) ml_X11_246 mv_X11_knownTank rfl ⟨le_ rfl, le_ rfl⟩ (rcX ok0 cf_X11 ent0) rfl rfl (le_ rfl) ⟨le_ rfl, le_ rfl⟩ dX11_pump_8 ?_
      refine j_astore (ls' := [(4, .ref (z + aX 26 1 r2)), (3, .ref (z + aX 26 1 r1)), (0, .ref (z + aX 0 0 0)), (1, .int v1), (2, .int v2)]) E (lt_ rfl) rfl dX11_pump_11 ?_
      refine j_iload_n E 3 rfl dX11_pump_13 ?_
      refine j_iload_n E 4 rfl dX11_pump_14 ?_
      refine j_icmp_ne E 29 (by decide) dX11_pump_15 (fun c1 => ?_) (fun c1 => ?_)
      · rw [if_neg c1] at hf
        refine j_aload_n E 1 rfl dX11_pump_29 ?_
        refine j_aload E 0 rfl dX11_pump_30 ?_
        obtain ⟨r3, h3, hf⟩ := bn1_e hf
        refine j_invV [] [.int r3] E (c_X9_canMoveTo jl1 g1 jl1 g2 h3) ml_X11_387 mv_X9_canMoveTo rfl ⟨le_ rfl, le_ rfl⟩ (rcX (okb26 jl1 g1) cf_X9 ent26) rfl rfl (le_ rfl) ⟨le_ rfl, le_ rfl⟩ dX11_pump_32 ?_
        refine j_if_ne E 49 (by decide) dX11_pump_35 (fun c2 => ?_) (fun c2 => ?_)
        · rw [if_neg c2] at hf
          refine j_aload_n E 2 rfl dX11_pump_49 ?_
          refine j_get (f := 2) E ok0 cf_X11 fl_X11_26 (lt_ rfl) rfl ent0 rfl dX11_pump_50 ?_
          refine j_aload_n E 2 rfl dX11_pump_53 ?_
          refine j_get (f := 1) E ok0 cf_X11 fl_X11_19 (lt_ rfl) rfl ent0 rfl dX11_pump_54 ?_
          obtain ⟨X1, h4, hf⟩ := bn1_e hf
          refine j_invV [] [] E (c_X4_note jl1 h4) ml_X11_101 mv_X4_note rfl ⟨le_ rfl, le_ rfl⟩ (rcX ok4 cf_X4 ent4) rfl rfl (le_ rfl) ⟨le_ rfl, le_ rfl⟩ dX11_pump_57 ?_
          refine j_aload_n E 1 rfl dX11_pump_60 ?_
          refine j_aload E 0 rfl dX11_pump_61 ?_
          obtain ⟨X2, h5, hf⟩ := bn1_e hf
          refine j_invV [] [] E (c_X9_moveTo jl1 g1 jl1 g2 h5) ml_X11_393 mv_X9_moveTo rfl ⟨le_ rfl, le_ rfl⟩ (rcX (okb26 jl1 g1) cf_X9 ent26) rfl rfl (le_ rfl) ⟨le_ rfl, le_ rfl⟩ dX11_pump_63 ?_
          refine j_aload E 0 rfl dX11_pump_66 ?_
          refine j_getN (f := 1) E (okb26 jl1 g2) cf_X9 fl_X11_250 (lt_ rfl) rfl ent26 rfl dX11_pump_68 ?_
          exact none_e hf
        · rw [if_pos c2] at hf
          cases hf
          exact j_throwW (ex := "java/lang/IllegalStateException") E hl hex tw_0 sl_X11_391 gg_grow dX11_pump_38 dX11_pump_41 dX11_pump_42 dX11_pump_45 dX11_pump_48 (lt_ rfl) (le_ rfl) (le_ rfl) (le_ rfl) (le_ rfl) (le_ rfl)
      · rw [if_pos c1] at hf
        cases hf
        exact j_throwW (ex := "java/lang/IllegalArgumentException") E hl hex tw_1 sl_X11_385 gg_grow dX11_pump_18 dX11_pump_21 dX11_pump_22 dX11_pump_25 dX11_pump_28 (lt_ rfl) (le_ rfl) (le_ rfl) (le_ rfl) (le_ rfl) (le_ rfl)
