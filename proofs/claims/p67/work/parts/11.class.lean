def f_X4_note (X : XT) (j1 : Nat) : Option XT :=
  gd (¬ ((X 4 0 0 1) < 0 ∨ 6 ≤ (X 4 0 0 1).toNatClampNeg)) (bn1 (f_X0_copyFrom X (2 + (X 4 0 0 1).toNatClampNeg) j1) (fun X1 => bnd (xs X1 4 0 0 1 (((X1 4 0 0 1) + 1) - ((X1 4 0 0 1) + 1) / 6 * 6)) (fun X2 => bnd (xs X2 4 0 0 2 (if 6 < ((X2 4 0 0 2) + 1) then 6 else ((X2 4 0 0 2) + 1))) (fun X3 => some X3))))
set_option maxRecDepth 20000 in
theorem c_X4_note {l : Launch} {D : DD} {z : Nat} {Y : YT} {X : XT} {j1 : Nat} (hj1 : j1 < 10) {X' : XT} (hf : f_X4_note X j1 = some X') : CC l yX4_note cX4_note 2 none (rmk 4 0 0) D z [.ref (z + aX 4 0 0), .ref (z + aX 10 j1 0)] (GG D z (X, Y)) none (GG D z (X', Y)) := by
  unfold f_X4_note at hf
  refine cc_of pn_X4 (le_ rfl) (ls := [(0, .ref (z + aX 4 0 0)), (1, .ref (z + aX 10 j1 0))]) rfl ?_
  intro p e s m args below meth c E
  refine j_aload_n E 0 rfl dX4_note_0 ?_
  refine j_get (f := 0) E ok4 cf_X4 fl_X4_11 (lt_ rfl) rfl ent4 rfl dX4_note_1 ?_
  refine j_aload_n E 0 rfl dX4_note_4 ?_
  refine j_get (f := 1) E ok4 cf_X4 fl_X4_18 (lt_ rfl) rfl ent4 rfl dX4_note_5 ?_
  obtain ⟨g1, hf⟩ := gd_e hf
  refine j_aald (t := 7) E ok5 ent5 rfl g1 dX4_note_8 ?_
  refine j_aload_n E 1 rfl dX4_note_9 ?_
  obtain ⟨X1, h1, hf⟩ := bn1_e hf
  refine j_invV [] [] E (c_X0_copyFrom (hb2 g1) hj1 h1) ml_X4_22 mv_X0_copyFrom rfl ⟨le_ rfl, le_ rfl⟩ (rcX (okb10 (hb2 g1)) cf_X0 ent10) rfl rfl (le_ rfl) ⟨le_ rfl, le_ rfl⟩ dX4_note_10 ?_
  refine j_aload_n E 0 rfl dX4_note_13 ?_
  refine j_aload_n E 0 rfl dX4_note_14 ?_
  refine j_get (f := 1) E ok4 cf_X4 fl_X4_18 (lt_ rfl) rfl ent4 rfl dX4_note_15 ?_
  refine j_iconst E 1 ic_1 dX4_note_18 ?_
  refine j_iadd E dX4_note_19 ?_
  refine j_bipush E 6 bp_6 dX4_note_20 ?_
  refine j_irem E (by decide) dX4_note_22 ?_
  obtain ⟨X2, hX2, hf⟩ := bnd_e hf
  refine j_put (f := 1) E ok4 cf_X4 fl_X4_18 (lt_ rfl) ⟨rfl, rfl⟩ (fit_i _) ent4 pe4_1 (lt_ rfl) hX2 dX4_note_23 ?_
  refine j_aload_n E 0 rfl dX4_note_26 ?_
  refine j_aload_n E 0 rfl dX4_note_27 ?_
  refine j_get (f := 2) E ok4 cf_X4 fl_X4_26 (lt_ rfl) rfl ent4 rfl dX4_note_28 ?_
  refine j_iconst E 1 ic_1 dX4_note_31 ?_
  refine j_iadd E dX4_note_32 ?_
  refine j_bipush E 6 bp_6 dX4_note_33 ?_
  refine j_min [.ref (z + aX 4 0 0)] E ml_X4_29 st_Lib_Math_min_name in_J9 cd_Lib_Math_min_name (le_ rfl) (le_ rfl) (le_ rfl) (le_ rfl) dX4_note_35 ?_
  obtain ⟨X3, hX3, hf⟩ := bnd_e hf
  refine j_put (f := 2) E ok4 cf_X4 fl_X4_26 (lt_ rfl) ⟨rfl, rfl⟩ (fit_i _) ent4 pe4_2 (lt_ rfl) hX3 dX4_note_38 ?_
  cases hf
  exact j_vret E (le_ rfl) (le_ rfl) dX4_note_41
def f_X4_bringBack (X : XT) (j1 : Nat) : Option XT :=
  bnd (xs X 4 0 0 1 ((((X 4 0 0 1) + 6) - 1) - (((X 4 0 0 1) + 6) - 1) / 6 * 6)) (fun X1 => bnd (xs X1 4 0 0 2 ((X1 4 0 0 2) - 1)) (fun X2 => gd (¬ ((X2 4 0 0 1) < 0 ∨ 6 ≤ (X2 4 0 0 1).toNatClampNeg)) (bn1 (f_X0_copyFrom X2 j1 (2 + (X2 4 0 0 1).toNatClampNeg)) (fun X3 => some X3))))
set_option maxRecDepth 20000 in
theorem c_X4_bringBack {l : Launch} {D : DD} {z : Nat} {Y : YT} {X : XT} {j1 : Nat} (hj1 : j1 < 10) {X' : XT} (hf : f_X4_bringBack X j1 = some X') : CC l yX4_bringBack cX4_bringBack 2 none (rmk 4 0 0) D z [.ref (z + aX 4 0 0), .ref (z + aX 10 j1 0)] (GG D z (X, Y)) none (GG D z (X', Y)) := by
  unfold f_X4_bringBack at hf
  refine cc_of pn_X4 (le_ rfl) (ls := [(0, .ref (z + aX 4 0 0)), (1, .ref (z + aX 10 j1 0))]) rfl ?_
  intro p e s m args below meth c E
  refine j_aload_n E 0 rfl dX4_bringBack_0 ?_
  refine j_aload_n E 0 rfl dX4_bringBack_1 ?_
  refine j_get (f := 1) E ok4 cf_X4 fl_X4_18 (lt_ rfl) rfl ent4 rfl dX4_bringBack_2 ?_
  refine j_bipush E 6 bp_6 dX4_bringBack_5 ?_
  refine j_iadd E dX4_bringBack_7 ?_
  refine j_iconst E 1 ic_1 dX4_bringBack_8 ?_
  refine j_isub E dX4_bringBack_9 ?_
  refine j_bipush E 6 bp_6 dX4_bringBack_10 ?_
  refine j_irem E (by decide) dX4_bringBack_12 ?_
  obtain ⟨X1, hX1, hf⟩ := bnd_e hf
  refine j_put (f := 1) E ok4 cf_X4 fl_X4_18 (lt_ rfl) ⟨rfl, rfl⟩ (fit_i _) ent4 pe4_1 (lt_ rfl) hX1 dX4_bringBack_13 ?_
  refine j_aload_n E 0 rfl dX4_bringBack_16 ?_
  refine j_dup E rfl dX4_bringBack_17 ?_
  refine j_get (f := 2) E ok4 cf_X4 fl_X4_26 (lt_ rfl) rfl ent4 rfl dX4_bringBack_18 ?_
  refine j_iconst E 1 ic_1 dX4_bringBack_21 ?_
  refine j_isub E dX4_bringBack_22 ?_
  obtain ⟨X2, hX2, hf⟩ := bnd_e hf
  refine j_put (f := 2) E ok4 cf_X4 fl_X4_26 (lt_ rfl) ⟨rfl, rfl⟩ (fit_i _) ent4 pe4_2 (lt_ rfl) hX2 dX4_bringBack_23 ?_
  refine j_aload_n E 1 rfl dX4_bringBack_26 ?_
  refine j_aload_n E 0 rfl dX4_bringBack_27 ?_
  refine j_get (f := 0) E ok4 cf_X4 fl_X4_11 (lt_ rfl) rfl ent4 rfl dX4_bringBack_28 ?_
  refine j_aload_n E 0 rfl dX4_bringBack_31 ?_
  refine j_get (f := 1) E ok4 cf_X4 fl_X4_18 (lt_ rfl) rfl ent4 rfl dX4_bringBack_32 ?_
  obtain ⟨g1, hf⟩ := gd_e hf
  refine j_aald (t := 7) E ok5 ent5 rfl g1 dX4_bringBack_35 ?_
  obtain ⟨X3, h1, hf⟩ := bn1_e hf
  refine j_invV [] [] E (c_X0_copyFrom hj1 (hb2 g1) h1) ml_X4_22 mv_X0_copyFrom rfl ⟨le_ rfl, le_ rfl⟩ (rcX (okb10 hj1) cf_X0 ent10) rfl rfl (le_ rfl) ⟨le_ rfl, le_ rfl⟩ dX4_bringBack_36 ?_
  cases hf
  exact j_vret E (le_ rfl) (le_ rfl) dX4_bringBack_39
def f_X10_kindAt (X : XT) (v1 : Int32) : Option Int32 :=
  if v1 < 0 then (some 0) else (if v1 < (X 2 0 0 1) then (gd (¬ (v1 < 0 ∨ 600 ≤ v1.toNatClampNeg)) (if (X 3 0 0 v1.toNatClampNeg) < 97 then (if (X 3 0 0 v1.toNatClampNeg) < 48 then (if (X 3 0 0 v1.toNatClampNeg) = 59 then (some 4) else (if (X 3 0 0 v1.toNatClampNeg) = 32 then (some 1) else (if (X 3 0 0 v1.toNatClampNeg) = 10 then (some 1) else (some 5)))) else (if 57 < (X 3 0 0 v1.toNatClampNeg) then (if (X 3 0 0 v1.toNatClampNeg) = 59 then (some 4) else (if (X 3 0 0 v1.toNatClampNeg) = 32 then (some 1) else (if (X 3 0 0 v1.toNatClampNeg) = 10 then (some 1) else (some 5)))) else (some 3))) else (if 122 < (X 3 0 0 v1.toNatClampNeg) then (if (X 3 0 0 v1.toNatClampNeg) < 48 then (if (X 3 0 0 v1.toNatClampNeg) = 59 then (some 4) else (if (X 3 0 0 v1.toNatClampNeg) = 32 then (some 1) else (if (X 3 0 0 v1.toNatClampNeg) = 10 then (some 1) else (some 5)))) else (if 57 < (X 3 0 0 v1.toNatClampNeg) then (if (X 3 0 0 v1.toNatClampNeg) = 59 then (some 4) else (if (X 3 0 0 v1.toNatClampNeg) = 32 then (some 1) else (if (X 3 0 0 v1.toNatClampNeg) = 10 then (some 1) else (some 5)))) else (some 3))) else (some 2)))) else (some 0))
set_option maxRecDepth 20000 in
theorem c_X10_kindAt {l : Launch} {D : DD} {z : Nat} {Y : YT} {X : XT} {v1 : Int32} {r : Int32} (hf : f_X10_kindAt X v1 = some r) : CC l yX10_kindAt cX10_kindAt 3 (some .int) (rmk 1 0 0) D z [.ref (z + aX 2 0 0), .int v1] (GG D z (X, Y)) (some (.int r)) (GG D z (X, Y)) := by
  unfold f_X10_kindAt at hf
  refine cc_of pn_X10 (le_ rfl) (ls := [(0, .ref (z + aX 2 0 0)), (1, .int v1)]) rfl ?_
  intro p e s m args below meth c E
  refine j_iload_n E 1 rfl dX10_kindAt_0 ?_
  refine j_if_lt E 12 (by decide) dX10_kindAt_1 (fun c1 => ?_) (fun c1 => ?_)
  · rw [if_pos c1] at hf
    refine j_iconst E 0 ic_0 dX10_kindAt_12 ?_
    cases hf
    exact j_iret E rfl (le_ rfl) (le_ rfl) dX10_kindAt_13
  · rw [if_neg c1] at hf
    refine j_iload_n E 1 rfl dX10_kindAt_4 ?_
    refine j_aload_n E 0 rfl dX10_kindAt_5 ?_
    refine j_get (f := 1) E ok2 cf_X10 fl_X10_15 (lt_ rfl) rfl ent2 rfl dX10_kindAt_6 ?_
    refine j_icmp_lt E 14 (by decide) dX10_kindAt_9 (fun c2 => ?_) (fun c2 => ?_)
    · rw [if_pos c2] at hf
      refine j_aload_n E 0 rfl dX10_kindAt_14 ?_
      refine j_get (f := 0) E ok2 cf_X10 fl_X10_9 (lt_ rfl) rfl ent2 rfl dX10_kindAt_15 ?_
      refine j_iload_n E 1 rfl dX10_kindAt_18 ?_
      obtain ⟨g1, hf⟩ := gd_e hf
      refine j_bald E ok3 ent3 g1 (v1.toNatClampNeg) rfl dX10_kindAt_19 ?_
      refine j_istore_n (ls' := [(2, .int (X 3 0 0 v1.toNatClampNeg)), (0, .ref (z + aX 2 0 0)), (1, .int v1)]) E (lt_ rfl) rfl dX10_kindAt_20 ?_
      refine j_iload_n E 0 rfl dX10_kindAt_21 ?_
      refine j_bipush E 97 bp_97 dX10_kindAt_22 ?_
      refine j_icmp_lt E 35 (by decide) dX10_kindAt_24 (fun c3 => ?_) (fun c3 => ?_)
      · rw [if_pos c3] at hf
        refine j_iload_n E 0 rfl dX10_kindAt_35 ?_
        refine j_bipush E 48 bp_48 dX10_kindAt_36 ?_
        refine j_icmp_lt E 49 (by decide) dX10_kindAt_38 (fun c4 => ?_) (fun c4 => ?_)
        · rw [if_pos c4] at hf
          refine j_iload_n E 0 rfl dX10_kindAt_49 ?_
          refine j_bipush E 59 bp_59 dX10_kindAt_50 ?_
          refine j_icmp_ne E 57 (by decide) dX10_kindAt_52 (fun c5 => ?_) (fun c5 => ?_)
          · rw [if_neg c5] at hf
            refine j_iload_n E 0 rfl dX10_kindAt_57 ?_
            refine j_bipush E 32 bp_32 dX10_kindAt_58 ?_
            refine j_icmp_eq E 69 (by decide) dX10_kindAt_60 (fun c6 => ?_) (fun c6 => ?_)
            · rw [if_pos c6] at hf
              refine j_iconst E 1 ic_1 dX10_kindAt_69 ?_
              refine j_goto E 74 (by decide) dX10_kindAt_70 ?_
              cases hf
              exact j_iret E rfl (le_ rfl) (le_ rfl) dX10_kindAt_74
            · rw [if_neg c6] at hf
              refine j_iload_n E 0 rfl dX10_kindAt_63 ?_
              refine j_bipush E 10 bp_10 dX10_kindAt_64 ?_
              refine j_icmp_ne E 73 (by decide) dX10_kindAt_66 (fun c7 => ?_) (fun c7 => ?_)
              · rw [if_neg c7] at hf
                refine j_iconst E 5 ic_5 dX10_kindAt_73 ?_
                cases hf
                exact j_iret E rfl (le_ rfl) (le_ rfl) dX10_kindAt_74
              · rw [if_pos c7] at hf
                refine j_iconst E 1 ic_1 dX10_kindAt_69 ?_
                refine j_goto E 74 (by decide) dX10_kindAt_70 ?_
                cases hf
                exact j_iret E rfl (le_ rfl) (le_ rfl) dX10_kindAt_74
          · rw [if_pos c5] at hf
            refine j_iconst E 4 ic_4 dX10_kindAt_55 ?_
            cases hf
            exact j_iret E rfl (le_ rfl) (le_ rfl) dX10_kindAt_56
        · rw [if_neg c4] at hf
          refine j_iload_n E 0 rfl dX10_kindAt_41 ?_
          refine j_bipush E 57 bp_57 dX10_kindAt_42 ?_
          refine j_icmp_gt E 49 (by decide) dX10_kindAt_44 (fun c8 => ?_) (fun c8 => ?_)
          · rw [if_pos c8] at hf
            refine j_iload_n E 0 rfl dX10_kindAt_49 ?_
            refine j_bipush E 59 bp_59 dX10_kindAt_50 ?_
            refine j_icmp_ne E 57 (by decide) dX10_kindAt_52 (fun c9 => ?_) (fun c9 => ?_)
            · rw [if_neg c9] at hf
              refine j_iload_n E 0 rfl dX10_kindAt_57 ?_
              refine j_bipush E 32 bp_32 dX10_kindAt_58 ?_
              refine j_icmp_eq E 69 (by decide) dX10_kindAt_60 (fun c10 => ?_) (fun c10 => ?_)
              · rw [if_pos c10] at hf
                refine j_iconst E 1 ic_1 dX10_kindAt_69 ?_
                refine j_goto E 74 (by decide) dX10_kindAt_70 ?_
                cases hf
                exact j_iret E rfl (le_ rfl) (le_ rfl) dX10_kindAt_74
              · rw [if_neg c10] at hf
                refine j_iload_n E 0 rfl dX10_kindAt_63 ?_
                refine j_bipush E 10 bp_10 dX10_kindAt_64 ?_
                refine j_icmp_ne E 73 (by decide) dX10_kindAt_66 (fun c11 => ?_) (fun c11 => ?_)
                · rw [if_neg c11] at hf
                  refine j_iconst E 5 ic_5 dX10_kindAt_73 ?_
                  cases hf
                  exact j_iret E rfl (le_ rfl) (le_ rfl) dX10_kindAt_74
                · rw [if_pos c11] at hf
                  refine j_iconst E 1 ic_1 dX10_kindAt_69 ?_
                  refine j_goto E 74 (by decide) dX10_kindAt_70 ?_
                  cases hf
                  exact j_iret E rfl (le_ rfl) (le_ rfl) dX10_kindAt_74
            · rw [if_pos c9] at hf
              refine j_iconst E 4 ic_4 dX10_kindAt_55 ?_
              cases hf
              exact j_iret E rfl (le_ rfl) (le_ rfl) dX10_kindAt_56
          · rw [if_neg c8] at hf
            refine j_iconst E 3 ic_3 dX10_kindAt_47 ?_
            cases hf
            exact j_iret E rfl (le_ rfl) (le_ rfl) dX10_kindAt_48
      · rw [if_neg c3] at hf
        refine j_iload_n E 0 rfl dX10_kindAt_27 ?_
        refine j_bipush E 122 bp_122 dX10_kindAt_28 ?_
        refine j_icmp_gt E 35 (by decide) dX10_kindAt_30 (fun c12 => ?_) (fun c12 => ?_)
        · rw [if_pos c12] at hf
          refine j_iload_n E 0 rfl dX10_kindAt_35 ?_
          refine j_bipush E 48 bp_48 dX10_kindAt_36 ?_
          refine j_icmp_lt E 49 (by decide) dX10_kindAt_38 (fun c13 => ?_) (fun c13 => ?_)
          · rw [if_pos c13] at hf
            refine j_iload_n E 0 rfl dX10_kindAt_49 ?_
            refine j_bipush E 59 bp_59 dX10_kindAt_50 ?_
            refine j_icmp_ne E 57 (by decide) dX10_kindAt_52 (fun c14 => ?_) (fun c14 => ?_)
            · rw [if_neg c14] at hf
              refine j_iload_n E 0 rfl dX10_kindAt_57 ?_
              refine j_bipush E 32 bp_32 dX10_kindAt_58 ?_
              refine j_icmp_eq E 69 (by decide) dX10_kindAt_60 (fun c15 => ?_) (fun c15 => ?_)
              · rw [if_pos c15] at hf
                refine j_iconst E 1 ic_1 dX10_kindAt_69 ?_
                refine j_goto E 74 (by decide) dX10_kindAt_70 ?_
                cases hf
                exact j_iret E rfl (le_ rfl) (le_ rfl) dX10_kindAt_74
              · rw [if_neg c15] at hf
                refine j_iload_n E 0 rfl dX10_kindAt_63 ?_
                refine j_bipush E 10 bp_10 dX10_kindAt_64 ?_
                refine j_icmp_ne E 73 (by decide) dX10_kindAt_66 (fun c16 => ?_) (fun c16 => ?_)
                · rw [if_neg c16] at hf
                  refine j_iconst E 5 ic_5 dX10_kindAt_73 ?_
                  cases hf
                  exact j_iret E rfl (le_ rfl) (le_ rfl) dX10_kindAt_74
                · rw [if_pos c16] at hf
                  refine j_iconst E 1 ic_1 dX10_kindAt_69 ?_
                  refine j_goto E 74 (by decide) dX10_kindAt_70 ?_
                  cases hf
                  exact j_iret E rfl (le_ rfl) (le_ rfl) dX10_kindAt_74
            · rw [if_pos c14] at hf
              refine j_iconst E 4 ic_4 dX10_kindAt_55 ?_
              cases hf
              exact j_iret E rfl (le_ rfl) (le_ rfl) dX10_kindAt_56
          · rw [if_neg c13] at hf
            refine j_iload_n E 0 rfl dX10_kindAt_41 ?_
            refine j_bipush E 57 bp_57 dX10_kindAt_42 ?_
            refine j_icmp_gt E 49 (by decide) dX10_kindAt_44 (fun c17 => ?_) (fun c17 => ?_)
            · rw [if_pos c17] at hf
              refine j_iload_n E 0 rfl dX10_kindAt_49 ?_
              refine j_bipush E 59 bp_59 dX10_kindAt_50 ?_
              refine j_icmp_ne E 57 (by decide) dX10_kindAt_52 (fun c18 => ?_) (fun c18 => ?_)
              · rw [if_neg c18] at hf
                refine j_iload_n E 0 rfl dX10_kindAt_57 ?_
                refine j_bipush E 32 bp_32 dX10_kindAt_58 ?_
                refine j_icmp_eq E 69 (by decide) dX10_kindAt_60 (fun c19 => ?_) (fun c19 => ?_)
                · rw [if_pos c19] at hf
                  refine j_iconst E 1 ic_1 dX10_kindAt_69 ?_
                  refine j_goto E 74 (by decide) dX10_kindAt_70 ?_
                  cases hf
                  exact j_iret E rfl (le_ rfl) (le_ rfl) dX10_kindAt_74
                · rw [if_neg c19] at hf
                  refine j_iload_n E 0 rfl dX10_kindAt_63 ?_
                  refine j_bipush E 10 bp_10 dX10_kindAt_64 ?_
                  refine j_icmp_ne E 73 (by decide) dX10_kindAt_66 (fun c20 => ?_) (fun c20 => ?_)
                  · rw [if_neg c20] at hf
                    refine j_iconst E 5 ic_5 dX10_kindAt_73 ?_
                    cases hf
                    exact j_iret E rfl (le_ rfl) (le_ rfl) dX10_kindAt_74
                  · rw [if_pos c20] at hf
                    refine j_iconst E 1 ic_1 dX10_kindAt_69 ?_
                    refine j_goto E 74 (by decide) dX10_kindAt_70 ?_
                    cases hf
                    exact j_iret E rfl (le_ rfl) (le_ rfl) dX10_kindAt_74
              · rw [if_pos c18] at hf
                refine j_iconst E 4 ic_4 dX10_kindAt_55 ?_
                cases hf
                exact j_iret E rfl (le_ rfl) (le_ rfl) dX10_kindAt_56
            · rw [if_neg c17] at hf
              refine j_iconst E 3 ic_3 dX10_kindAt_47 ?_
              cases hf
              exact j_iret E rfl (le_ rfl) (le_ rfl) dX10_kindAt_48
        · rw [if_neg c12] at hf
          refine j_iconst E 2 ic_2 dX10_kindAt_33 ?_
          cases hf
          exact j_iret E rfl (le_ rfl) (le_ rfl) dX10_kindAt_34
    · rw [if_neg c2] at hf
      refine j_iconst E 0 ic_0 dX10_kindAt_12 ?_
      cases hf
      exact j_iret E rfl (le_ rfl) (le_ rfl) dX10_kindAt_13
def f_X10_isRun (X : XT) : Option Int32 :=
  if (X 2 0 0 2) = 2 then (some 1) else (if (X 2 0 0 2) = 3 then (some 1) else (some 0))
set_option maxRecDepth 20000 in
theorem c_X10_isRun {l : Launch} {D : DD} {z : Nat} {Y : YT} {X : XT} {r : Int32} (hf : f_X10_isRun X = some r) : CC l yX10_isRun cX10_isRun 1 (some .boolean) (rmk 1 0 0) D z [.ref (z + aX 2 0 0)] (GG D z (X, Y)) (some (.int r)) (GG D z (X, Y)) := by
  unfold f_X10_isRun at hf
  refine cc_of pn_X10 (le_ rfl) (ls := [(0, .ref (z + aX 2 0 0))]) rfl ?_
  intro p e s m args below meth c E
  refine j_aload_n E 0 rfl dX10_isRun_0 ?_
  refine j_get (f := 2) E ok2 cf_X10 fl_X10_45 (lt_ rfl) rfl ent2 rfl dX10_isRun_1 ?_
  refine j_iconst E 2 ic_2 dX10_isRun_4 ?_
  refine j_icmp_eq E 16 (by decide) dX10_isRun_5 (fun c1 => ?_) (fun c1 => ?_)
  · rw [if_pos c1] at hf
    refine j_iconst E 1 ic_1 dX10_isRun_16 ?_
    refine j_goto E 21 (by decide) dX10_isRun_17 ?_
    cases hf
    exact j_iret E rfl (le_ rfl) (le_ rfl) dX10_isRun_21
  · rw [if_neg c1] at hf
    refine j_aload_n E 0 rfl dX10_isRun_8 ?_
    refine j_get (f := 2) E ok2 cf_X10 fl_X10_45 (lt_ rfl) rfl ent2 rfl dX10_isRun_9 ?_
    refine j_iconst E 3 ic_3 dX10_isRun_12 ?_
    refine j_icmp_ne E 20 (by decide) dX10_isRun_13 (fun c2 => ?_) (fun c2 => ?_)
    · rw [if_neg c2] at hf
      refine j_iconst E 0 ic_0 dX10_isRun_20 ?_
      cases hf
      exact j_iret E rfl (le_ rfl) (le_ rfl) dX10_isRun_21
    · rw [if_pos c2] at hf
      refine j_iconst E 1 ic_1 dX10_isRun_16 ?_
      refine j_goto E 21 (by decide) dX10_isRun_17 ?_
      cases hf
      exact j_iret E rfl (le_ rfl) (le_ rfl) dX10_isRun_21
def f_X10_signAt (X : XT) (v1 : Int32) : Option Int32 :=
  if v1 < 0 then (some 0) else (if (X 2 0 0 1) ≤ v1 then (some 0) else (gd (¬ (v1 < 0 ∨ 600 ≤ v1.toNatClampNeg)) (some (X 3 0 0 v1.toNatClampNeg))))
set_option maxRecDepth 20000 in
theorem c_X10_signAt {l : Launch} {D : DD} {z : Nat} {Y : YT} {X : XT} {v1 : Int32} {r : Int32} (hf : f_X10_signAt X v1 = some r) : CC l yX10_signAt cX10_signAt 2 (some .int) (rmk 1 0 0) D z [.ref (z + aX 2 0 0), .int v1] (GG D z (X, Y)) (some (.int r)) (GG D z (X, Y)) := by
  unfold f_X10_signAt at hf
  refine cc_of pn_X10 (le_ rfl) (ls := [(0, .ref (z + aX 2 0 0)), (1, .int v1)]) rfl ?_
  intro p e s m args below meth c E
  refine j_iload_n E 1 rfl dX10_signAt_0 ?_
  refine j_if_lt E 21 (by decide) dX10_signAt_1 (fun c1 => ?_) (fun c1 => ?_)
  · rw [if_pos c1] at hf
    refine j_iconst E 0 ic_0 dX10_signAt_21 ?_
    cases hf
    exact j_iret E rfl (le_ rfl) (le_ rfl) dX10_signAt_22
  · rw [if_neg c1] at hf
    refine j_iload_n E 1 rfl dX10_signAt_4 ?_
    refine j_aload_n E 0 rfl dX10_signAt_5 ?_
    refine j_get (f := 1) E ok2 cf_X10 fl_X10_15 (lt_ rfl) rfl ent2 rfl dX10_signAt_6 ?_
    refine j_icmp_ge E 21 (by decide) dX10_signAt_9 (fun c2 => ?_) (fun c2 => ?_)
    · rw [if_pos c2] at hf
      refine j_iconst E 0 ic_0 dX10_signAt_21 ?_
      cases hf
      exact j_iret E rfl (le_ rfl) (le_ rfl) dX10_signAt_22
    · rw [if_neg c2] at hf
      refine j_aload_n E 0 rfl dX10_signAt_12 ?_
      refine j_get (f := 0) E ok2 cf_X10 fl_X10_9 (lt_ rfl) rfl ent2 rfl dX10_signAt_13 ?_
      refine j_iload_n E 1 rfl dX10_signAt_16 ?_
      obtain ⟨g1, hf⟩ := gd_e hf
      refine j_bald E ok3 ent3 g1 (v1.toNatClampNeg) rfl dX10_signAt_17 ?_
      refine j_goto E 22 (by decide) dX10_signAt_18 ?_
      cases hf
      exact j_iret E rfl (le_ rfl) (le_ rfl) dX10_signAt_22
def f_X10_takeSign (X : XT) (v1 : Int32) : Option XT :=
  if (X 2 0 0 2) = 2 then (bnd (xs X 2 0 0 6 (((((X 2 0 0 6) <<< (5 &&& 31)) + v1) - 97) + 1)) (fun X2 => some X2)) else (if (X 2 0 0 2) = 3 then (if 1000000 ≤ (X 2 0 0 5) then (some X) else (bnd (xs X 2 0 0 5 (((10 * (X 2 0 0 5)) + v1) - 48)) (fun X1 => some X1))) else (some X))
set_option maxRecDepth 20000 in
theorem c_X10_takeSign {l : Launch} {D : DD} {z : Nat} {Y : YT} {X : XT} {v1 : Int32} {X' : XT} (hf : f_X10_takeSign X v1 = some X') : CC l yX10_takeSign cX10_takeSign 2 none (rmk 1 0 0) D z [.ref (z + aX 2 0 0), .int v1] (GG D z (X, Y)) none (GG D z (X', Y)) := by
  unfold f_X10_takeSign at hf
  refine cc_of pn_X10 (le_ rfl) (ls := [(0, .ref (z + aX 2 0 0)), (1, .int v1)]) rfl ?_
  intro p e s m args below meth c E
  refine j_aload_n E 0 rfl dX10_takeSign_0 ?_
  refine j_get (f := 2) E ok2 cf_X10 fl_X10_45 (lt_ rfl) rfl ent2 rfl dX10_takeSign_1 ?_
  refine j_iconst E 2 ic_2 dX10_takeSign_4 ?_
  refine j_icmp_ne E 28 (by decide) dX10_takeSign_5 (fun c1 => ?_) (fun c1 => ?_)
  · rw [if_neg c1] at hf
    refine j_aload_n E 0 rfl dX10_takeSign_28 ?_
    refine j_get (f := 2) E ok2 cf_X10 fl_X10_45 (lt_ rfl) rfl ent2 rfl dX10_takeSign_29 ?_
    refine j_iconst E 3 ic_3 dX10_takeSign_32 ?_
    refine j_icmp_ne E 61 (by decide) dX10_takeSign_33 (fun c2 => ?_) (fun c2 => ?_)
    · rw [if_neg c2] at hf
      cases hf
      exact j_vret E (le_ rfl) (le_ rfl) dX10_takeSign_61
    · rw [if_pos c2] at hf
      refine j_aload_n E 0 rfl dX10_takeSign_36 ?_
      refine j_get (f := 5) E ok2 cf_X10 fl_X10_51 (lt_ rfl) rfl ent2 rfl dX10_takeSign_37 ?_
      refine j_ldc E ct_X10_64 dX10_takeSign_40 ?_
      refine j_icmp_ge E 61 (by decide) dX10_takeSign_42 (fun c3 => ?_) (fun c3 => ?_)
      · rw [if_pos c3] at hf
        cases hf
        exact j_vret E (le_ rfl) (le_ rfl) dX10_takeSign_61
      · rw [if_neg c3] at hf
        refine j_aload_n E 0 rfl dX10_takeSign_45 ?_
        refine j_bipush E 10 bp_10 dX10_takeSign_46 ?_
        refine j_aload_n E 0 rfl dX10_takeSign_48 ?_
        refine j_get (f := 5) E ok2 cf_X10 fl_X10_51 (lt_ rfl) rfl ent2 rfl dX10_takeSign_49 ?_
        refine j_imul E dX10_takeSign_52 ?_
        refine j_iload_n E 1 rfl dX10_takeSign_53 ?_
        refine j_iadd E dX10_takeSign_54 ?_
        refine j_bipush E 48 bp_48 dX10_takeSign_55 ?_
        refine j_isub E dX10_takeSign_57 ?_
        obtain ⟨X1, hX1, hf⟩ := bnd_e hf
        refine j_put (f := 5) E ok2 cf_X10 fl_X10_51 (lt_ rfl) ⟨rfl, rfl⟩ (fit_i _) ent2 pe2_5 (lt_ rfl) hX1 dX10_takeSign_58 ?_
        cases hf
        exact j_vret E (le_ rfl) (le_ rfl) dX10_takeSign_61
  · rw [if_pos c1] at hf
    refine j_aload_n E 0 rfl dX10_takeSign_8 ?_
    refine j_aload_n E 0 rfl dX10_takeSign_9 ?_
    refine j_get (f := 6) E ok2 cf_X10 fl_X10_48 (lt_ rfl) rfl ent2 rfl dX10_takeSign_10 ?_
    refine j_iconst E 5 ic_5 dX10_takeSign_13 ?_
    refine j_ishl E dX10_takeSign_14 ?_
    refine j_iload_n E 1 rfl dX10_takeSign_15 ?_
    refine j_iadd E dX10_takeSign_16 ?_
    refine j_bipush E 97 bp_97 dX10_takeSign_17 ?_
    refine j_isub E dX10_takeSign_19 ?_
    refine j_iconst E 1 ic_1 dX10_takeSign_20 ?_
    refine j_iadd E dX10_takeSign_21 ?_
    obtain ⟨X2, hX2, hf⟩ := bnd_e hf
    refine j_put (f := 6) E ok2 cf_X10 fl_X10_48 (lt_ rfl) ⟨rfl, rfl⟩ (fit_i _) ent2 pe2_6 (lt_ rfl) hX2 dX10_takeSign_22 ?_
    refine j_goto E 61 (by decide) dX10_takeSign_25 ?_
    cases hf
    exact j_vret E (le_ rfl) (le_ rfl) dX10_takeSign_61
def f_X10_toNext_74 : Nat → XT → Option XT
  | 0, _ => none
  | n + 1, X => if (X 2 0 0 1) ≤ (X 2 0 0 4) then (if ((X 2 0 0 4) - (X 2 0 0 3)) ≤ 4 then (some X) else (bnd (xs X 2 0 0 6 0) (fun X1 => some X1))) else (bn1 (f_X10_kindAt X (X 2 0 0 4)) (fun r1 => if r1 = (X 2 0 0 2) then (if (X 2 0 0 4) = (X 2 0 0 3) then (bn1 (f_X10_signAt X (X 2 0 0 4)) (fun r2 => bn1 (f_X10_takeSign X r2) (fun X3 => bnd (xs X3 2 0 0 4 ((X3 2 0 0 4) + 1)) (fun X4 => f_X10_toNext_74 n X4)))) else (bn1 (f_X10_isRun X) (fun r3 => if r3 = 0 then (if ((X 2 0 0 4) - (X 2 0 0 3)) ≤ 4 then (some X) else (bnd (xs X 2 0 0 6 0) (fun X5 => some X5))) else (bn1 (f_X10_signAt X (X 2 0 0 4)) (fun r4 => bn1 (f_X10_takeSign X r4) (fun X6 => bnd (xs X6 2 0 0 4 ((X6 2 0 0 4) + 1)) (fun X7 => f_X10_toNext_74 n X7))))))) else (if ((X 2 0 0 4) - (X 2 0 0 3)) ≤ 4 then (some X) else (bnd (xs X 2 0 0 6 0) (fun X2 => some X2)))))
def f_X10_toNext_8 : Nat → XT → Option XT
  | 0, _ => none
  | n + 1, X => if (X 2 0 0 1) ≤ (X 2 0 0 3) then (bn1 (f_X10_kindAt X (X 2 0 0 3)) (fun r1 => bnd (xs X 2 0 0 2 r1) (fun X1 => bnd (xs X1 2 0 0 4 (X1 2 0 0 3)) (fun X2 => bnd (xs X2 2 0 0 6 0) (fun X3 => bnd (xs X3 2 0 0 5 0) (fun X4 => f_X10_toNext_74 2000 X4)))))) else (bn1 (f_X10_kindAt X (X 2 0 0 3)) (fun r2 => if r2 = 1 then (bnd (xs X 2 0 0 3 ((X 2 0 0 3) + 1)) (fun X9 => f_X10_toNext_8 n X9)) else (bn1 (f_X10_kindAt X (X 2 0 0 3)) (fun r3 => bnd (xs X 2 0 0 2 r3) (fun X5 => bnd (xs X5 2 0 0 4 (X5 2 0 0 3)) (fun X6 => bnd (xs X6 2 0 0 6 0) (fun X7 => bnd (xs X7 2 0 0 5 0) (fun X8 => f_X10_toNext_74 2000 X8))))))))
def f_X10_toNext (X : XT) : Option XT :=
  bnd (xs X 2 0 0 3 (X 2 0 0 4)) (fun X1 => f_X10_toNext_8 2000 X1)
set_option maxRecDepth 20000 in
theorem b_X10_toNext_74 {p : Program} {l : Launch} {e : Env} {s : State} {m : MethodId} {args : Array Value} {below : List Frame} {meth : Method} {c : Code} {D : DD} {z : Nat} {Y : YT} (E : Cx p s m args meth c D z RX10 cX10_toNext 1 none) {X' : XT} : ∀ (n : Nat) (X : XT) (hf : f_X10_toNext_74 n X = some X'), J p l e (rmk 2 0 0) s m args below meth c D z (GG D z (X, Y)) 0 0 (MQ below (QC z none (GG D z (X', Y))) args s (rmk 2 0 0).cells (rmk 2 0 0).slots (Az z)) 1 74 [(0, .ref (z + aX 2 0 0))] [] := by
  intro n
  induction n with
  | zero =>
    intro X hf
    exact none_e hf
  | succ n ih =>
    intro X hf
    rw [f_X10_toNext_74] at hf
    refine j_aload_n E 0 rfl dX10_toNext_74 ?_
    refine j_get (f := 4) E ok2 cf_X10 fl_X10_32 (lt_ rfl) rfl ent2 rfl dX10_toNext_75 ?_
    refine j_aload_n E 0 rfl dX10_toNext_78 ?_
    refine j_get (f := 1) E ok2 cf_X10 fl_X10_15 (lt_ rfl) rfl ent2 rfl dX10_toNext_79 ?_
    refine j_icmp_ge E 143 (by decide) dX10_toNext_82 (fun c1 => ?_) (fun c1 => ?_)
    · rw [if_pos c1] at hf
      refine j_aload_n E 0 rfl dX10_toNext_143 ?_
      refine j_get (f := 4) E ok2 cf_X10 fl_X10_32 (lt_ rfl) rfl ent2 rfl dX10_toNext_144 ?_
      refine j_aload_n E 0 rfl dX10_toNext_147 ?_
      refine j_get (f := 3) E ok2 cf_X10 fl_X10_38 (lt_ rfl) rfl ent2 rfl dX10_toNext_148 ?_
      refine j_isub E dX10_toNext_151 ?_
      refine j_iconst E 4 ic_4 dX10_toNext_152 ?_
      refine j_icmp_le E 161 (by decide) dX10_toNext_153 (fun c2 => ?_) (fun c2 => ?_)
      · rw [if_pos c2] at hf
        cases hf
        exact j_vret E (le_ rfl) (le_ rfl) dX10_toNext_161
      · rw [if_neg c2] at hf
        refine j_aload_n E 0 rfl dX10_toNext_156 ?_
        refine j_iconst E 0 ic_0 dX10_toNext_157 ?_
        obtain ⟨X1, hX1, hf⟩ := bnd_e hf
        refine j_put (f := 6) E ok2 cf_X10 fl_X10_48 (lt_ rfl) ⟨rfl, rfl⟩ (fit_i _) ent2 pe2_6 (lt_ rfl) hX1 dX10_toNext_158 ?_
        cases hf
        exact j_vret E (le_ rfl) (le_ rfl) dX10_toNext_161
    · rw [if_neg c1] at hf
      refine j_aload_n E 0 rfl dX10_toNext_85 ?_
      refine j_aload_n E 0 rfl dX10_toNext_86 ?_
      refine j_get (f := 4) E ok2 cf_X10 fl_X10_32 (lt_ rfl) rfl ent2 rfl dX10_toNext_87 ?_
      obtain ⟨r1, h1, hf⟩ := bn1_e hf
      refine j_invV [] [.int r1] E (c_X10_kindAt h1) ml_X10_41 mv_X10_kindAt rfl ⟨le_ rfl, le_ rfl⟩ (rcX ok2 cf_X10 ent2) rfl rfl (le_ rfl) ⟨le_ rfl, le_ rfl⟩ dX10_toNext_90 ?_
      refine j_aload_n E 0 rfl dX10_toNext_93 ?_
      refine j_get (f := 2) E ok2 cf_X10 fl_X10_45 (lt_ rfl) rfl ent2 rfl dX10_toNext_94 ?_
      refine j_icmp_ne E 143 (by decide) dX10_toNext_97 (fun c3 => ?_) (fun c3 => ?_)
      · rw [if_neg c3] at hf
        refine j_aload_n E 0 rfl dX10_toNext_143 ?_
        refine j_get (f := 4) E ok2 cf_X10 fl_X10_32 (lt_ rfl) rfl ent2 rfl dX10_toNext_144 ?_
        refine j_aload_n E 0 rfl dX10_toNext_147 ?_
        refine j_get (f := 3) E ok2 cf_X10 fl_X10_38 (lt_ rfl) rfl ent2 rfl dX10_toNext_148 ?_
        refine j_isub E dX10_toNext_151 ?_
        refine j_iconst E 4 ic_4 dX10_toNext_152 ?_
        refine j_icmp_le E 161 (by decide) dX10_toNext_153 (fun c4 => ?_) (fun c4 => ?_)
        · rw [if_pos c4] at hf
          cases hf
          exact j_vret E (le_ rfl) (le_ rfl) dX10_toNext_161
        · rw [if_neg c4] at hf
          refine j_aload_n E 0 rfl dX10_toNext_156 ?_
          refine j_iconst E 0 ic_0 dX10_toNext_157 ?_
          obtain ⟨X2, hX2, hf⟩ := bnd_e hf
          refine j_put (f := 6) E ok2 cf_X10 fl_X10_48 (lt_ rfl) ⟨rfl, rfl⟩ (fit_i _) ent2 pe2_6 (lt_ rfl) hX2 dX10_toNext_158 ?_
          cases hf
          exact j_vret E (le_ rfl) (le_ rfl) dX10_toNext_161
      · rw [if_pos c3] at hf
        refine j_aload_n E 0 rfl dX10_toNext_100 ?_
        refine j_get (f := 4) E ok2 cf_X10 fl_X10_32 (lt_ rfl) rfl ent2 rfl dX10_toNext_101 ?_
        refine j_aload_n E 0 rfl dX10_toNext_104 ?_
        refine j_get (f := 3) E ok2 cf_X10 fl_X10_38 (lt_ rfl) rfl ent2 rfl dX10_toNext_105 ?_
        refine j_icmp_eq E 118 (by decide) dX10_toNext_108 (fun c5 => ?_) (fun c5 => ?_)
        · rw [if_pos c5] at hf
          refine j_aload_n E 0 rfl dX10_toNext_118 ?_
          refine j_aload_n E 0 rfl dX10_toNext_119 ?_
          refine j_aload_n E 0 rfl dX10_toNext_120 ?_
          refine j_get (f := 4) E ok2 cf_X10 fl_X10_32 (lt_ rfl) rfl ent2 rfl dX10_toNext_121 ?_
          obtain ⟨r2, h2, hf⟩ := bn1_e hf
          refine j_invV [.ref (z + aX 2 0 0)] [.int r2, .ref (z + aX 2 0 0)] E (c_X10_signAt h2) ml_X10_58 mv_X10_signAt rfl ⟨le_ rfl, le_ rfl⟩ (rcX ok2 cf_X10 ent2) rfl rfl (le_ rfl) ⟨le_ rfl, le_ rfl⟩ dX10_toNext_124 ?_
          obtain ⟨X3, h3, hf⟩ := bn1_e hf
          refine j_invV [] [] E (c_X10_takeSign h3) ml_X10_61 mv_X10_takeSign rfl ⟨le_ rfl, le_ rfl⟩ (rcX ok2 cf_X10 ent2) rfl rfl (le_ rfl) ⟨le_ rfl, le_ rfl⟩ dX10_toNext_127 ?_
          refine j_aload_n E 0 rfl dX10_toNext_130 ?_
          refine j_dup E rfl dX10_toNext_131 ?_
          refine j_get (f := 4) E ok2 cf_X10 fl_X10_32 (lt_ rfl) rfl ent2 rfl dX10_toNext_132 ?_
          refine j_iconst E 1 ic_1 dX10_toNext_135 ?_
          refine j_iadd E dX10_toNext_136 ?_
          obtain ⟨X4, hX4, hf⟩ := bnd_e hf
          refine j_put (f := 4) E ok2 cf_X10 fl_X10_32 (lt_ rfl) ⟨rfl, rfl⟩ (fit_i _) ent2 pe2_4 (lt_ rfl) hX4 dX10_toNext_137 ?_
          refine j_goto E 74 (by decide) dX10_toNext_140 ?_
          exact ih _ hf
        · rw [if_neg c5] at hf
          refine j_aload_n E 0 rfl dX10_toNext_111 ?_
          obtain ⟨r3, h4, hf⟩ := bn1_e hf
          refine j_invV [] [.int r3] E (c_X10_isRun h4) ml_X10_54 mv_X10_isRun rfl ⟨le_ rfl, le_ rfl⟩ (rcX ok2 cf_X10 ent2) rfl rfl (le_ rfl) ⟨le_ rfl, le_ rfl⟩ dX10_toNext_112 ?_
          refine j_if_eq E 143 (by decide) dX10_toNext_115 (fun c6 => ?_) (fun c6 => ?_)
          · rw [if_pos c6] at hf
            refine j_aload_n E 0 rfl dX10_toNext_143 ?_
            refine j_get (f := 4) E ok2 cf_X10 fl_X10_32 (lt_ rfl) rfl ent2 rfl dX10_toNext_144 ?_
            refine j_aload_n E 0 rfl dX10_toNext_147 ?_
            refine j_get (f := 3) E ok2 cf_X10 fl_X10_38 (lt_ rfl) rfl ent2 rfl dX10_toNext_148 ?_
            refine j_isub E dX10_toNext_151 ?_
            refine j_iconst E 4 ic_4 dX10_toNext_152 ?_
            refine j_icmp_le E 161 (by decide) dX10_toNext_153 (fun c7 => ?_) (fun c7 => ?_)
            · rw [if_pos c7] at hf
              cases hf
              exact j_vret E (le_ rfl) (le_ rfl) dX10_toNext_161
            · rw [if_neg c7] at hf
              refine j_aload_n E 0 rfl dX10_toNext_156 ?_
              refine j_iconst E 0 ic_0 dX10_toNext_157 ?_
              obtain ⟨X5, hX5, hf⟩ := bnd_e hf
              refine j_put (f := 6) E ok2 cf_X10 fl_X10_48 (lt_ rfl) ⟨rfl, rfl⟩ (fit_i _) ent2 pe2_6 (lt_ rfl) hX5 dX10_toNext_158 ?_
              cases hf
              exact j_vret E (le_ rfl) (le_ rfl) dX10_toNext_161
          · rw [if_neg c6] at hf
            refine j_aload_n E 0 rfl dX10_toNext_118 ?_
            refine j_aload_n E 0 rfl dX10_toNext_119 ?_
            refine j_aload_n E 0 rfl dX10_toNext_120 ?_
            refine j_get (f := 4) E ok2 cf_X10 fl_X10_32 (lt_ rfl) rfl ent2 rfl dX10_toNext_121 ?_
            obtain ⟨r4, h5, hf⟩ := bn1_e hf
            refine j_invV [.ref (z + aX 2 0 0)] [.int r4, .ref (z + aX 2 0 0)] E (c_X10_signAt h5) ml_X10_58 mv_X10_signAt rfl ⟨le_ rfl, le_ rfl⟩ (rcX ok2 cf_X10 ent2) rfl rfl (le_ rfl) ⟨le_ rfl, le_ rfl⟩ dX10_toNext_124 ?_
            obtain ⟨X6, h6, hf⟩ := bn1_e hf
            refine j_invV [] [] E (c_X10_takeSign h6) ml_X10_61 mv_X10_takeSign rfl ⟨le_ rfl, le_ rfl⟩ (rcX ok2 cf_X10 ent2) rfl rfl (le_ rfl) ⟨le_ rfl, le_ rfl⟩ dX10_toNext_127 ?_
            refine j_aload_n E 0 rfl dX10_toNext_130 ?_
            refine j_dup E rfl dX10_toNext_131 ?_
            refine j_get (f := 4) E ok2 cf_X10 fl_X10_32 (lt_ rfl) rfl ent2 rfl dX10_toNext_132 ?_
            refine j_iconst E 1 ic_1 dX10_toNext_135 ?_
            refine j_iadd E dX10_toNext_136 ?_
            obtain ⟨X7, hX7, hf⟩ := bnd_e hf
            refine j_put (f := 4) E ok2 cf_X10 fl_X10_32 (lt_ rfl) ⟨rfl, rfl⟩ (fit_i _) ent2 pe2_4 (lt_ rfl) hX7 dX10_toNext_137 ?_
            refine j_goto E 74 (by decide) dX10_toNext_140 ?_
            exact ih _ hf
set_option maxRecDepth 20000 in
theorem b_X10_toNext_8 {p : Program} {l : Launch} {e : Env} {s : State} {m : MethodId} {args : Array Value} {below : List Frame} {meth : Method} {c : Code} {D : DD} {z : Nat} {Y : YT} (E : Cx p s m args meth c D z RX10 cX10_toNext 1 none) {X' : XT} : ∀ (n : Nat) (X : XT) (hf : f_X10_toNext_8 n X = some X'), J p l e (rmk 2 0 0) s m args below meth c D z (GG D z (X, Y)) 0 0 (MQ below (QC z none (GG D z (X', Y))) args s (rmk 2 0 0).cells (rmk 2 0 0).slots (Az z)) 1 8 [(0, .ref (z + aX 2 0 0))] [] := by
  intro n
  induction n with
  | zero =>
    intro X hf
    exact none_e hf
  | succ n ih =>
    intro X hf
    rw [f_X10_toNext_8] at hf
    refine j_aload_n E 0 rfl dX10_toNext_8 ?_
    refine j_get (f := 3) E ok2 cf_X10 fl_X10_38 (lt_ rfl) rfl ent2 rfl dX10_toNext_9 ?_
    refine j_aload_n E 0 rfl dX10_toNext_12 ?_
    refine j_get (f := 1) E ok2 cf_X10 fl_X10_15 (lt_ rfl) rfl ent2 rfl dX10_toNext_13 ?_
    refine j_icmp_ge E 44 (by decide) dX10_toNext_16 (fun c1 => ?_) (fun c1 => ?_)
    · rw [if_pos c1] at hf
      refine j_aload_n E 0 rfl dX10_toNext_44 ?_
      refine j_aload_n E 0 rfl dX10_toNext_45 ?_
      refine j_aload_n E 0 rfl dX10_toNext_46 ?_
      refine j_get (f := 3) E ok2 cf_X10 fl_X10_38 (lt_ rfl) rfl ent2 rfl dX10_toNext_47 ?_
      obtain ⟨r1, h1, hf⟩ := bn1_e hf
      refine j_invV [.ref (z + aX 2 0 0)] [.int r1, .ref (z + aX 2 0 0)] E (c_X10_kindAt h1) ml_X10_41 mv_X10_kindAt rfl ⟨le_ rfl, le_ rfl⟩ (rcX ok2 cf_X10 ent2) rfl rfl (le_ rfl) ⟨le_ rfl, le_ rfl⟩ dX10_toNext_50 ?_
      obtain ⟨X1, hX1, hf⟩ := bnd_e hf
      refine j_put (f := 2) E ok2 cf_X10 fl_X10_45 (lt_ rfl) ⟨rfl, rfl⟩ (fit_i _) ent2 pe2_2 (lt_ rfl) hX1 dX10_toNext_53 ?_
      refine j_aload_n E 0 rfl dX10_toNext_56 ?_
      refine j_aload_n E 0 rfl dX10_toNext_57 ?_
      refine j_get (f := 3) E ok2 cf_X10 fl_X10_38 (lt_ rfl) rfl ent2 rfl dX10_toNext_58 ?_
      obtain ⟨X2, hX2, hf⟩ := bnd_e hf
      refine j_put (f := 4) E ok2 cf_X10 fl_X10_32 (lt_ rfl) ⟨rfl, rfl⟩ (fit_i _) ent2 pe2_4 (lt_ rfl) hX2 dX10_toNext_61 ?_
      refine j_aload_n E 0 rfl dX10_toNext_64 ?_
      refine j_iconst E 0 ic_0 dX10_toNext_65 ?_
      obtain ⟨X3, hX3, hf⟩ := bnd_e hf
      refine j_put (f := 6) E ok2 cf_X10 fl_X10_48 (lt_ rfl) ⟨rfl, rfl⟩ (fit_i _) ent2 pe2_6 (lt_ rfl) hX3 dX10_toNext_66 ?_
      refine j_aload_n E 0 rfl dX10_toNext_69 ?_
      refine j_iconst E 0 ic_0 dX10_toNext_70 ?_
      obtain ⟨X4, hX4, hf⟩ := bnd_e hf
      refine j_put (f := 5) E ok2 cf_X10 fl_X10_51 (lt_ rfl) ⟨rfl, rfl⟩ (fit_i _) ent2 pe2_5 (lt_ rfl) hX4 dX10_toNext_71 ?_
      exact b_X10_toNext_74 E 2000 _ hf
    · rw [if_neg c1] at hf
      refine j_aload_n E 0 rfl dX10_toNext_19 ?_
      refine j_aload_n E 0 rfl dX10_toNext_20 ?_
      refine j_get (f := 3) E ok2 cf_X10 fl_X10_38 (lt_ rfl) rfl ent2 rfl dX10_toNext_21 ?_
      obtain ⟨r2, h2, hf⟩ := bn1_e hf
      refine j_invV [] [.int r2] E (c_X10_kindAt h2) ml_X10_41 mv_X10_kindAt rfl ⟨le_ rfl, le_ rfl⟩ (rcX ok2 cf_X10 ent2) rfl rfl (le_ rfl) ⟨le_ rfl, le_ rfl⟩ dX10_toNext_24 ?_
      refine j_iconst E 1 ic_1 dX10_toNext_27 ?_
      refine j_icmp_ne E 44 (by decide) dX10_toNext_28 (fun c2 => ?_) (fun c2 => ?_)
      · rw [if_neg c2] at hf
        refine j_aload_n E 0 rfl dX10_toNext_44 ?_
        refine j_aload_n E 0 rfl dX10_toNext_45 ?_
        refine j_aload_n E 0 rfl dX10_toNext_46 ?_
        refine j_get (f := 3) E ok2 cf_X10 fl_X10_38 (lt_ rfl) rfl ent2 rfl dX10_toNext_47 ?_
        obtain ⟨r3, h3, hf⟩ := bn1_e hf
        refine j_invV [.ref (z + aX 2 0 0)] [.int r3, .ref (z + aX 2 0 0)] E (c_X10_kindAt h3) ml_X10_41 mv_X10_kindAt rfl ⟨le_ rfl, le_ rfl⟩ (rcX ok2 cf_X10 ent2) rfl rfl (le_ rfl) ⟨le_ rfl, le_ rfl⟩ dX10_toNext_50 ?_
        obtain ⟨X5, hX5, hf⟩ := bnd_e hf
        refine j_put (f := 2) E ok2 cf_X10 fl_X10_45 (lt_ rfl) ⟨rfl, rfl⟩ (fit_i _) ent2 pe2_2 (lt_ rfl) hX5 dX10_toNext_53 ?_
        refine j_aload_n E 0 rfl dX10_toNext_56 ?_
        refine j_aload_n E 0 rfl dX10_toNext_57 ?_
        refine j_get (f := 3) E ok2 cf_X10 fl_X10_38 (lt_ rfl) rfl ent2 rfl dX10_toNext_58 ?_
        obtain ⟨X6, hX6, hf⟩ := bnd_e hf
        refine j_put (f := 4) E ok2 cf_X10 fl_X10_32 (lt_ rfl) ⟨rfl, rfl⟩ (fit_i _) ent2 pe2_4 (lt_ rfl) hX6 dX10_toNext_61 ?_
        refine j_aload_n E 0 rfl dX10_toNext_64 ?_
        refine j_iconst E 0 ic_0 dX10_toNext_65 ?_
        obtain ⟨X7, hX7, hf⟩ := bnd_e hf
        refine j_put (f := 6) E ok2 cf_X10 fl_X10_48 (lt_ rfl) ⟨rfl, rfl⟩ (fit_i _) ent2 pe2_6 (lt_ rfl) hX7 dX10_toNext_66 ?_
        refine j_aload_n E 0 rfl dX10_toNext_69 ?_
        refine j_iconst E 0 ic_0 dX10_toNext_70 ?_
        obtain ⟨X8, hX8, hf⟩ := bnd_e hf
        refine j_put (f := 5) E ok2 cf_X10 fl_X10_51 (lt_ rfl) ⟨rfl, rfl⟩ (fit_i _) ent2 pe2_5 (lt_ rfl) hX8 dX10_toNext_71 ?_
        exact b_X10_toNext_74 E 2000 _ hf
      · rw [if_pos c2] at hf
        refine j_aload_n E 0 rfl dX10_toNext_31 ?_
        refine j_dup E rfl dX10_toNext_32 ?_
        refine j_get (f := 3) E ok2 cf_X10 fl_X10_38 (lt_ rfl) rfl ent2 rfl dX10_toNext_33 ?_
        refine j_iconst E 1 ic_1 dX10_toNext_36 ?_
        refine j_iadd E dX10_toNext_37 ?_
        obtain ⟨X9, hX9, hf⟩ := bnd_e hf
        refine j_put (f := 3) E ok2 cf_X10 fl_X10_38 (lt_ rfl) ⟨rfl, rfl⟩ (fit_i _) ent2 pe2_3 (lt_ rfl) hX9 dX10_toNext_38 ?_
        refine j_goto E 8 (by decide) dX10_toNext_41 ?_
        exact ih _ hf
set_option maxRecDepth 20000 in
theorem c_X10_toNext {l : Launch} {D : DD} {z : Nat} {Y : YT} {X : XT} {X' : XT} (hf : f_X10_toNext X = some X') : CC l yX10_toNext cX10_toNext 1 none (rmk 2 0 0) D z [.ref (z + aX 2 0 0)] (GG D z (X, Y)) none (GG D z (X', Y)) := by
  unfold f_X10_toNext at hf
  refine cc_of pn_X10 (le_ rfl) (ls := [(0, .ref (z + aX 2 0 0))]) rfl ?_
  intro p e s m args below meth c E
  refine j_aload_n E 0 rfl dX10_toNext_0 ?_
  refine j_aload_n E 0 rfl dX10_toNext_1 ?_
  refine j_get (f := 4) E ok2 cf_X10 fl_X10_32 (lt_ rfl) rfl ent2 rfl dX10_toNext_2 ?_
  obtain ⟨X1, hX1, hf⟩ := bnd_e hf
  refine j_put (f := 3) E ok2 cf_X10 fl_X10_38 (lt_ rfl) ⟨rfl, rfl⟩ (fit_i _) ent2 pe2_3 (lt_ rfl) hX1 dX10_toNext_5 ?_
  exact b_X10_toNext_8 E 2000 _ hf
def f_X10_toFirst (X : XT) : Option XT :=
  bnd (xs X 2 0 0 4 0) (fun X1 => bn1 (f_X10_toNext X1) (fun X2 => some X2))
set_option maxRecDepth 20000 in
theorem c_X10_toFirst {l : Launch} {D : DD} {z : Nat} {Y : YT} {X : XT} {X' : XT} (hf : f_X10_toFirst X = some X') : CC l yX10_toFirst cX10_toFirst 1 none (rmk 3 0 0) D z [.ref (z + aX 2 0 0)] (GG D z (X, Y)) none (GG D z (X', Y)) := by
  unfold f_X10_toFirst at hf
  refine cc_of pn_X10 (le_ rfl) (ls := [(0, .ref (z + aX 2 0 0))]) rfl ?_
  intro p e s m args below meth c E
  refine j_aload_n E 0 rfl dX10_toFirst_0 ?_
  refine j_iconst E 0 ic_0 dX10_toFirst_1 ?_
  obtain ⟨X1, hX1, hf⟩ := bnd_e hf
  refine j_put (f := 4) E ok2 cf_X10 fl_X10_32 (lt_ rfl) ⟨rfl, rfl⟩ (fit_i _) ent2 pe2_4 (lt_ rfl) hX1 dX10_toFirst_2 ?_
  refine j_aload_n E 0 rfl dX10_toFirst_5 ?_
  obtain ⟨X2, h1, hf⟩ := bn1_e hf
  refine j_invV [] [] E (c_X10_toNext h1) ml_X10_35 mv_X10_toNext rfl ⟨le_ rfl, le_ rfl⟩ (rcX ok2 cf_X10 ent2) rfl rfl (le_ rfl) ⟨le_ rfl, le_ rfl⟩ dX10_toFirst_6 ?_
  cases hf
  exact j_vret E (le_ rfl) (le_ rfl) dX10_toFirst_9
def f_X10_spells_28 (X : XT) (t1 : Nat) : Nat → Int32 → Option Int32
  | 0, _ => none
  | n + 1, v2 => if (slen t1) ≤ v2 then (some 1) else (bn1 (f_X10_signAt X ((X 2 0 0 3) + v2)) (fun r1 => gd (¬ (v2 < 0 ∨ strN.getD t1 0 ≤ v2.toNatClampNeg)) (if r1 = (sch t1 v2.toNatClampNeg) then (f_X10_spells_28 X t1 n (v2 + 1)) else (some 0))))
def f_X10_spells (X : XT) (t1 : Nat) : Option Int32 :=
  if (X 2 0 0 2) = 2 then (if ((X 2 0 0 4) - (X 2 0 0 3)) = (slen t1) then (f_X10_spells_28 X t1 2000 0) else (some 0)) else (some 0)
set_option maxRecDepth 20000 in
theorem b_X10_spells_28 {p : Program} {l : Launch} {e : Env} {s : State} {m : MethodId} {args : Array Value} {below : List Frame} {meth : Method} {c : Code} {D : DD} {z : Nat} {Y : YT} {X : XT} {t1 : Nat} (ht1 : t1 < 31) (E : Cx p s m args meth c D z RX10 cX10_spells 3 (some .boolean)) {r : Int32} : ∀ (n : Nat) (v2 : Int32) (hf : f_X10_spells_28 X t1 n v2 = some r), J p l e (rmk 5 0 0) s m args below meth c D z (GG D z (X, Y)) 0 0 (MQ below (QC z (some (.int r)) (GG D z (X, Y))) args s (rmk 5 0 0).cells (rmk 5 0 0).slots (Az z)) 3 28 [(0, .ref (z + aX 2 0 0)), (1, .ref (D.2.2.2.1 t1)), (2, .int v2)] [] := by
  intro n
  induction n with
  | zero =>
    intro v2 hf
    exact none_e hf
  | succ n ih =>
    intro v2 hf
    rw [f_X10_spells_28] at hf
    refine j_iload_n E 2 rfl dX10_spells_28 ?_
    refine j_aload_n E 1 rfl dX10_spells_29 ?_
    refine j_invVs [.int v2] [.int (slen t1), .int v2] E ht1 (c_slen (r := slen t1) ht1 rfl) ml_X10_19 mv_J0_length_8abf5 rfl ⟨le_ rfl, le_ rfl⟩ rfl rfl (le_ rfl) ⟨le_ rfl, le_ rfl⟩ dX10_spells_30 ?_
    refine j_icmp_ge E 62 (by decide) dX10_spells_33 (fun c1 => ?_) (fun c1 => ?_)
    · rw [if_pos c1] at hf
      refine j_iconst E 1 ic_1 dX10_spells_62 ?_
      cases hf
      exact j_iret E rfl (le_ rfl) (le_ rfl) dX10_spells_63
    · rw [if_neg c1] at hf
      refine j_aload_n E 0 rfl dX10_spells_36 ?_
      refine j_aload_n E 0 rfl dX10_spells_37 ?_
      refine j_get (f := 3) E ok2 cf_X10 fl_X10_38 (lt_ rfl) rfl ent2 rfl dX10_spells_38 ?_
      refine j_iload_n E 2 rfl dX10_spells_41 ?_
      refine j_iadd E dX10_spells_42 ?_
      obtain ⟨r1, h1, hf⟩ := bn1_e hf
      refine j_invV [] [.int r1] E (c_X10_signAt h1) ml_X10_58 mv_X10_signAt rfl ⟨le_ rfl, le_ rfl⟩ (rcX ok2 cf_X10 ent2) rfl rfl (le_ rfl) ⟨le_ rfl, le_ rfl⟩ dX10_spells_43 ?_
      refine j_aload_n E 1 rfl dX10_spells_46 ?_
      refine j_iload_n E 2 rfl dX10_spells_47 ?_
      obtain ⟨g1, hf⟩ := gd_e hf
      refine j_invVs [.int r1] [.int (sch t1 v2.toNatClampNeg), .int r1] E ht1 (c_schar (i := v2) ht1 g1) ml_X10_24 mv_J0_charAt_5068e rfl ⟨le_ rfl, le_ rfl⟩ rfl rfl (le_ rfl) ⟨le_ rfl, le_ rfl⟩ dX10_spells_48 ?_
      refine j_icmp_eq E 56 (by decide) dX10_spells_51 (fun c2 => ?_) (fun c2 => ?_)
      · rw [if_pos c2] at hf
        refine j_iinc (ls' := [(2, .int (v2 + 1)), (0, .ref (z + aX 2 0 0)), (1, .ref (D.2.2.2.1 t1))]) E 2 rfl (lt_ rfl) (v2 + 1) (congrArg (fun q => v2 + q) ic_1) rfl dX10_spells_56 ?_
        refine j_goto E 28 (by decide) dX10_spells_59 ?_
        refine j_sub [1, 2, 0] rfl ?_
        exact ih _ hf
      · rw [if_neg c2] at hf
        refine j_iconst E 0 ic_0 dX10_spells_54 ?_
        cases hf
        exact j_iret E rfl (le_ rfl) (le_ rfl) dX10_spells_55
set_option maxRecDepth 20000 in
theorem c_X10_spells {l : Launch} {D : DD} {z : Nat} {Y : YT} {X : XT} {t1 : Nat} (ht1 : t1 < 31) {r : Int32} (hf : f_X10_spells X t1 = some r) : CC l yX10_spells cX10_spells 3 (some .boolean) (rmk 5 0 0) D z [.ref (z + aX 2 0 0), .ref (D.2.2.2.1 t1)] (GG D z (X, Y)) (some (.int r)) (GG D z (X, Y)) := by
  unfold f_X10_spells at hf
  refine cc_of pn_X10 (le_ rfl) (ls := [(0, .ref (z + aX 2 0 0)), (1, .ref (D.2.2.2.1 t1))]) rfl ?_
  intro p e s m args below meth c E
  refine j_aload_n E 0 rfl dX10_spells_0 ?_
  refine j_get (f := 2) E ok2 cf_X10 fl_X10_45 (lt_ rfl) rfl ent2 rfl dX10_spells_1 ?_
  refine j_iconst E 2 ic_2 dX10_spells_4 ?_
  refine j_icmp_ne E 24 (by decide) dX10_spells_5 (fun c1 => ?_) (fun c1 => ?_)
  · rw [if_neg c1] at hf
    refine j_iconst E 0 ic_0 dX10_spells_24 ?_
    cases hf
    exact j_iret E rfl (le_ rfl) (le_ rfl) dX10_spells_25
  · rw [if_pos c1] at hf
    refine j_aload_n E 0 rfl dX10_spells_8 ?_
    refine j_get (f := 4) E ok2 cf_X10 fl_X10_32 (lt_ rfl) rfl ent2 rfl dX10_spells_9 ?_
    refine j_aload_n E 0 rfl dX10_spells_12 ?_
    refine j_get (f := 3) E ok2 cf_X10 fl_X10_38 (lt_ rfl) rfl ent2 rfl dX10_spells_13 ?_
    refine j_isub E dX10_spells_16 ?_
    refine j_aload_n E 1 rfl dX10_spells_17 ?_
    refine j_invVs [.int ((X 2 0 0 4) - (X 2 0 0 3))] [.int (slen t1), .int ((X 2 0 0 4) - (X 2 0 0 3))] E ht1 (c_slen (r := slen t1) ht1 rfl) ml_X10_19 mv_J0_length_8abf5 rfl ⟨le_ rfl, le_ rfl⟩ rfl rfl (le_ rfl) ⟨le_ rfl, le_ rfl⟩ dX10_spells_18 ?_
    refine j_icmp_eq E 26 (by decide) dX10_spells_21 (fun c2 => ?_) (fun c2 => ?_)
    · rw [if_pos c2] at hf
      refine j_iconst E 0 ic_0 dX10_spells_26 ?_
      refine j_istore_n (ls' := [(2, .int 0), (0, .ref (z + aX 2 0 0)), (1, .ref (D.2.2.2.1 t1))]) E (lt_ rfl) rfl dX10_spells_27 ?_
      refine j_sub [1, 2, 0] rfl ?_
      exact b_X10_spells_28 ht1 E 2000 _ hf
    · rw [if_neg c2] at hf
      refine j_iconst E 0 ic_0 dX10_spells_24 ?_
      cases hf
      exact j_iret E rfl (le_ rfl) (le_ rfl) dX10_spells_25
def f_X8_fail (X : XT) (v1 : Int32) : Option (Int32 × XT) :=
  bnd (xs X 1 0 0 3 v1) (fun X1 => bnd (xs X1 1 0 0 4 (X1 2 0 0 3)) (fun X2 => some (0, X2)))
set_option maxRecDepth 20000 in
theorem c_X8_fail {l : Launch} {D : DD} {z : Nat} {Y : YT} {X : XT} {v1 : Int32} {r : Int32} {X' : XT} (hf : f_X8_fail X v1 = some (r, X')) : CC l yX8_fail cX8_fail 2 (some .boolean) (rmk 1 0 0) D z [.ref (z + aX 1 0 0), .int v1] (GG D z (X, Y)) (some (.int r)) (GG D z (X', Y)) := by
  unfold f_X8_fail at hf
  refine cc_of pn_X8 (le_ rfl) (ls := [(0, .ref (z + aX 1 0 0)), (1, .int v1)]) rfl ?_
  intro p e s m args below meth c E
  refine j_aload_n E 0 rfl dX8_fail_0 ?_
  refine j_iload_n E 1 rfl dX8_fail_1 ?_
  obtain ⟨X1, hX1, hf⟩ := bnd_e hf
  refine j_put (f := 3) E ok1 cf_X8 fl_X8_29 (lt_ rfl) ⟨rfl, rfl⟩ (fit_i _) ent1 pe1_3 (lt_ rfl) hX1 dX8_fail_2 ?_
  refine j_aload_n E 0 rfl dX8_fail_5 ?_
  refine j_aload_n E 0 rfl dX8_fail_6 ?_
  refine j_get (f := 0) E ok1 cf_X8 fl_X8_12 (lt_ rfl) rfl ent1 rfl dX8_fail_7 ?_
  refine j_getN (f := 3) E ok2 cf_X10 fl_X8_277 (lt_ rfl) rfl ent2 rfl dX8_fail_10 ?_
  obtain ⟨X2, hX2, hf⟩ := bnd_e hf
  refine j_put (f := 4) E ok1 cf_X8 fl_X8_25 (lt_ rfl) ⟨rfl, rfl⟩ (fit_i _) ent1 pe1_4 (lt_ rfl) hX2 dX8_fail_13 ?_
  refine j_iconst E 0 ic_0 dX8_fail_16 ?_
  cases hf
  exact j_iret E rfl (le_ rfl) (le_ rfl) dX8_fail_17
def f_X8_isNumberHere (X : XT) (v1 : Int32) (v2 : Int32) : Option (Int32 × XT) :=
  if (X 2 0 0 2) = 3 then (if (X 2 0 0 5) < v1 then (bn2 (f_X8_fail X 2) (fun r1 X1 => gd (r1 &&& 1 = r1) (some (r1, X1)))) else (if (X 2 0 0 5) ≤ v2 then (some (1, X)) else (bn2 (f_X8_fail X 2) (fun r2 X2 => gd (r2 &&& 1 = r2) (some (r2, X2)))))) else (bn2 (f_X8_fail X 1) (fun r3 X3 => gd (r3 &&& 1 = r3) (some (r3, X3))))
set_option maxRecDepth 20000 in
theorem c_X8_isNumberHere {l : Launch} {D : DD} {z : Nat} {Y : YT} {X : XT} {v1 : Int32} {v2 : Int32} {r : Int32} {X' : XT} (hf : f_X8_isNumberHere X v1 v2 = some (r, X')) : CC l yX8_isNumberHere cX8_isNumberHere 3 (some .boolean) (rmk 2 0 0) D z [.ref (z + aX 1 0 0), .int v1, .int v2] (GG D z (X, Y)) (some (.int r)) (GG D z (X', Y)) := by
  unfold f_X8_isNumberHere at hf
  refine cc_of pn_X8 (le_ rfl) (ls := [(0, .ref (z + aX 1 0 0)), (1, .int v1), (2, .int v2)]) rfl ?_
  intro p e s m args below meth c E
  refine j_aload_n E 0 rfl dX8_isNumberHere_0 ?_
  refine j_get (f := 0) E ok1 cf_X8 fl_X8_12 (lt_ rfl) rfl ent1 rfl dX8_isNumberHere_1 ?_
  refine j_getN (f := 2) E ok2 cf_X10 fl_X8_45 (lt_ rfl) rfl ent2 rfl dX8_isNumberHere_4 ?_
  refine j_iconst E 3 ic_3 dX8_isNumberHere_7 ?_
  refine j_icmp_eq E 17 (by decide) dX8_isNumberHere_8 (fun c1 => ?_) (fun c1 => ?_)
  · rw [if_pos c1] at hf
    refine j_aload_n E 0 rfl dX8_isNumberHere_17 ?_
    refine j_get (f := 0) E ok1 cf_X8 fl_X8_12 (lt_ rfl) rfl ent1 rfl dX8_isNumberHere_18 ?_
    refine j_getN (f := 5) E ok2 cf_X10 fl_X8_95 (lt_ rfl) rfl ent2 rfl dX8_isNumberHere_21 ?_
    refine j_iload_n E 1 rfl dX8_isNumberHere_24 ?_
    refine j_icmp_lt E 39 (by decide) dX8_isNumberHere_25 (fun c2 => ?_) (fun c2 => ?_)
    · rw [if_pos c2] at hf
      refine j_aload_n E 0 rfl dX8_isNumberHere_39 ?_
      refine j_iconst E 2 ic_2 dX8_isNumberHere_40 ?_
      obtain ⟨r1, X1, h1, hf⟩ := bn2_e hf
      refine j_invV [] [.int r1] E (c_X8_fail h1) ml_X8_60 mv_X8_fail rfl ⟨le_ rfl, le_ rfl⟩ (rcX ok1 cf_X8 ent1) rfl rfl (le_ rfl) ⟨le_ rfl, le_ rfl⟩ dX8_isNumberHere_41 ?_
      obtain ⟨g1, hf⟩ := gd_e hf
      cases hf
      exact j_iret E (nz_ g1) (le_ rfl) (le_ rfl) dX8_isNumberHere_44
    · rw [if_neg c2] at hf
      refine j_aload_n E 0 rfl dX8_isNumberHere_28 ?_
      refine j_get (f := 0) E ok1 cf_X8 fl_X8_12 (lt_ rfl) rfl ent1 rfl dX8_isNumberHere_29 ?_
      refine j_getN (f := 5) E ok2 cf_X10 fl_X8_95 (lt_ rfl) rfl ent2 rfl dX8_isNumberHere_32 ?_
      refine j_iload_n E 2 rfl dX8_isNumberHere_35 ?_
      refine j_icmp_le E 45 (by decide) dX8_isNumberHere_36 (fun c3 => ?_) (fun c3 => ?_)
      · rw [if_pos c3] at hf
        refine j_iconst E 1 ic_1 dX8_isNumberHere_45 ?_
        cases hf
        exact j_iret E rfl (le_ rfl) (le_ rfl) dX8_isNumberHere_46
      · rw [if_neg c3] at hf
        refine j_aload_n E 0 rfl dX8_isNumberHere_39 ?_
        refine j_iconst E 2 ic_2 dX8_isNumberHere_40 ?_
        obtain ⟨r2, X2, h2, hf⟩ := bn2_e hf
        refine j_invV [] [.int r2] E (c_X8_fail h2) ml_X8_60 mv_X8_fail rfl ⟨le_ rfl, le_ rfl⟩ (rcX ok1 cf_X8 ent1) rfl rfl (le_ rfl) ⟨le_ rfl, le_ rfl⟩ dX8_isNumberHere_41 ?_
        obtain ⟨g2, hf⟩ := gd_e hf
        cases hf
        exact j_iret E (nz_ g2) (le_ rfl) (le_ rfl) dX8_isNumberHere_44
  · rw [if_neg c1] at hf
    refine j_aload_n E 0 rfl dX8_isNumberHere_11 ?_
    refine j_iconst E 1 ic_1 dX8_isNumberHere_12 ?_
    obtain ⟨r3, X3, h3, hf⟩ := bn2_e hf
    refine j_invV [] [.int r3] E (c_X8_fail h3) ml_X8_60 mv_X8_fail rfl ⟨le_ rfl, le_ rfl⟩ (rcX ok1 cf_X8 ent1) rfl rfl (le_ rfl) ⟨le_ rfl, le_ rfl⟩ dX8_isNumberHere_13 ?_
    obtain ⟨g3, hf⟩ := gd_e hf
    cases hf
    exact j_iret E (nz_ g3) (le_ rfl) (le_ rfl) dX8_isNumberHere_16
def f_X8_readNumber (X : XT) (v1 : Int32) (v2 : Int32) : Option (Int32 × XT) :=
  bn2 (f_X8_isNumberHere X v1 v2) (fun r1 X1 => if r1 = 0 then (some ((-1), X1)) else (bn1 (f_X10_toNext X1) (fun X2 => some ((X1 2 0 0 5), X2))))
set_option maxRecDepth 20000 in
theorem c_X8_readNumber {l : Launch} {D : DD} {z : Nat} {Y : YT} {X : XT} {v1 : Int32} {v2 : Int32} {r : Int32} {X' : XT} (hf : f_X8_readNumber X v1 v2 = some (r, X')) : CC l yX8_readNumber cX8_readNumber 4 (some .int) (rmk 3 0 0) D z [.ref (z + aX 1 0 0), .int v1, .int v2] (GG D z (X, Y)) (some (.int r)) (GG D z (X', Y)) := by
  unfold f_X8_readNumber at hf
  refine cc_of pn_X8 (le_ rfl) (ls := [(0, .ref (z + aX 1 0 0)), (1, .int v1), (2, .int v2)]) rfl ?_
  intro p e s m args below meth c E
  refine j_aload_n E 0 rfl dX8_readNumber_0 ?_
  refine j_iload_n E 1 rfl dX8_readNumber_1 ?_
  refine j_iload_n E 2 rfl dX8_readNumber_2 ?_
  obtain ⟨r1, X1, h1, hf⟩ := bn2_e hf
  refine j_invV [] [.int r1] E (c_X8_isNumberHere h1) ml_X8_87 mv_X8_isNumberHere rfl ⟨le_ rfl, le_ rfl⟩ (rcX ok1 cf_X8 ent1) rfl rfl (le_ rfl) ⟨le_ rfl, le_ rfl⟩ dX8_readNumber_3 ?_
  refine j_if_ne E 11 (by decide) dX8_readNumber_6 (fun c1 => ?_) (fun c1 => ?_)
  · rw [if_neg c1] at hf
    refine j_aload_n E 0 rfl dX8_readNumber_11 ?_
    refine j_get (f := 0) E ok1 cf_X8 fl_X8_12 (lt_ rfl) rfl ent1 rfl dX8_readNumber_12 ?_
    refine j_getN (f := 5) E ok2 cf_X10 fl_X8_95 (lt_ rfl) rfl ent2 rfl dX8_readNumber_15 ?_
    refine j_istore_n (ls' := [(3, .int (X1 2 0 0 5)), (0, .ref (z + aX 1 0 0)), (1, .int v1), (2, .int v2)]) E (lt_ rfl) rfl dX8_readNumber_18 ?_
    refine j_aload_n E 1 rfl dX8_readNumber_19 ?_
    refine j_get (f := 0) E ok1 cf_X8 fl_X8_12 (lt_ rfl) rfl ent1 rfl dX8_readNumber_20 ?_
    obtain ⟨X2, h2, hf⟩ := bn1_e hf
    refine j_invV [] [] E (c_X10_toNext h2) ml_X8_64 mv_X10_toNext rfl ⟨le_ rfl, le_ rfl⟩ (rcX ok2 cf_X10 ent2) rfl rfl (le_ rfl) ⟨le_ rfl, le_ rfl⟩ dX8_readNumber_23 ?_
    refine j_iload_n E 0 rfl dX8_readNumber_26 ?_
    cases hf
    exact j_iret E rfl (le_ rfl) (le_ rfl) dX8_readNumber_27
  · rw [if_pos c1] at hf
    refine j_iconst E (-1) ic_m1 dX8_readNumber_9 ?_
    cases hf
    exact j_iret E rfl (le_ rfl) (le_ rfl) dX8_readNumber_10
def f_X8_isSemicolonHere (X : XT) : Option (Int32 × XT) :=
  if (X 2 0 0 2) = 4 then (some (1, X)) else (bn2 (f_X8_fail X 1) (fun r1 X1 => if r1 = 0 then (some (0, X1)) else (some (1, X1))))
set_option maxRecDepth 20000 in
theorem c_X8_isSemicolonHere {l : Launch} {D : DD} {z : Nat} {Y : YT} {X : XT} {r : Int32} {X' : XT} (hf : f_X8_isSemicolonHere X = some (r, X')) : CC l yX8_isSemicolonHere cX8_isSemicolonHere 1 (some .boolean) (rmk 2 0 0) D z [.ref (z + aX 1 0 0)] (GG D z (X, Y)) (some (.int r)) (GG D z (X', Y)) := by
  unfold f_X8_isSemicolonHere at hf
  refine cc_of pn_X8 (le_ rfl) (ls := [(0, .ref (z + aX 1 0 0))]) rfl ?_
  intro p e s m args below meth c E
  refine j_aload_n E 0 rfl dX8_isSemicolonHere_0 ?_
  refine j_get (f := 0) E ok1 cf_X8 fl_X8_12 (lt_ rfl) rfl ent1 rfl dX8_isSemicolonHere_1 ?_
  refine j_getN (f := 2) E ok2 cf_X10 fl_X8_45 (lt_ rfl) rfl ent2 rfl dX8_isSemicolonHere_4 ?_
  refine j_iconst E 4 ic_4 dX8_isSemicolonHere_7 ?_
  refine j_icmp_eq E 19 (by decide) dX8_isSemicolonHere_8 (fun c1 => ?_) (fun c1 => ?_)
  · rw [if_pos c1] at hf
    refine j_iconst E 1 ic_1 dX8_isSemicolonHere_19 ?_
    refine j_goto E 24 (by decide) dX8_isSemicolonHere_20 ?_
    cases hf
    exact j_iret E rfl (le_ rfl) (le_ rfl) dX8_isSemicolonHere_24
  · rw [if_neg c1] at hf
    refine j_aload_n E 0 rfl dX8_isSemicolonHere_11 ?_
    refine j_iconst E 1 ic_1 dX8_isSemicolonHere_12 ?_
    obtain ⟨r1, X1, h1, hf⟩ := bn2_e hf
    refine j_invV [] [.int r1] E (c_X8_fail h1) ml_X8_60 mv_X8_fail rfl ⟨le_ rfl, le_ rfl⟩ (rcX ok1 cf_X8 ent1) rfl rfl (le_ rfl) ⟨le_ rfl, le_ rfl⟩ dX8_isSemicolonHere_13 ?_
    refine j_if_eq E 23 (by decide) dX8_isSemicolonHere_16 (fun c2 => ?_) (fun c2 => ?_)
    · rw [if_pos c2] at hf
      refine j_iconst E 0 ic_0 dX8_isSemicolonHere_23 ?_
      cases hf
      exact j_iret E rfl (le_ rfl) (le_ rfl) dX8_isSemicolonHere_24
    · rw [if_neg c2] at hf
      refine j_iconst E 1 ic_1 dX8_isSemicolonHere_19 ?_
      refine j_goto E 24 (by decide) dX8_isSemicolonHere_20 ?_
      cases hf
      exact j_iret E rfl (le_ rfl) (le_ rfl) dX8_isSemicolonHere_24
def f_X8_readSemicolon (X : XT) : Option (Int32 × XT) :=
  bn2 (f_X8_isSemicolonHere X) (fun r1 X1 => if r1 = 0 then (some (0, X1)) else (bn1 (f_X10_toNext X1) (fun X2 => some (1, X2))))
set_option maxRecDepth 20000 in
theorem c_X8_readSemicolon {l : Launch} {D : DD} {z : Nat} {Y : YT} {X : XT} {r : Int32} {X' : XT} (hf : f_X8_readSemicolon X = some (r, X')) : CC l yX8_readSemicolon cX8_readSemicolon 1 (some .boolean) (rmk 3 0 0) D z [.ref (z + aX 1 0 0)] (GG D z (X, Y)) (some (.int r)) (GG D z (X', Y)) := by
  unfold f_X8_readSemicolon at hf
  refine cc_of pn_X8 (le_ rfl) (ls := [(0, .ref (z + aX 1 0 0))]) rfl ?_
  intro p e s m args below meth c E
  refine j_aload_n E 0 rfl dX8_readSemicolon_0 ?_
  obtain ⟨r1, X1, h1, hf⟩ := bn2_e hf
  refine j_invV [] [.int r1] E (c_X8_isSemicolonHere h1) ml_X8_208 mv_X8_isSemicolonHere rfl ⟨le_ rfl, le_ rfl⟩ (rcX ok1 cf_X8 ent1) rfl rfl (le_ rfl) ⟨le_ rfl, le_ rfl⟩ dX8_readSemicolon_1 ?_
  refine j_if_ne E 9 (by decide) dX8_readSemicolon_4 (fun c1 => ?_) (fun c1 => ?_)
  · rw [if_neg c1] at hf
    refine j_aload_n E 0 rfl dX8_readSemicolon_9 ?_
    refine j_get (f := 0) E ok1 cf_X8 fl_X8_12 (lt_ rfl) rfl ent1 rfl dX8_readSemicolon_10 ?_
    obtain ⟨X2, h2, hf⟩ := bn1_e hf
    refine j_invV [] [] E (c_X10_toNext h2) ml_X8_64 mv_X10_toNext rfl ⟨le_ rfl, le_ rfl⟩ (rcX ok2 cf_X10 ent2) rfl rfl (le_ rfl) ⟨le_ rfl, le_ rfl⟩ dX8_readSemicolon_13 ?_
    refine j_iconst E 1 ic_1 dX8_readSemicolon_16 ?_
    cases hf
    exact j_iret E rfl (le_ rfl) (le_ rfl) dX8_readSemicolon_17
  · rw [if_pos c1] at hf
    refine j_iconst E 0 ic_0 dX8_readSemicolon_7 ?_
    cases hf
    exact j_iret E rfl (le_ rfl) (le_ rfl) dX8_readSemicolon_8
def f_X8_readCooperative (X : XT) : Option (Int32 × XT) :=
  bn1 (f_X10_spells X 0) (fun r1 => if r1 = 0 then (bn2 (f_X8_fail X 1) (fun r5 X7 => gd (r5 &&& 1 = r5) (some (r5, X7)))) else (bn1 (f_X10_toNext X) (fun X1 => bn2 (f_X8_readNumber X1 1 200) (fun r2 X2 => bnd (xs X2 1 0 0 2 r2) (fun X3 => if (X3 1 0 0 2) = (-1) then (some (0, X3)) else (bn2 (f_X8_readNumber X3 0 99999) (fun r3 X4 => if r3 = (-1) then (some (0, X4)) else (bn1 (f_X0_open X4 0 r3) (fun X5 => bn2 (f_X8_readSemicolon X5) (fun r4 X6 => gd (r4 &&& 1 = r4) (some (r4, X6))))))))))))
set_option maxRecDepth 20000 in
theorem c_X8_readCooperative {l : Launch} {D : DD} {z : Nat} {Y : YT} {X : XT} {r : Int32} {X' : XT} (hf : f_X8_readCooperative X = some (r, X')) : CC l yX8_readCooperative cX8_readCooperative 2 (some .boolean) (rmk 6 0 0) D z [.ref (z + aX 1 0 0)] (GG D z (X, Y)) (some (.int r)) (GG D z (X', Y)) := by
  unfold f_X8_readCooperative at hf
  refine cc_of pn_X8 (le_ rfl) (ls := [(0, .ref (z + aX 1 0 0))]) rfl ?_
  intro p e s m args below meth c E
  refine j_aload_n E 0 rfl dX8_readCooperative_0 ?_
  refine j_get (f := 0) E ok1 cf_X8 fl_X8_12 (lt_ rfl) rfl ent1 rfl dX8_readCooperative_1 ?_
  refine j_ldcS E sl_X8_54 sc_X8_54 dX8_readCooperative_4 ?_
  obtain ⟨r1, h1, hf⟩ := bn1_e hf
  refine j_invV [] [.int r1] E (c_X10_spells (lt_ rfl) h1) ml_X8_56 mv_X10_spells rfl ⟨le_ rfl, le_ rfl⟩ (rcX ok2 cf_X10 ent2) rfl rfl (le_ rfl) ⟨le_ rfl, le_ rfl⟩ dX8_readCooperative_6 ?_
  refine j_if_ne E 18 (by decide) dX8_readCooperative_9 (fun c1 => ?_) (fun c1 => ?_)
  · rw [if_neg c1] at hf
    refine j_aload_n E 0 rfl dX8_readCooperative_18 ?_
    refine j_get (f := 0) E ok1 cf_X8 fl_X8_12 (lt_ rfl) rfl ent1 rfl dX8_readCooperative_19 ?_
    obtain ⟨X1, h2, hf⟩ := bn1_e hf
    refine j_invV [] [] E (c_X10_toNext h2) ml_X8_64 mv_X10_toNext rfl ⟨le_ rfl, le_ rfl⟩ (rcX ok2 cf_X10 ent2) rfl rfl (le_ rfl) ⟨le_ rfl, le_ rfl⟩ dX8_readCooperative_22 ?_
    refine j_aload_n E 0 rfl dX8_readCooperative_25 ?_
    refine j_aload_n E 0 rfl dX8_readCooperative_26 ?_
    refine j_iconst E 1 ic_1 dX8_readCooperative_27 ?_
    refine j_sipush E 200 sp_200 dX8_readCooperative_28 ?_
    obtain ⟨r2, X2, h3, hf⟩ := bn2_e hf
    refine j_invV [.ref (z + aX 1 0 0)] [.int r2, .ref (z + aX 1 0 0)] E (c_X8_readNumber h3) ml_X8_67 mv_X8_readNumber rfl ⟨le_ rfl, le_ rfl⟩ (rcX ok1 cf_X8 ent1) rfl rfl (le_ rfl) ⟨le_ rfl, le_ rfl⟩ dX8_readCooperative_31 ?_
    obtain ⟨X3, hX3, hf⟩ := bnd_e hf
    refine j_put (f := 2) E ok1 cf_X8 fl_X8_71 (lt_ rfl) ⟨rfl, rfl⟩ (fit_i _) ent1 pe1_2 (lt_ rfl) hX3 dX8_readCooperative_34 ?_
    refine j_aload_n E 0 rfl dX8_readCooperative_37 ?_
    refine j_get (f := 2) E ok1 cf_X8 fl_X8_71 (lt_ rfl) rfl ent1 rfl dX8_readCooperative_38 ?_
    refine j_iconst E (-1) ic_m1 dX8_readCooperative_41 ?_
    refine j_icmp_ne E 47 (by decide) dX8_readCooperative_42 (fun c2 => ?_) (fun c2 => ?_)
    · rw [if_neg c2] at hf
      refine j_aload_n E 0 rfl dX8_readCooperative_47 ?_
      refine j_iconst E 0 ic_0 dX8_readCooperative_48 ?_
      refine j_ldc E ct_X8_74 dX8_readCooperative_49 ?_
      obtain ⟨r3, X4, h4, hf⟩ := bn2_e hf
      refine j_invV [] [.int r3] E (c_X8_readNumber h4) ml_X8_67 mv_X8_readNumber rfl ⟨le_ rfl, le_ rfl⟩ (rcX ok1 cf_X8 ent1) rfl rfl (le_ rfl) ⟨le_ rfl, le_ rfl⟩ dX8_readCooperative_51 ?_
      refine j_istore_n (ls' := [(1, .int r3), (0, .ref (z + aX 1 0 0))]) E (lt_ rfl) rfl dX8_readCooperative_54 ?_
      refine j_iload_n E 0 rfl dX8_readCooperative_55 ?_
      refine j_iconst E (-1) ic_m1 dX8_readCooperative_56 ?_
      refine j_icmp_ne E 62 (by decide) dX8_readCooperative_57 (fun c3 => ?_) (fun c3 => ?_)
      · rw [if_neg c3] at hf
        refine j_aload_n E 1 rfl dX8_readCooperative_62 ?_
        refine j_get (f := 1) E ok1 cf_X8 fl_X8_21 (lt_ rfl) rfl ent1 rfl dX8_readCooperative_63 ?_
        refine j_iload_n E 0 rfl dX8_readCooperative_66 ?_
        obtain ⟨X5, h5, hf⟩ := bn1_e hf
        refine j_invV [] [] E (c_X0_open jl0 h5) ml_X8_75 mv_X0_open rfl ⟨le_ rfl, le_ rfl⟩ (rcX (okb10 jl0) cf_X0 ent10) rfl rfl (le_ rfl) ⟨le_ rfl, le_ rfl⟩ dX8_readCooperative_67 ?_
        refine j_aload_n E 1 rfl dX8_readCooperative_70 ?_
        obtain ⟨r4, X6, h6, hf⟩ := bn2_e hf
        refine j_invV [] [.int r4] E (c_X8_readSemicolon h6) ml_X8_79 mv_X8_readSemicolon rfl ⟨le_ rfl, le_ rfl⟩ (rcX ok1 cf_X8 ent1) rfl rfl (le_ rfl) ⟨le_ rfl, le_ rfl⟩ dX8_readCooperative_71 ?_
        obtain ⟨g1, hf⟩ := gd_e hf
        cases hf
        exact j_iret E (nz_ g1) (le_ rfl) (le_ rfl) dX8_readCooperative_74
      · rw [if_pos c3] at hf
        refine j_iconst E 0 ic_0 dX8_readCooperative_60 ?_
        cases hf
        exact j_iret E rfl (le_ rfl) (le_ rfl) dX8_readCooperative_61
    · rw [if_pos c2] at hf
      refine j_iconst E 0 ic_0 dX8_readCooperative_45 ?_
      cases hf
      exact j_iret E rfl (le_ rfl) (le_ rfl) dX8_readCooperative_46
  · rw [if_pos c1] at hf
    refine j_aload_n E 0 rfl dX8_readCooperative_12 ?_
    refine j_iconst E 1 ic_1 dX8_readCooperative_13 ?_
    obtain ⟨r5, X7, h7, hf⟩ := bn2_e hf
    refine j_invV [] [.int r5] E (c_X8_fail h7) ml_X8_60 mv_X8_fail rfl ⟨le_ rfl, le_ rfl⟩ (rcX ok1 cf_X8 ent1) rfl rfl (le_ rfl) ⟨le_ rfl, le_ rfl⟩ dX8_readCooperative_14 ?_
    obtain ⟨g2, hf⟩ := gd_e hf
    cases hf
    exact j_iret E (nz_ g2) (le_ rfl) (le_ rfl) dX8_readCooperative_17
def f_X8_readLowestSugar (X : XT) : Option (Int32 × XT) :=
  bn2 (f_X8_isNumberHere X 0 200) (fun r1 X1 => if r1 = 0 then (some (0, X1)) else (bn1 (f_X1_isLessThanLast X1 0 (X1 2 0 0 5)) (fun r2 => if r2 = 0 then (bn2 (f_X8_fail X1 3) (fun r4 X5 => gd (r4 &&& 1 = r4) (some (r4, X5)))) else (if (X1 11 0 0 3) < 4 then (bn1 (f_X1_addClass X1 0 (X1 2 0 0 5)) (fun X2 => bn1 (f_X10_toNext X2) (fun X3 => some (1, X3)))) else (bn2 (f_X8_fail X1 5) (fun r3 X4 => gd (r3 &&& 1 = r3) (some (r3, X4))))))))
set_option maxRecDepth 20000 in
theorem c_X8_readLowestSugar {l : Launch} {D : DD} {z : Nat} {Y : YT} {X : XT} {r : Int32} {X' : XT} (hf : f_X8_readLowestSugar X = some (r, X')) : CC l yX8_readLowestSugar cX8_readLowestSugar 1 (some .boolean) (rmk 3 0 0) D z [.ref (z + aX 1 0 0)] (GG D z (X, Y)) (some (.int r)) (GG D z (X', Y)) := by
  unfold f_X8_readLowestSugar at hf
  refine cc_of pn_X8 (le_ rfl) (ls := [(0, .ref (z + aX 1 0 0))]) rfl ?_
  intro p e s m args below meth c E
  refine j_aload_n E 0 rfl dX8_readLowestSugar_0 ?_
  refine j_iconst E 0 ic_0 dX8_readLowestSugar_1 ?_
  refine j_sipush E 200 sp_200 dX8_readLowestSugar_2 ?_
  obtain ⟨r1, X1, h1, hf⟩ := bn2_e hf
  refine j_invV [] [.int r1] E (c_X8_isNumberHere h1) ml_X8_87 mv_X8_isNumberHere rfl ⟨le_ rfl, le_ rfl⟩ (rcX ok1 cf_X8 ent1) rfl rfl (le_ rfl) ⟨le_ rfl, le_ rfl⟩ dX8_readLowestSugar_5 ?_
  refine j_if_ne E 13 (by decide) dX8_readLowestSugar_8 (fun c1 => ?_) (fun c1 => ?_)
  · rw [if_neg c1] at hf
    refine j_aload_n E 0 rfl dX8_readLowestSugar_13 ?_
    refine j_get (f := 1) E ok1 cf_X8 fl_X8_21 (lt_ rfl) rfl ent1 rfl dX8_readLowestSugar_14 ?_
    refine j_getN (f := 0) E (okb10 jl0) cf_X0 fl_X8_91 (lt_ rfl) rfl ent10 rfl dX8_readLowestSugar_17 ?_
    refine j_aload_n E 0 rfl dX8_readLowestSugar_20 ?_
    refine j_get (f := 0) E ok1 cf_X8 fl_X8_12 (lt_ rfl) rfl ent1 rfl dX8_readLowestSugar_21 ?_
    refine j_getN (f := 5) E ok2 cf_X10 fl_X8_95 (lt_ rfl) rfl ent2 rfl dX8_readLowestSugar_24 ?_
    obtain ⟨r2, h2, hf⟩ := bn1_e hf
    refine j_invV [] [.int r2] E (c_X1_isLessThanLast jl0 h2) ml_X8_98 mv_X1_isLessThanLast rfl ⟨le_ rfl, le_ rfl⟩ (rcX (okb11 jl0) cf_X1 ent11) rfl rfl (le_ rfl) ⟨le_ rfl, le_ rfl⟩ dX8_readLowestSugar_27 ?_
    refine j_if_ne E 39 (by decide) dX8_readLowestSugar_30 (fun c2 => ?_) (fun c2 => ?_)
    · rw [if_neg c2] at hf
      refine j_aload_n E 0 rfl dX8_readLowestSugar_39 ?_
      refine j_get (f := 1) E ok1 cf_X8 fl_X8_21 (lt_ rfl) rfl ent1 rfl dX8_readLowestSugar_40 ?_
      refine j_getN (f := 0) E (okb10 jl0) cf_X0 fl_X8_91 (lt_ rfl) rfl ent10 rfl dX8_readLowestSugar_43 ?_
      refine j_getN (f := 3) E (okb11 jl0) cf_X1 fl_X8_103 (lt_ rfl) rfl ent11 rfl dX8_readLowestSugar_46 ?_
      refine j_iconst E 4 ic_4 dX8_readLowestSugar_49 ?_
      refine j_icmp_lt E 59 (by decide) dX8_readLowestSugar_50 (fun c3 => ?_) (fun c3 => ?_)
      · rw [if_pos c3] at hf
        refine j_aload_n E 0 rfl dX8_readLowestSugar_59 ?_
        refine j_get (f := 1) E ok1 cf_X8 fl_X8_21 (lt_ rfl) rfl ent1 rfl dX8_readLowestSugar_60 ?_
        refine j_getN (f := 0) E (okb10 jl0) cf_X0 fl_X8_91 (lt_ rfl) rfl ent10 rfl dX8_readLowestSugar_63 ?_
        refine j_aload_n E 0 rfl dX8_readLowestSugar_66 ?_
        refine j_get (f := 0) E ok1 cf_X8 fl_X8_12 (lt_ rfl) rfl ent1 rfl dX8_readLowestSugar_67 ?_
        refine j_getN (f := 5) E ok2 cf_X10 fl_X8_95 (lt_ rfl) rfl ent2 rfl dX8_readLowestSugar_70 ?_
        obtain ⟨X2, h3, hf⟩ := bn1_e hf
        refine j_invV [] [] E (c_X1_addClass jl0 h3) ml_X8_105 mv_X1_addClass rfl ⟨le_ rfl, le_ rfl⟩ (rcX (okb11 jl0) cf_X1 ent11) rfl rfl (le_ rfl) ⟨le_ rfl, le_ rfl⟩ dX8_readLowestSugar_73 ?_
        refine j_aload_n E 0 rfl dX8_readLowestSugar_76 ?_
        refine j_get (f := 0) E ok1 cf_X8 fl_X8_12 (lt_ rfl) rfl ent1 rfl dX8_readLowestSugar_77 ?_
        obtain ⟨X3, h4, hf⟩ := bn1_e hf
        refine j_invV [] [] E (c_X10_toNext h4) ml_X8_64 mv_X10_toNext rfl ⟨le_ rfl, le_ rfl⟩ (rcX ok2 cf_X10 ent2) rfl rfl (le_ rfl) ⟨le_ rfl, le_ rfl⟩ dX8_readLowestSugar_80 ?_
        refine j_iconst E 1 ic_1 dX8_readLowestSugar_83 ?_
        cases hf
        exact j_iret E rfl (le_ rfl) (le_ rfl) dX8_readLowestSugar_84
      · rw [if_neg c3] at hf
        refine j_aload_n E 0 rfl dX8_readLowestSugar_53 ?_
        refine j_iconst E 5 ic_5 dX8_readLowestSugar_54 ?_
        obtain ⟨r3, X4, h5, hf⟩ := bn2_e hf
        refine j_invV [] [.int r3] E (c_X8_fail h5) ml_X8_60 mv_X8_fail rfl ⟨le_ rfl, le_ rfl⟩ (rcX ok1 cf_X8 ent1) rfl rfl (le_ rfl) ⟨le_ rfl, le_ rfl⟩ dX8_readLowestSugar_55 ?_
        obtain ⟨g1, hf⟩ := gd_e hf
        cases hf
        exact j_iret E (nz_ g1) (le_ rfl) (le_ rfl) dX8_readLowestSugar_58
    · rw [if_pos c2] at hf
      refine j_aload_n E 0 rfl dX8_readLowestSugar_33 ?_
      refine j_iconst E 3 ic_3 dX8_readLowestSugar_34 ?_
      obtain ⟨r4, X5, h6, hf⟩ := bn2_e hf
      refine j_invV [] [.int r4] E (c_X8_fail h6) ml_X8_60 mv_X8_fail rfl ⟨le_ rfl, le_ rfl⟩ (rcX ok1 cf_X8 ent1) rfl rfl (le_ rfl) ⟨le_ rfl, le_ rfl⟩ dX8_readLowestSugar_35 ?_
      obtain ⟨g2, hf⟩ := gd_e hf
      cases hf
      exact j_iret E (nz_ g2) (le_ rfl) (le_ rfl) dX8_readLowestSugar_38
  · rw [if_pos c1] at hf
    refine j_iconst E 0 ic_0 dX8_readLowestSugar_11 ?_
    cases hf
    exact j_iret E rfl (le_ rfl) (le_ rfl) dX8_readLowestSugar_12
def f_X8_readClasses_32 : Nat → XT → Int32 → Int32 → Option (Int32 × XT)
  | 0, _, _, _ => none
  | n + 1, X, v1, v2 => if 4 ≤ v2 then (if v1 = 0 then (some (0, X)) else (bn2 (f_X8_readSemicolon X) (fun r1 X1 => if r1 = 0 then (some (0, X1)) else (some (1, X1))))) else (if v1 = 0 then (if v1 = 0 then (some (0, X)) else (bn2 (f_X8_readSemicolon X) (fun r2 X2 => if r2 = 0 then (some (0, X2)) else (some (1, X2))))) else (if (X 2 0 0 2) = 4 then (if v1 = 0 then (some (0, X)) else (bn2 (f_X8_readSemicolon X) (fun r3 X3 => if r3 = 0 then (some (0, X3)) else (some (1, X3))))) else (bn2 (f_X8_readLowestSugar X) (fun r4 X4 => f_X8_readClasses_32 n X4 r4 (v2 + 1)))))
def f_X8_readClasses (X : XT) : Option (Int32 × XT) :=
  bn1 (f_X10_spells X 1) (fun r1 => if r1 = 0 then (bn2 (f_X8_fail X 1) (fun r3 X3 => gd (r3 &&& 1 = r3) (some (r3, X3)))) else (bn1 (f_X10_toNext X) (fun X1 => bn2 (f_X8_readLowestSugar X1) (fun r2 X2 => f_X8_readClasses_32 2000 X2 r2 0))))
set_option maxRecDepth 20000 in
theorem b_X8_readClasses_32 {p : Program} {l : Launch} {e : Env} {s : State} {m : MethodId} {args : Array Value} {below : List Frame} {meth : Method} {c : Code} {D : DD} {z : Nat} {Y : YT} (E : Cx p s m args meth c D z RX8 cX8_readClasses 3 (some .boolean)) {r : Int32} {X' : XT} : ∀ (n : Nat) (X : XT) (v1 : Int32) (v2 : Int32) (hf : f_X8_readClasses_32 n X v1 v2 = some (r, X')), J p l e (rmk 6 0 0) s m args below meth c D z (GG D z (X, Y)) 0 0 (MQ below (QC z (some (.int r)) (GG D z (X', Y))) args s (rmk 6 0 0).cells (rmk 6 0 0).slots (Az z)) 3 32 [(0, .ref (z + aX 1 0 0)), (1, .int v1), (2, .int v2)] [] := by
  intro n
  induction n with
  | zero =>
    intro X v1 v2 hf
    exact none_e hf
  | succ n ih =>
    intro X v1 v2 hf
    rw [f_X8_readClasses_32] at hf
    refine j_iload_n E 2 rfl dX8_readClasses_32 ?_
    refine j_iconst E 4 ic_4 dX8_readClasses_33 ?_
    refine j_icmp_ge E 63 (by decide) dX8_readClasses_34 (fun c1 => ?_) (fun c1 => ?_)
    · rw [if_pos c1] at hf
      refine j_iload_n E 1 rfl dX8_readClasses_63 ?_
      refine j_if_eq E 78 (by decide) dX8_readClasses_64 (fun c2 => ?_) (fun c2 => ?_)
      · rw [if_pos c2] at hf
        refine j_iconst E 0 ic_0 dX8_readClasses_78 ?_
        cases hf
        exact j_iret E rfl (le_ rfl) (le_ rfl) dX8_readClasses_79
      · rw [if_neg c2] at hf
        refine j_aload_n E 0 rfl dX8_readClasses_67 ?_
        obtain ⟨r1, X1, h1, hf⟩ := bn2_e hf
        refine j_invV [] [.int r1] E (c_X8_readSemicolon h1) ml_X8_79 mv_X8_readSemicolon rfl ⟨le_ rfl, le_ rfl⟩ (rcX ok1 cf_X8 ent1) rfl rfl (le_ rfl) ⟨le_ rfl, le_ rfl⟩ dX8_readClasses_68 ?_
        refine j_if_eq E 78 (by decide) dX8_readClasses_71 (fun c3 => ?_) (fun c3 => ?_)
        · rw [if_pos c3] at hf
          refine j_iconst E 0 ic_0 dX8_readClasses_78 ?_
          cases hf
          exact j_iret E rfl (le_ rfl) (le_ rfl) dX8_readClasses_79
        · rw [if_neg c3] at hf
          refine j_iconst E 1 ic_1 dX8_readClasses_74 ?_
          refine j_goto E 79 (by decide) dX8_readClasses_75 ?_
          cases hf
          exact j_iret E rfl (le_ rfl) (le_ rfl) dX8_readClasses_79
    · rw [if_neg c1] at hf
      refine j_iload_n E 1 rfl dX8_readClasses_37 ?_
      refine j_if_eq E 63 (by decide) dX8_readClasses_38 (fun c4 => ?_) (fun c4 => ?_)
      · rw [if_pos c4] at hf
        refine j_iload_n E 1 rfl dX8_readClasses_63 ?_
        refine j_if_eq E 78 (by decide) dX8_readClasses_64 (fun c5 => ?_) (fun c5 => ?_)
        · rw [if_pos c5] at hf
          refine j_iconst E 0 ic_0 dX8_readClasses_78 ?_
          cases hf
          exact j_iret E rfl (le_ rfl) (le_ rfl) dX8_readClasses_79
        · rw [if_neg c5] at hf
          refine j_aload_n E 0 rfl dX8_readClasses_67 ?_
          obtain ⟨r2, X2, h2, hf⟩ := bn2_e hf
          refine j_invV [] [.int r2] E (c_X8_readSemicolon h2) ml_X8_79 mv_X8_readSemicolon rfl ⟨le_ rfl, le_ rfl⟩ (rcX ok1 cf_X8 ent1) rfl rfl (le_ rfl) ⟨le_ rfl, le_ rfl⟩ dX8_readClasses_68 ?_
          refine j_if_eq E 78 (by decide) dX8_readClasses_71 (fun c6 => ?_) (fun c6 => ?_)
          · rw [if_pos c6] at hf
            refine j_iconst E 0 ic_0 dX8_readClasses_78 ?_
            cases hf
            exact j_iret E rfl (le_ rfl) (le_ rfl) dX8_readClasses_79
          · rw [if_neg c6] at hf
            refine j_iconst E 1 ic_1 dX8_readClasses_74 ?_
            refine j_goto E 79 (by decide) dX8_readClasses_75 ?_
            cases hf
            exact j_iret E rfl (le_ rfl) (le_ rfl) dX8_readClasses_79
      · rw [if_neg c4] at hf
        refine j_aload_n E 0 rfl dX8_readClasses_41 ?_
        refine j_get (f := 0) E ok1 cf_X8 fl_X8_12 (lt_ rfl) rfl ent1 rfl dX8_readClasses_42 ?_
        refine j_getN (f := 2) E ok2 cf_X10 fl_X8_45 (lt_ rfl) rfl ent2 rfl dX8_readClasses_45 ?_
        refine j_iconst E 4 ic_4 dX8_readClasses_48 ?_
        refine j_icmp_eq E 63 (by decide) dX8_readClasses_49 (fun c7 => ?_) (fun c7 => ?_)
        · rw [if_pos c7] at hf
          refine j_iload_n E 1 rfl dX8_readClasses_63 ?_
          refine j_if_eq E 78 (by decide) dX8_readClasses_64 (fun c8 => ?_) (fun c8 => ?_)
          · rw [if_pos c8] at hf
            refine j_iconst E 0 ic_0 dX8_readClasses_78 ?_
            cases hf
            exact j_iret E rfl (le_ rfl) (le_ rfl) dX8_readClasses_79
          · rw [if_neg c8] at hf
            refine j_aload_n E 0 rfl dX8_readClasses_67 ?_
            obtain ⟨r3, X3, h3, hf⟩ := bn2_e hf
            refine j_invV [] [.int r3] E (c_X8_readSemicolon h3) ml_X8_79 mv_X8_readSemicolon rfl ⟨le_ rfl, le_ rfl⟩ (rcX ok1 cf_X8 ent1) rfl rfl (le_ rfl) ⟨le_ rfl, le_ rfl⟩ dX8_readClasses_68 ?_
            refine j_if_eq E 78 (by decide) dX8_readClasses_71 (fun c9 => ?_) (fun c9 => ?_)
            · rw [if_pos c9] at hf
              refine j_iconst E 0 ic_0 dX8_readClasses_78 ?_
              cases hf
              exact j_iret E rfl (le_ rfl) (le_ rfl) dX8_readClasses_79
            · rw [if_neg c9] at hf
              refine j_iconst E 1 ic_1 dX8_readClasses_74 ?_
              refine j_goto E 79 (by decide) dX8_readClasses_75 ?_
              cases hf
              exact j_iret E rfl (le_ rfl) (le_ rfl) dX8_readClasses_79
        · rw [if_neg c7] at hf
          refine j_aload_n E 0 rfl dX8_readClasses_52 ?_
          obtain ⟨r4, X4, h4, hf⟩ := bn2_e hf
          refine j_invV [] [.int r4] E (c_X8_readLowestSugar h4) ml_X8_84 mv_X8_readLowestSugar rfl ⟨le_ rfl, le_ rfl⟩ (rcX ok1 cf_X8 ent1) rfl rfl (le_ rfl) ⟨le_ rfl, le_ rfl⟩ dX8_readClasses_53 ?_
          refine j_istore_n (ls' := [(1, .int r4), (0, .ref (z + aX 1 0 0)), (2, .int v2)]) E (lt_ rfl) rfl dX8_readClasses_56 ?_
          refine j_iinc (ls' := [(2, .int (v2 + 1)), (1, .int r4), (0, .ref (z + aX 1 0 0))]) E 2 rfl (lt_ rfl) (v2 + 1) (congrArg (fun q => v2 + q) ic_1) rfl dX8_readClasses_57 ?_
          refine j_goto E 32 (by decide) dX8_readClasses_60 ?_
          refine j_sub [2, 1, 0] rfl ?_
          exact ih _ _ _ hf
set_option maxRecDepth 20000 in
theorem c_X8_readClasses {l : Launch} {D : DD} {z : Nat} {Y : YT} {X : XT} {r : Int32} {X' : XT} (hf : f_X8_readClasses X = some (r, X')) : CC l yX8_readClasses cX8_readClasses 3 (some .boolean) (rmk 6 0 0) D z [.ref (z + aX 1 0 0)] (GG D z (X, Y)) (some (.int r)) (GG D z (X', Y)) := by
  unfold f_X8_readClasses at hf
  refine cc_of pn_X8 (le_ rfl) (ls := [(0, .ref (z + aX 1 0 0))]) rfl ?_
  intro p e s m args below meth c E
  refine j_aload_n E 0 rfl dX8_readClasses_0 ?_
  refine j_get (f := 0) E ok1 cf_X8 fl_X8_12 (lt_ rfl) rfl ent1 rfl dX8_readClasses_1 ?_
  refine j_ldcS E sl_X8_82 sc_X8_82 dX8_readClasses_4 ?_
  obtain ⟨r1, h1, hf⟩ := bn1_e hf
  refine j_invV [] [.int r1] E (c_X10_spells (lt_ rfl) h1) ml_X8_56 mv_X10_spells rfl ⟨le_ rfl, le_ rfl⟩ (rcX ok2 cf_X10 ent2) rfl rfl (le_ rfl) ⟨le_ rfl, le_ rfl⟩ dX8_readClasses_6 ?_
  refine j_if_ne E 18 (by decide) dX8_readClasses_9 (fun c1 => ?_) (fun c1 => ?_)
  · rw [if_neg c1] at hf
    refine j_aload_n E 0 rfl dX8_readClasses_18 ?_
    refine j_get (f := 0) E ok1 cf_X8 fl_X8_12 (lt_ rfl) rfl ent1 rfl dX8_readClasses_19 ?_
    obtain ⟨X1, h2, hf⟩ := bn1_e hf
    refine j_invV [] [] E (c_X10_toNext h2) ml_X8_64 mv_X10_toNext rfl ⟨le_ rfl, le_ rfl⟩ (rcX ok2 cf_X10 ent2) rfl rfl (le_ rfl) ⟨le_ rfl, le_ rfl⟩ dX8_readClasses_22 ?_
    refine j_aload_n E 0 rfl dX8_readClasses_25 ?_
    obtain ⟨r2, X2, h3, hf⟩ := bn2_e hf
    refine j_invV [] [.int r2] E (c_X8_readLowestSugar h3) ml_X8_84 mv_X8_readLowestSugar rfl ⟨le_ rfl, le_ rfl⟩ (rcX ok1 cf_X8 ent1) rfl rfl (le_ rfl) ⟨le_ rfl, le_ rfl⟩ dX8_readClasses_26 ?_
    refine j_istore_n (ls' := [(1, .int r2), (0, .ref (z + aX 1 0 0))]) E (lt_ rfl) rfl dX8_readClasses_29 ?_
    refine j_iconst E 0 ic_0 dX8_readClasses_30 ?_
    refine j_istore_n (ls' := [(2, .int 0), (1, .int r2), (0, .ref (z + aX 1 0 0))]) E (lt_ rfl) rfl dX8_readClasses_31 ?_
    refine j_sub [2, 1, 0] rfl ?_
    exact b_X8_readClasses_32 E 2000 _ _ _ hf
  · rw [if_pos c1] at hf
    refine j_aload_n E 0 rfl dX8_readClasses_12 ?_
    refine j_iconst E 1 ic_1 dX8_readClasses_13 ?_
    obtain ⟨r3, X3, h4, hf⟩ := bn2_e hf
    refine j_invV [] [.int r3] E (c_X8_fail h4) ml_X8_60 mv_X8_fail rfl ⟨le_ rfl, le_ rfl⟩ (rcX ok1 cf_X8 ent1) rfl rfl (le_ rfl) ⟨le_ rfl, le_ rfl⟩ dX8_readClasses_14 ?_
    obtain ⟨g1, hf⟩ := gd_e hf
    cases hf
    exact j_iret E (nz_ g1) (le_ rfl) (le_ rfl) dX8_readClasses_17
def f_X8_isWordHere (X : XT) : Option (Int32 × XT) :=
  if (X 2 0 0 2) = 2 then (some (1, X)) else (bn2 (f_X8_fail X 1) (fun r1 X1 => if r1 = 0 then (some (0, X1)) else (some (1, X1))))
set_option maxRecDepth 20000 in
theorem c_X8_isWordHere {l : Launch} {D : DD} {z : Nat} {Y : YT} {X : XT} {r : Int32} {X' : XT} (hf : f_X8_isWordHere X = some (r, X')) : CC l yX8_isWordHere cX8_isWordHere 1 (some .boolean) (rmk 2 0 0) D z [.ref (z + aX 1 0 0)] (GG D z (X, Y)) (some (.int r)) (GG D z (X', Y)) := by
  unfold f_X8_isWordHere at hf
  refine cc_of pn_X8 (le_ rfl) (ls := [(0, .ref (z + aX 1 0 0))]) rfl ?_
  intro p e s m args below meth c E
  refine j_aload_n E 0 rfl dX8_isWordHere_0 ?_
  refine j_get (f := 0) E ok1 cf_X8 fl_X8_12 (lt_ rfl) rfl ent1 rfl dX8_isWordHere_1 ?_
  refine j_getN (f := 2) E ok2 cf_X10 fl_X8_45 (lt_ rfl) rfl ent2 rfl dX8_isWordHere_4 ?_
  refine j_iconst E 2 ic_2 dX8_isWordHere_7 ?_
  refine j_icmp_eq E 19 (by decide) dX8_isWordHere_8 (fun c1 => ?_) (fun c1 => ?_)
  · rw [if_pos c1] at hf
    refine j_iconst E 1 ic_1 dX8_isWordHere_19 ?_
    refine j_goto E 24 (by decide) dX8_isWordHere_20 ?_
    cases hf
    exact j_iret E rfl (le_ rfl) (le_ rfl) dX8_isWordHere_24
  · rw [if_neg c1] at hf
    refine j_aload_n E 0 rfl dX8_isWordHere_11 ?_
    refine j_iconst E 1 ic_1 dX8_isWordHere_12 ?_
    obtain ⟨r1, X1, h1, hf⟩ := bn2_e hf
    refine j_invV [] [.int r1] E (c_X8_fail h1) ml_X8_60 mv_X8_fail rfl ⟨le_ rfl, le_ rfl⟩ (rcX ok1 cf_X8 ent1) rfl rfl (le_ rfl) ⟨le_ rfl, le_ rfl⟩ dX8_isWordHere_13 ?_
    refine j_if_eq E 23 (by decide) dX8_isWordHere_16 (fun c2 => ?_) (fun c2 => ?_)
    · rw [if_pos c2] at hf
      refine j_iconst E 0 ic_0 dX8_isWordHere_23 ?_
      cases hf
      exact j_iret E rfl (le_ rfl) (le_ rfl) dX8_isWordHere_24
    · rw [if_neg c2] at hf
      refine j_iconst E 1 ic_1 dX8_isWordHere_19 ?_
      refine j_goto E 24 (by decide) dX8_isWordHere_20 ?_
      cases hf
      exact j_iret E rfl (le_ rfl) (le_ rfl) dX8_isWordHere_24
def f_X8_readNewName (X : XT) : Option (Int32 × XT) :=
  bn2 (f_X8_isWordHere X) (fun r1 X1 => if r1 = 0 then (some (0, X1)) else (if (X1 2 0 0 6) = 0 then (bn2 (f_X8_fail X1 2) (fun r4 X4 => some (0, X4))) else (bn1 (f_X0_isNameTaken X1 0 (X1 2 0 0 6)) (fun r2 => if r2 = 0 then (bn1 (f_X10_toNext X1) (fun X2 => some ((X1 2 0 0 6), X2))) else (bn2 (f_X8_fail X1 3) (fun r3 X3 => some (0, X3)))))))
set_option maxRecDepth 20000 in
theorem c_X8_readNewName {l : Launch} {D : DD} {z : Nat} {Y : YT} {X : XT} {r : Int32} {X' : XT} (hf : f_X8_readNewName X = some (r, X')) : CC l yX8_readNewName cX8_readNewName 2 (some .int) (rmk 3 0 0) D z [.ref (z + aX 1 0 0)] (GG D z (X, Y)) (some (.int r)) (GG D z (X', Y)) := by
  unfold f_X8_readNewName at hf
  refine cc_of pn_X8 (le_ rfl) (ls := [(0, .ref (z + aX 1 0 0))]) rfl ?_
  intro p e s m args below meth c E
  refine j_aload_n E 0 rfl dX8_readNewName_0 ?_
  obtain ⟨r1, X1, h1, hf⟩ := bn2_e hf
  refine j_invV [] [.int r1] E (c_X8_isWordHere h1) ml_X8_262 mv_X8_isWordHere rfl ⟨le_ rfl, le_ rfl⟩ (rcX ok1 cf_X8 ent1) rfl rfl (le_ rfl) ⟨le_ rfl, le_ rfl⟩ dX8_readNewName_1 ?_
  refine j_if_ne E 9 (by decide) dX8_readNewName_4 (fun c1 => ?_) (fun c1 => ?_)
  · rw [if_neg c1] at hf
    refine j_aload_n E 0 rfl dX8_readNewName_9 ?_
    refine j_get (f := 0) E ok1 cf_X8 fl_X8_12 (lt_ rfl) rfl ent1 rfl dX8_readNewName_10 ?_
    refine j_getN (f := 6) E ok2 cf_X10 fl_X8_265 (lt_ rfl) rfl ent2 rfl dX8_readNewName_13 ?_
    refine j_istore_n (ls' := [(1, .int (X1 2 0 0 6)), (0, .ref (z + aX 1 0 0))]) E (lt_ rfl) rfl dX8_readNewName_16 ?_
    refine j_iload_n E 0 rfl dX8_readNewName_17 ?_
    refine j_if_ne E 29 (by decide) dX8_readNewName_18 (fun c2 => ?_) (fun c2 => ?_)
    · rw [if_neg c2] at hf
      refine j_aload_n E 1 rfl dX8_readNewName_29 ?_
      refine j_get (f := 1) E ok1 cf_X8 fl_X8_21 (lt_ rfl) rfl ent1 rfl dX8_readNewName_30 ?_
      refine j_iload_n E 0 rfl dX8_readNewName_33 ?_
      obtain ⟨r2, h2, hf⟩ := bn1_e hf
      refine j_invV [] [.int r2] E (c_X0_isNameTaken jl0 h2) ml_X8_268 mv_X0_isNameTaken rfl ⟨le_ rfl, le_ rfl⟩ (rcX (okb10 jl0) cf_X0 ent10) rfl rfl (le_ rfl) ⟨le_ rfl, le_ rfl⟩ dX8_readNewName_34 ?_
      refine j_if_eq E 48 (by decide) dX8_readNewName_37 (fun c3 => ?_) (fun c3 => ?_)
      · rw [if_pos c3] at hf
        refine j_aload_n E 1 rfl dX8_readNewName_48 ?_
        refine j_get (f := 0) E ok1 cf_X8 fl_X8_12 (lt_ rfl) rfl ent1 rfl dX8_readNewName_49 ?_
        obtain ⟨X2, h3, hf⟩ := bn1_e hf
        refine j_invV [] [] E (c_X10_toNext h3) ml_X8_64 mv_X10_toNext rfl ⟨le_ rfl, le_ rfl⟩ (rcX ok2 cf_X10 ent2) rfl rfl (le_ rfl) ⟨le_ rfl, le_ rfl⟩ dX8_readNewName_52 ?_
        refine j_iload_n E 0 rfl dX8_readNewName_55 ?_
        cases hf
        exact j_iret E rfl (le_ rfl) (le_ rfl) dX8_readNewName_56
      · rw [if_neg c3] at hf
        refine j_aload_n E 1 rfl dX8_readNewName_40 ?_
        refine j_iconst E 3 ic_3 dX8_readNewName_41 ?_
        obtain ⟨r3, X3, h4, hf⟩ := bn2_e hf
        refine j_invV [] [.int r3] E (c_X8_fail h4) ml_X8_60 mv_X8_fail rfl ⟨le_ rfl, le_ rfl⟩ (rcX ok1 cf_X8 ent1) rfl rfl (le_ rfl) ⟨le_ rfl, le_ rfl⟩ dX8_readNewName_42 ?_
        refine j_pop E rfl dX8_readNewName_45 ?_
        refine j_iconst E 0 ic_0 dX8_readNewName_46 ?_
        cases hf
        exact j_iret E rfl (le_ rfl) (le_ rfl) dX8_readNewName_47
    · rw [if_pos c2] at hf
      refine j_aload_n E 1 rfl dX8_readNewName_21 ?_
      refine j_iconst E 2 ic_2 dX8_readNewName_22 ?_
      obtain ⟨r4, X4, h5, hf⟩ := bn2_e hf
      refine j_invV [] [.int r4] E (c_X8_fail h5) ml_X8_60 mv_X8_fail rfl ⟨le_ rfl, le_ rfl⟩ (rcX ok1 cf_X8 ent1) rfl rfl (le_ rfl) ⟨le_ rfl, le_ rfl⟩ dX8_readNewName_23 ?_
      refine j_pop E rfl dX8_readNewName_26 ?_
      refine j_iconst E 0 ic_0 dX8_readNewName_27 ?_
      cases hf
      exact j_iret E rfl (le_ rfl) (le_ rfl) dX8_readNewName_28
  · rw [if_pos c1] at hf
    refine j_iconst E 0 ic_0 dX8_readNewName_7 ?_
    cases hf
    exact j_iret E rfl (le_ rfl) (le_ rfl) dX8_readNewName_8
def f_X8_readVariety (X : XT) : Option (Int32 × XT) :=
  if (X 11 0 0 4) < 4 then (bn1 (f_X10_toNext X) (fun X1 => bn2 (f_X8_readNewName X1) (fun r1 X2 => if r1 = 0 then (some (0, X2)) else (bn1 (f_X1_addVariety X2 0 r1) (fun X3 => bn2 (f_X8_readSemicolon X3) (fun r2 X4 => gd (r2 &&& 1 = r2) (some (r2, X4)))))))) else (bn2 (f_X8_fail X 5) (fun r3 X5 => gd (r3 &&& 1 = r3) (some (r3, X5))))
set_option maxRecDepth 20000 in
theorem c_X8_readVariety {l : Launch} {D : DD} {z : Nat} {Y : YT} {X : XT} {r : Int32} {X' : XT} (hf : f_X8_readVariety X = some (r, X')) : CC l yX8_readVariety cX8_readVariety 2 (some .boolean) (rmk 4 0 0) D z [.ref (z + aX 1 0 0)] (GG D z (X, Y)) (some (.int r)) (GG D z (X', Y)) := by
  unfold f_X8_readVariety at hf
  refine cc_of pn_X8 (le_ rfl) (ls := [(0, .ref (z + aX 1 0 0))]) rfl ?_
  intro p e s m args below meth c E
  refine j_aload_n E 0 rfl dX8_readVariety_0 ?_
  refine j_get (f := 1) E ok1 cf_X8 fl_X8_21 (lt_ rfl) rfl ent1 rfl dX8_readVariety_1 ?_
  refine j_getN (f := 0) E (okb10 jl0) cf_X0 fl_X8_91 (lt_ rfl) rfl ent10 rfl dX8_readVariety_4 ?_
  refine j_getN (f := 4) E (okb11 jl0) cf_X1 fl_X8_158 (lt_ rfl) rfl ent11 rfl dX8_readVariety_7 ?_
  refine j_iconst E 4 ic_4 dX8_readVariety_10 ?_
  refine j_icmp_lt E 20 (by decide) dX8_readVariety_11 (fun c1 => ?_) (fun c1 => ?_)
  · rw [if_pos c1] at hf
    refine j_aload_n E 0 rfl dX8_readVariety_20 ?_
    refine j_get (f := 0) E ok1 cf_X8 fl_X8_12 (lt_ rfl) rfl ent1 rfl dX8_readVariety_21 ?_
    obtain ⟨X1, h1, hf⟩ := bn1_e hf
    refine j_invV [] [] E (c_X10_toNext h1) ml_X8_64 mv_X10_toNext rfl ⟨le_ rfl, le_ rfl⟩ (rcX ok2 cf_X10 ent2) rfl rfl (le_ rfl) ⟨le_ rfl, le_ rfl⟩ dX8_readVariety_24 ?_
    refine j_aload_n E 0 rfl dX8_readVariety_27 ?_
    obtain ⟨r1, X2, h2, hf⟩ := bn2_e hf
    refine j_invV [] [.int r1] E (c_X8_readNewName h2) ml_X8_161 mv_X8_readNewName rfl ⟨le_ rfl, le_ rfl⟩ (rcX ok1 cf_X8 ent1) rfl rfl (le_ rfl) ⟨le_ rfl, le_ rfl⟩ dX8_readVariety_28 ?_
    refine j_istore_n (ls' := [(1, .int r1), (0, .ref (z + aX 1 0 0))]) E (lt_ rfl) rfl dX8_readVariety_31 ?_
    refine j_iload_n E 0 rfl dX8_readVariety_32 ?_
    refine j_if_ne E 38 (by decide) dX8_readVariety_33 (fun c2 => ?_) (fun c2 => ?_)
    · rw [if_neg c2] at hf
      refine j_aload_n E 1 rfl dX8_readVariety_38 ?_
      refine j_get (f := 1) E ok1 cf_X8 fl_X8_21 (lt_ rfl) rfl ent1 rfl dX8_readVariety_39 ?_
      refine j_getN (f := 0) E (okb10 jl0) cf_X0 fl_X8_91 (lt_ rfl) rfl ent10 rfl dX8_readVariety_42 ?_
      refine j_iload_n E 0 rfl dX8_readVariety_45 ?_
      obtain ⟨X3, h3, hf⟩ := bn1_e hf
      refine j_invV [] [] E (c_X1_addVariety jl0 h3) ml_X8_165 mv_X1_addVariety rfl ⟨le_ rfl, le_ rfl⟩ (rcX (okb11 jl0) cf_X1 ent11) rfl rfl (le_ rfl) ⟨le_ rfl, le_ rfl⟩ dX8_readVariety_46 ?_
      refine j_aload_n E 1 rfl dX8_readVariety_49 ?_
      obtain ⟨r2, X4, h4, hf⟩ := bn2_e hf
      refine j_invV [] [.int r2] E (c_X8_readSemicolon h4) ml_X8_79 mv_X8_readSemicolon rfl ⟨le_ rfl, le_ rfl⟩ (rcX ok1 cf_X8 ent1) rfl rfl (le_ rfl) ⟨le_ rfl, le_ rfl⟩ dX8_readVariety_50 ?_
      obtain ⟨g1, hf⟩ := gd_e hf
      cases hf
      exact j_iret E (nz_ g1) (le_ rfl) (le_ rfl) dX8_readVariety_53
    · rw [if_pos c2] at hf
      refine j_iconst E 0 ic_0 dX8_readVariety_36 ?_
      cases hf
      exact j_iret E rfl (le_ rfl) (le_ rfl) dX8_readVariety_37
  · rw [if_neg c1] at hf
    refine j_aload_n E 0 rfl dX8_readVariety_14 ?_
    refine j_iconst E 5 ic_5 dX8_readVariety_15 ?_
    obtain ⟨r3, X5, h5, hf⟩ := bn2_e hf
    refine j_invV [] [.int r3] E (c_X8_fail h5) ml_X8_60 mv_X8_fail rfl ⟨le_ rfl, le_ rfl⟩ (rcX ok1 cf_X8 ent1) rfl rfl (le_ rfl) ⟨le_ rfl, le_ rfl⟩ dX8_readVariety_16 ?_
    obtain ⟨g2, hf⟩ := gd_e hf
    cases hf
    exact j_iret E (nz_ g2) (le_ rfl) (le_ rfl) dX8_readVariety_19
def f_X8_readVarietyName (X : XT) : Option (Int32 × XT) :=
  bn2 (f_X8_isWordHere X) (fun r1 X1 => if r1 = 0 then (some ((-1), X1)) else (bn1 (f_X1_varietyNamed X1 0 (X1 2 0 0 6)) (fun r2 => if r2 = (-1) then (bn2 (f_X8_fail X1 4) (fun r3 X3 => some (r2, X3))) else (bn1 (f_X10_toNext X1) (fun X2 => some (r2, X2))))))
set_option maxRecDepth 20000 in
theorem c_X8_readVarietyName {l : Launch} {D : DD} {z : Nat} {Y : YT} {X : XT} {r : Int32} {X' : XT} (hf : f_X8_readVarietyName X = some (r, X')) : CC l yX8_readVarietyName cX8_readVarietyName 2 (some .int) (rmk 3 0 0) D z [.ref (z + aX 1 0 0)] (GG D z (X, Y)) (some (.int r)) (GG D z (X', Y)) := by
  unfold f_X8_readVarietyName at hf
  refine cc_of pn_X8 (le_ rfl) (ls := [(0, .ref (z + aX 1 0 0))]) rfl ?_
  intro p e s m args below meth c E
  refine j_aload_n E 0 rfl dX8_readVarietyName_0 ?_
  obtain ⟨r1, X1, h1, hf⟩ := bn2_e hf
  refine j_invV [] [.int r1] E (c_X8_isWordHere h1) ml_X8_262 mv_X8_isWordHere rfl ⟨le_ rfl, le_ rfl⟩ (rcX ok1 cf_X8 ent1) rfl rfl (le_ rfl) ⟨le_ rfl, le_ rfl⟩ dX8_readVarietyName_1 ?_
  refine j_if_ne E 9 (by decide) dX8_readVarietyName_4 (fun c1 => ?_) (fun c1 => ?_)
  · rw [if_neg c1] at hf
    refine j_aload_n E 0 rfl dX8_readVarietyName_9 ?_
    refine j_get (f := 1) E ok1 cf_X8 fl_X8_21 (lt_ rfl) rfl ent1 rfl dX8_readVarietyName_10 ?_
    refine j_getN (f := 0) E (okb10 jl0) cf_X0 fl_X8_91 (lt_ rfl) rfl ent10 rfl dX8_readVarietyName_13 ?_
    refine j_aload_n E 0 rfl dX8_readVarietyName_16 ?_
    refine j_get (f := 0) E ok1 cf_X8 fl_X8_12 (lt_ rfl) rfl ent1 rfl dX8_readVarietyName_17 ?_
    refine j_getN (f := 6) E ok2 cf_X10 fl_X8_265 (lt_ rfl) rfl ent2 rfl dX8_readVarietyName_20 ?_
    obtain ⟨r2, h2, hf⟩ := bn1_e hf
    refine j_invV [] [.int r2] E (c_X1_varietyNamed jl0 h2) ml_X8_271 mv_X1_varietyNamed rfl ⟨le_ rfl, le_ rfl⟩ (rcX (okb11 jl0) cf_X1 ent11) rfl rfl (le_ rfl) ⟨le_ rfl, le_ rfl⟩ dX8_readVarietyName_23 ?_
    refine j_istore_n (ls' := [(1, .int r2), (0, .ref (z + aX 1 0 0))]) E (lt_ rfl) rfl dX8_readVarietyName_26 ?_
    refine j_iload_n E 0 rfl dX8_readVarietyName_27 ?_
    refine j_iconst E (-1) ic_m1 dX8_readVarietyName_28 ?_
    refine j_icmp_ne E 41 (by decide) dX8_readVarietyName_29 (fun c2 => ?_) (fun c2 => ?_)
    · rw [if_neg c2] at hf
      refine j_aload_n E 1 rfl dX8_readVarietyName_41 ?_
      refine j_get (f := 0) E ok1 cf_X8 fl_X8_12 (lt_ rfl) rfl ent1 rfl dX8_readVarietyName_42 ?_
      obtain ⟨X2, h3, hf⟩ := bn1_e hf
      refine j_invV [] [] E (c_X10_toNext h3) ml_X8_64 mv_X10_toNext rfl ⟨le_ rfl, le_ rfl⟩ (rcX ok2 cf_X10 ent2) rfl rfl (le_ rfl) ⟨le_ rfl, le_ rfl⟩ dX8_readVarietyName_45 ?_
      refine j_iload_n E 0 rfl dX8_readVarietyName_48 ?_
      cases hf
      exact j_iret E rfl (le_ rfl) (le_ rfl) dX8_readVarietyName_49
    · rw [if_pos c2] at hf
      refine j_aload_n E 1 rfl dX8_readVarietyName_32 ?_
      refine j_iconst E 4 ic_4 dX8_readVarietyName_33 ?_
      obtain ⟨r3, X3, h4, hf⟩ := bn2_e hf
      refine j_invV [] [.int r3] E (c_X8_fail h4) ml_X8_60 mv_X8_fail rfl ⟨le_ rfl, le_ rfl⟩ (rcX ok1 cf_X8 ent1) rfl rfl (le_ rfl) ⟨le_ rfl, le_ rfl⟩ dX8_readVarietyName_34 ?_
      refine j_pop E rfl dX8_readVarietyName_37 ?_
      refine j_goto E 48 (by decide) dX8_readVarietyName_38 ?_
      refine j_iload_n E 0 rfl dX8_readVarietyName_48 ?_
      cases hf
      exact j_iret E rfl (le_ rfl) (le_ rfl) dX8_readVarietyName_49
  · rw [if_pos c1] at hf
    refine j_iconst E (-1) ic_m1 dX8_readVarietyName_7 ?_
    cases hf
    exact j_iret E rfl (le_ rfl) (le_ rfl) dX8_readVarietyName_8
def f_X8_readPrice (X : XT) : Option (Int32 × XT) :=
  bn1 (f_X10_toNext X) (fun X1 => bn2 (f_X8_readVarietyName X1) (fun r1 X2 => if r1 = (-1) then (some (0, X2)) else (bn2 (f_X8_readNumber X2 0 ((X2 11 0 0 3) - 1)) (fun r2 X3 => if r2 = (-1) then (some (0, X3)) else (bn2 (f_X8_readNumber X3 0 999) (fun r3 X4 => if r3 = (-1) then (some (0, X4)) else (bn1 (f_X1_putPrice X4 0 r1 r2 r3) (fun X5 => bn2 (f_X8_readSemicolon X5) (fun r4 X6 => gd (r4 &&& 1 = r4) (some (r4, X6)))))))))))
set_option maxRecDepth 20000 in
theorem c_X8_readPrice {l : Launch} {D : DD} {z : Nat} {Y : YT} {X : XT} {r : Int32} {X' : XT} (hf : f_X8_readPrice X = some (r, X')) : CC l yX8_readPrice cX8_readPrice 4 (some .boolean) (rmk 4 0 0) D z [.ref (z + aX 1 0 0)] (GG D z (X, Y)) (some (.int r)) (GG D z (X', Y)) := by
  unfold f_X8_readPrice at hf
  refine cc_of pn_X8 (le_ rfl) (ls := [(0, .ref (z + aX 1 0 0))]) rfl ?_
  intro p e s m args below meth c E
  refine j_aload_n E 0 rfl dX8_readPrice_0 ?_
  refine j_get (f := 0) E ok1 cf_X8 fl_X8_12 (lt_ rfl) rfl ent1 rfl dX8_readPrice_1 ?_
  obtain ⟨X1, h1, hf⟩ := bn1_e hf
  refine j_invV [] [] E (c_X10_toNext h1) ml_X8_64 mv_X10_toNext rfl ⟨le_ rfl, le_ rfl⟩ (rcX ok2 cf_X10 ent2) rfl rfl (le_ rfl) ⟨le_ rfl, le_ rfl⟩ dX8_readPrice_4 ?_
  refine j_aload_n E 0 rfl dX8_readPrice_7 ?_
  obtain ⟨r1, X2, h2, hf⟩ := bn2_e hf
  refine j_invV [] [.int r1] E (c_X8_readVarietyName h2) ml_X8_168 mv_X8_readVarietyName rfl ⟨le_ rfl, le_ rfl⟩ (rcX ok1 cf_X8 ent1) rfl rfl (le_ rfl) ⟨le_ rfl, le_ rfl⟩ dX8_readPrice_8 ?_
  refine j_istore_n (ls' := [(1, .int r1), (0, .ref (z + aX 1 0 0))]) E (lt_ rfl) rfl dX8_readPrice_11 ?_
  refine j_iload_n E 0 rfl dX8_readPrice_12 ?_
  refine j_iconst E (-1) ic_m1 dX8_readPrice_13 ?_
  refine j_icmp_ne E 19 (by decide) dX8_readPrice_14 (fun c1 => ?_) (fun c1 => ?_)
  · rw [if_neg c1] at hf
    refine j_aload_n E 1 rfl dX8_readPrice_19 ?_
    refine j_iconst E 0 ic_0 dX8_readPrice_20 ?_
    refine j_aload_n E 1 rfl dX8_readPrice_21 ?_
    refine j_get (f := 1) E ok1 cf_X8 fl_X8_21 (lt_ rfl) rfl ent1 rfl dX8_readPrice_22 ?_
    refine j_getN (f := 0) E (okb10 jl0) cf_X0 fl_X8_91 (lt_ rfl) rfl ent10 rfl dX8_readPrice_25 ?_
    refine j_getN (f := 3) E (okb11 jl0) cf_X1 fl_X8_103 (lt_ rfl) rfl ent11 rfl dX8_readPrice_28 ?_
    refine j_iconst E 1 ic_1 dX8_readPrice_31 ?_
    refine j_isub E dX8_readPrice_32 ?_
    obtain ⟨r2, X3, h3, hf⟩ := bn2_e hf
    refine j_invV [] [.int r2] E (c_X8_readNumber h3) ml_X8_67 mv_X8_readNumber rfl ⟨le_ rfl, le_ rfl⟩ (rcX ok1 cf_X8 ent1) rfl rfl (le_ rfl) ⟨le_ rfl, le_ rfl⟩ dX8_readPrice_33 ?_
    refine j_istore_n (ls' := [(2, .int r2), (1, .int r1), (0, .ref (z + aX 1 0 0))]) E (lt_ rfl) rfl dX8_readPrice_36 ?_
    refine j_iload_n E 0 rfl dX8_readPrice_37 ?_
    refine j_iconst E (-1) ic_m1 dX8_readPrice_38 ?_
    refine j_icmp_ne E 44 (by decide) dX8_readPrice_39 (fun c2 => ?_) (fun c2 => ?_)
    · rw [if_neg c2] at hf
      refine j_aload_n E 2 rfl dX8_readPrice_44 ?_
      refine j_iconst E 0 ic_0 dX8_readPrice_45 ?_
      refine j_sipush E 999 sp_999 dX8_readPrice_46 ?_
      obtain ⟨r3, X4, h4, hf⟩ := bn2_e hf
      refine j_invV [] [.int r3] E (c_X8_readNumber h4) ml_X8_67 mv_X8_readNumber rfl ⟨le_ rfl, le_ rfl⟩ (rcX ok1 cf_X8 ent1) rfl rfl (le_ rfl) ⟨le_ rfl, le_ rfl⟩ dX8_readPrice_49 ?_
      refine j_istore_n (ls' := [(3, .int r3), (2, .int r2), (1, .int r1), (0, .ref (z + aX 1 0 0))]) E (lt_ rfl) rfl dX8_readPrice_52 ?_
      refine j_iload_n E 0 rfl dX8_readPrice_53 ?_
      refine j_iconst E (-1) ic_m1 dX8_readPrice_54 ?_
      refine j_icmp_ne E 60 (by decide) dX8_readPrice_55 (fun c3 => ?_) (fun c3 => ?_)
      · rw [if_neg c3] at hf
        refine j_aload_n E 3 rfl dX8_readPrice_60 ?_
        refine j_get (f := 1) E ok1 cf_X8 fl_X8_21 (lt_ rfl) rfl ent1 rfl dX8_readPrice_61 ?_
        refine j_getN (f := 0) E (okb10 jl0) cf_X0 fl_X8_91 (lt_ rfl) rfl ent10 rfl dX8_readPrice_64 ?_
        refine j_iload_n E 2 rfl dX8_readPrice_67 ?_
        refine j_iload_n E 1 rfl dX8_readPrice_68 ?_
        refine j_iload_n E 0 rfl dX8_readPrice_69 ?_
        obtain ⟨X5, h5, hf⟩ := bn1_e hf
        refine j_invV [] [] E (c_X1_putPrice jl0 h5) ml_X8_171 mv_X1_putPrice rfl ⟨le_ rfl, le_ rfl⟩ (rcX (okb11 jl0) cf_X1 ent11) rfl rfl (le_ rfl) ⟨le_ rfl, le_ rfl⟩ dX8_readPrice_70 ?_
        refine j_aload_n E 3 rfl dX8_readPrice_73 ?_
        obtain ⟨r4, X6, h6, hf⟩ := bn2_e hf
        refine j_invV [] [.int r4] E (c_X8_readSemicolon h6) ml_X8_79 mv_X8_readSemicolon rfl ⟨le_ rfl, le_ rfl⟩ (rcX ok1 cf_X8 ent1) rfl rfl (le_ rfl) ⟨le_ rfl, le_ rfl⟩ dX8_readPrice_74 ?_
        obtain ⟨g1, hf⟩ := gd_e hf
        cases hf
        exact j_iret E (nz_ g1) (le_ rfl) (le_ rfl) dX8_readPrice_77
      · rw [if_pos c3] at hf
        refine j_iconst E 0 ic_0 dX8_readPrice_58 ?_
        cases hf
        exact j_iret E rfl (le_ rfl) (le_ rfl) dX8_readPrice_59
    · rw [if_pos c2] at hf
      refine j_iconst E 0 ic_0 dX8_readPrice_42 ?_
      cases hf
      exact j_iret E rfl (le_ rfl) (le_ rfl) dX8_readPrice_43
  · rw [if_pos c1] at hf
    refine j_iconst E 0 ic_0 dX8_readPrice_17 ?_
    cases hf
    exact j_iret E rfl (le_ rfl) (le_ rfl) dX8_readPrice_18
def f_X8_readGrower (X : XT) : Option (Int32 × XT) :=
  if (X 15 0 0 4) < 6 then (bn1 (f_X10_toNext X) (fun X1 => bn2 (f_X8_readNewName X1) (fun r1 X2 => if r1 = 0 then (some (0, X2)) else (bn1 (f_X5_addGrower X2 0 r1) (fun X3 => bn2 (f_X8_readSemicolon X3) (fun r2 X4 => gd (r2 &&& 1 = r2) (some (r2, X4)))))))) else (bn2 (f_X8_fail X 5) (fun r3 X5 => gd (r3 &&& 1 = r3) (some (r3, X5))))
set_option maxRecDepth 20000 in
theorem c_X8_readGrower {l : Launch} {D : DD} {z : Nat} {Y : YT} {X : XT} {r : Int32} {X' : XT} (hf : f_X8_readGrower X = some (r, X')) : CC l yX8_readGrower cX8_readGrower 2 (some .boolean) (rmk 4 0 0) D z [.ref (z + aX 1 0 0)] (GG D z (X, Y)) (some (.int r)) (GG D z (X', Y)) := by
  unfold f_X8_readGrower at hf
  refine cc_of pn_X8 (le_ rfl) (ls := [(0, .ref (z + aX 1 0 0))]) rfl ?_
  intro p e s m args below meth c E
  refine j_aload_n E 0 rfl dX8_readGrower_0 ?_
  refine j_get (f := 1) E ok1 cf_X8 fl_X8_21 (lt_ rfl) rfl ent1 rfl dX8_readGrower_1 ?_
  refine j_getN (f := 1) E (okb10 jl0) cf_X0 fl_X8_175 (lt_ rfl) rfl ent10 rfl dX8_readGrower_4 ?_
  refine j_getN (f := 4) E (okb15 jl0) cf_X5 fl_X8_179 (lt_ rfl) rfl ent15 rfl dX8_readGrower_7 ?_
  refine j_bipush E 6 bp_6 dX8_readGrower_10 ?_
  refine j_icmp_lt E 21 (by decide) dX8_readGrower_12 (fun c1 => ?_) (fun c1 => ?_)
  · rw [if_pos c1] at hf
    refine j_aload_n E 0 rfl dX8_readGrower_21 ?_
    refine j_get (f := 0) E ok1 cf_X8 fl_X8_12 (lt_ rfl) rfl ent1 rfl dX8_readGrower_22 ?_
    obtain ⟨X1, h1, hf⟩ := bn1_e hf
    refine j_invV [] [] E (c_X10_toNext h1) ml_X8_64 mv_X10_toNext rfl ⟨le_ rfl, le_ rfl⟩ (rcX ok2 cf_X10 ent2) rfl rfl (le_ rfl) ⟨le_ rfl, le_ rfl⟩ dX8_readGrower_25 ?_
    refine j_aload_n E 0 rfl dX8_readGrower_28 ?_
    obtain ⟨r1, X2, h2, hf⟩ := bn2_e hf
    refine j_invV [] [.int r1] E (c_X8_readNewName h2) ml_X8_161 mv_X8_readNewName rfl ⟨le_ rfl, le_ rfl⟩ (rcX ok1 cf_X8 ent1) rfl rfl (le_ rfl) ⟨le_ rfl, le_ rfl⟩ dX8_readGrower_29 ?_
    refine j_istore_n (ls' := [(1, .int r1), (0, .ref (z + aX 1 0 0))]) E (lt_ rfl) rfl dX8_readGrower_32 ?_
    refine j_iload_n E 0 rfl dX8_readGrower_33 ?_
    refine j_if_ne E 39 (by decide) dX8_readGrower_34 (fun c2 => ?_) (fun c2 => ?_)
    · rw [if_neg c2] at hf
      refine j_aload_n E 1 rfl dX8_readGrower_39 ?_
      refine j_get (f := 1) E ok1 cf_X8 fl_X8_21 (lt_ rfl) rfl ent1 rfl dX8_readGrower_40 ?_
      refine j_getN (f := 1) E (okb10 jl0) cf_X0 fl_X8_175 (lt_ rfl) rfl ent10 rfl dX8_readGrower_43 ?_
      refine j_iload_n E 0 rfl dX8_readGrower_46 ?_
      obtain ⟨X3, h3, hf⟩ := bn1_e hf
      refine j_invV [] [] E (c_X5_addGrower jl0 h3) ml_X8_184 mv_X5_addGrower rfl ⟨le_ rfl, le_ rfl⟩ (rcX (okb15 jl0) cf_X5 ent15) rfl rfl (le_ rfl) ⟨le_ rfl, le_ rfl⟩ dX8_readGrower_47 ?_
      refine j_aload_n E 1 rfl dX8_readGrower_50 ?_
      obtain ⟨r2, X4, h4, hf⟩ := bn2_e hf
      refine j_invV [] [.int r2] E (c_X8_readSemicolon h4) ml_X8_79 mv_X8_readSemicolon rfl ⟨le_ rfl, le_ rfl⟩ (rcX ok1 cf_X8 ent1) rfl rfl (le_ rfl) ⟨le_ rfl, le_ rfl⟩ dX8_readGrower_51 ?_
      obtain ⟨g1, hf⟩ := gd_e hf
      cases hf
      exact j_iret E (nz_ g1) (le_ rfl) (le_ rfl) dX8_readGrower_54
    · rw [if_pos c2] at hf
      refine j_iconst E 0 ic_0 dX8_readGrower_37 ?_
      cases hf
      exact j_iret E rfl (le_ rfl) (le_ rfl) dX8_readGrower_38
  · rw [if_neg c1] at hf
    refine j_aload_n E 0 rfl dX8_readGrower_15 ?_
    refine j_iconst E 5 ic_5 dX8_readGrower_16 ?_
    obtain ⟨r3, X5, h5, hf⟩ := bn2_e hf
    refine j_invV [] [.int r3] E (c_X8_fail h5) ml_X8_60 mv_X8_fail rfl ⟨le_ rfl, le_ rfl⟩ (rcX ok1 cf_X8 ent1) rfl rfl (le_ rfl) ⟨le_ rfl, le_ rfl⟩ dX8_readGrower_17 ?_
    obtain ⟨g2, hf⟩ := gd_e hf
    cases hf
    exact j_iret E (nz_ g2) (le_ rfl) (le_ rfl) dX8_readGrower_20
def f_X8_readGrowerName (X : XT) : Option (Int32 × XT) :=
  bn2 (f_X8_isWordHere X) (fun r1 X1 => if r1 = 0 then (some ((-1), X1)) else (bn1 (f_X5_growerNamed X1 0 (X1 2 0 0 6)) (fun r2 => if r2 = (-1) then (bn2 (f_X8_fail X1 4) (fun r3 X3 => some (r2, X3))) else (bn1 (f_X10_toNext X1) (fun X2 => some (r2, X2))))))
set_option maxRecDepth 20000 in
theorem c_X8_readGrowerName {l : Launch} {D : DD} {z : Nat} {Y : YT} {X : XT} {r : Int32} {X' : XT} (hf : f_X8_readGrowerName X = some (r, X')) : CC l yX8_readGrowerName cX8_readGrowerName 2 (some .int) (rmk 3 0 0) D z [.ref (z + aX 1 0 0)] (GG D z (X, Y)) (some (.int r)) (GG D z (X', Y)) := by
  unfold f_X8_readGrowerName at hf
  refine cc_of pn_X8 (le_ rfl) (ls := [(0, .ref (z + aX 1 0 0))]) rfl ?_
  intro p e s m args below meth c E
  refine j_aload_n E 0 rfl dX8_readGrowerName_0 ?_
  obtain ⟨r1, X1, h1, hf⟩ := bn2_e hf
  refine j_invV [] [.int r1] E (c_X8_isWordHere h1) ml_X8_262 mv_X8_isWordHere rfl ⟨le_ rfl, le_ rfl⟩ (rcX ok1 cf_X8 ent1) rfl rfl (le_ rfl) ⟨le_ rfl, le_ rfl⟩ dX8_readGrowerName_1 ?_
  refine j_if_ne E 9 (by decide) dX8_readGrowerName_4 (fun c1 => ?_) (fun c1 => ?_)
  · rw [if_neg c1] at hf
    refine j_aload_n E 0 rfl dX8_readGrowerName_9 ?_
    refine j_get (f := 1) E ok1 cf_X8 fl_X8_21 (lt_ rfl) rfl ent1 rfl dX8_readGrowerName_10 ?_
    refine j_getN (f := 1) E (okb10 jl0) cf_X0 fl_X8_175 (lt_ rfl) rfl ent10 rfl dX8_readGrowerName_13 ?_
    refine j_aload_n E 0 rfl dX8_readGrowerName_16 ?_
    refine j_get (f := 0) E ok1 cf_X8 fl_X8_12 (lt_ rfl) rfl ent1 rfl dX8_readGrowerName_17 ?_
    refine j_getN (f := 6) E ok2 cf_X10 fl_X8_265 (lt_ rfl) rfl ent2 rfl dX8_readGrowerName_20 ?_
    obtain ⟨r2, h2, hf⟩ := bn1_e hf
    refine j_invV [] [.int r2] E (c_X5_growerNamed jl0 h2) ml_X8_274 mv_X5_growerNamed rfl ⟨le_ rfl, le_ rfl⟩ (rcX (okb15 jl0) cf_X5 ent15) rfl rfl (le_ rfl) ⟨le_ rfl, le_ rfl⟩ dX8_readGrowerName_23 ?_
    refine j_istore_n (ls' := [(1, .int r2), (0, .ref (z + aX 1 0 0))]) E (lt_ rfl) rfl dX8_readGrowerName_26 ?_
    refine j_iload_n E 0 rfl dX8_readGrowerName_27 ?_
    refine j_iconst E (-1) ic_m1 dX8_readGrowerName_28 ?_
    refine j_icmp_ne E 41 (by decide) dX8_readGrowerName_29 (fun c2 => ?_) (fun c2 => ?_)
    · rw [if_neg c2] at hf
      refine j_aload_n E 1 rfl dX8_readGrowerName_41 ?_
      refine j_get (f := 0) E ok1 cf_X8 fl_X8_12 (lt_ rfl) rfl ent1 rfl dX8_readGrowerName_42 ?_
      obtain ⟨X2, h3, hf⟩ := bn1_e hf
      refine j_invV [] [] E (c_X10_toNext h3) ml_X8_64 mv_X10_toNext rfl ⟨le_ rfl, le_ rfl⟩ (rcX ok2 cf_X10 ent2) rfl rfl (le_ rfl) ⟨le_ rfl, le_ rfl⟩ dX8_readGrowerName_45 ?_
      refine j_iload_n E 0 rfl dX8_readGrowerName_48 ?_
      cases hf
      exact j_iret E rfl (le_ rfl) (le_ rfl) dX8_readGrowerName_49
    · rw [if_pos c2] at hf
      refine j_aload_n E 1 rfl dX8_readGrowerName_32 ?_
      refine j_iconst E 4 ic_4 dX8_readGrowerName_33 ?_
      obtain ⟨r3, X3, h4, hf⟩ := bn2_e hf
      refine j_invV [] [.int r3] E (c_X8_fail h4) ml_X8_60 mv_X8_fail rfl ⟨le_ rfl, le_ rfl⟩ (rcX ok1 cf_X8 ent1) rfl rfl (le_ rfl) ⟨le_ rfl, le_ rfl⟩ dX8_readGrowerName_34 ?_
      refine j_pop E rfl dX8_readGrowerName_37 ?_
      refine j_goto E 48 (by decide) dX8_readGrowerName_38 ?_
      refine j_iload_n E 0 rfl dX8_readGrowerName_48 ?_
      cases hf
      exact j_iret E rfl (le_ rfl) (le_ rfl) dX8_readGrowerName_49
  · rw [if_pos c1] at hf
    refine j_iconst E (-1) ic_m1 dX8_readGrowerName_7 ?_
    cases hf
    exact j_iret E rfl (le_ rfl) (le_ rfl) dX8_readGrowerName_8
def f_X8_readPlot (X : XT) : Option (Int32 × XT) :=
  if (X 15 0 0 5) < 8 then (bn1 (f_X10_toNext X) (fun X1 => bn2 (f_X8_readGrowerName X1) (fun r1 X2 => if r1 = (-1) then (some (0, X2)) else (bn2 (f_X8_readVarietyName X2) (fun r2 X3 => if r2 = (-1) then (some (0, X3)) else (bn2 (f_X8_readNumber X3 1 99) (fun r3 X4 => if r3 = (-1) then (some (0, X4)) else (bn1 (f_X5_addPlot X4 0 r1 r2 (r3 * (X4 1 0 0 2))) (fun X5 => bn2 (f_X8_readSemicolon X5) (fun r4 X6 => gd (r4 &&& 1 = r4) (some (r4, X6)))))))))))) else (bn2 (f_X8_fail X 5) (fun r5 X7 => gd (r5 &&& 1 = r5) (some (r5, X7))))
set_option maxRecDepth 20000 in
theorem c_X8_readPlot {l : Launch} {D : DD} {z : Nat} {Y : YT} {X : XT} {r : Int32} {X' : XT} (hf : f_X8_readPlot X = some (r, X')) : CC l yX8_readPlot cX8_readPlot 4 (some .boolean) (rmk 4 0 0) D z [.ref (z + aX 1 0 0)] (GG D z (X, Y)) (some (.int r)) (GG D z (X', Y)) := by
  unfold f_X8_readPlot at hf
  refine cc_of pn_X8 (le_ rfl) (ls := [(0, .ref (z + aX 1 0 0))]) rfl ?_
  intro p e s m args below meth c E
  refine j_aload_n E 0 rfl dX8_readPlot_0 ?_
  refine j_get (f := 1) E ok1 cf_X8 fl_X8_21 (lt_ rfl) rfl ent1 rfl dX8_readPlot_1 ?_
  refine j_getN (f := 1) E (okb10 jl0) cf_X0 fl_X8_175 (lt_ rfl) rfl ent10 rfl dX8_readPlot_4 ?_
  refine j_getN (f := 5) E (okb15 jl0) cf_X5 fl_X8_187 (lt_ rfl) rfl ent15 rfl dX8_readPlot_7 ?_
  refine j_bipush E 8 bp_8 dX8_readPlot_10 ?_
  refine j_icmp_lt E 21 (by decide) dX8_readPlot_12 (fun c1 => ?_) (fun c1 => ?_)
  · rw [if_pos c1] at hf
    refine j_aload_n E 0 rfl dX8_readPlot_21 ?_
    refine j_get (f := 0) E ok1 cf_X8 fl_X8_12 (lt_ rfl) rfl ent1 rfl dX8_readPlot_22 ?_
    obtain ⟨X1, h1, hf⟩ := bn1_e hf
    refine j_invV [] [] E (c_X10_toNext h1) ml_X8_64 mv_X10_toNext rfl ⟨le_ rfl, le_ rfl⟩ (rcX ok2 cf_X10 ent2) rfl rfl (le_ rfl) ⟨le_ rfl, le_ rfl⟩ dX8_readPlot_25 ?_
    refine j_aload_n E 0 rfl dX8_readPlot_28 ?_
    obtain ⟨r1, X2, h2, hf⟩ := bn2_e hf
    refine j_invV [] [.int r1] E (c_X8_readGrowerName h2) ml_X8_190 mv_X8_readGrowerName rfl ⟨le_ rfl, le_ rfl⟩ (rcX ok1 cf_X8 ent1) rfl rfl (le_ rfl) ⟨le_ rfl, le_ rfl⟩ dX8_readPlot_29 ?_
    refine j_istore_n (ls' := [(1, .int r1), (0, .ref (z + aX 1 0 0))]) E (lt_ rfl) rfl dX8_readPlot_32 ?_
    refine j_iload_n E 0 rfl dX8_readPlot_33 ?_
    refine j_iconst E (-1) ic_m1 dX8_readPlot_34 ?_
    refine j_icmp_ne E 40 (by decide) dX8_readPlot_35 (fun c2 => ?_) (fun c2 => ?_)
    · rw [if_neg c2] at hf
      refine j_aload_n E 1 rfl dX8_readPlot_40 ?_
      obtain ⟨r2, X3, h3, hf⟩ := bn2_e hf
      refine j_invV [] [.int r2] E (c_X8_readVarietyName h3) ml_X8_168 mv_X8_readVarietyName rfl ⟨le_ rfl, le_ rfl⟩ (rcX ok1 cf_X8 ent1) rfl rfl (le_ rfl) ⟨le_ rfl, le_ rfl⟩ dX8_readPlot_41 ?_
      refine j_istore_n (ls' := [(2, .int r2), (1, .int r1), (0, .ref (z + aX 1 0 0))]) E (lt_ rfl) rfl dX8_readPlot_44 ?_
      refine j_iload_n E 0 rfl dX8_readPlot_45 ?_
      refine j_iconst E (-1) ic_m1 dX8_readPlot_46 ?_
      refine j_icmp_ne E 52 (by decide) dX8_readPlot_47 (fun c3 => ?_) (fun c3 => ?_)
      · rw [if_neg c3] at hf
        refine j_aload_n E 2 rfl dX8_readPlot_52 ?_
        refine j_iconst E 1 ic_1 dX8_readPlot_53 ?_
        refine j_bipush E 99 bp_99 dX8_readPlot_54 ?_
        obtain ⟨r3, X4, h4, hf⟩ := bn2_e hf
        refine j_invV [] [.int r3] E (c_X8_readNumber h4) ml_X8_67 mv_X8_readNumber rfl ⟨le_ rfl, le_ rfl⟩ (rcX ok1 cf_X8 ent1) rfl rfl (le_ rfl) ⟨le_ rfl, le_ rfl⟩ dX8_readPlot_56 ?_
        refine j_istore_n (ls' := [(3, .int r3), (2, .int r2), (1, .int r1), (0, .ref (z + aX 1 0 0))]) E (lt_ rfl) rfl dX8_readPlot_59 ?_
        refine j_iload_n E 0 rfl dX8_readPlot_60 ?_
        refine j_iconst E (-1) ic_m1 dX8_readPlot_61 ?_
        refine j_icmp_ne E 67 (by decide) dX8_readPlot_62 (fun c4 => ?_) (fun c4 => ?_)
        · rw [if_neg c4] at hf
          refine j_aload_n E 3 rfl dX8_readPlot_67 ?_
          refine j_get (f := 1) E ok1 cf_X8 fl_X8_21 (lt_ rfl) rfl ent1 rfl dX8_readPlot_68 ?_
          refine j_getN (f := 1) E (okb10 jl0) cf_X0 fl_X8_175 (lt_ rfl) rfl ent10 rfl dX8_readPlot_71 ?_
          refine j_iload_n E 2 rfl dX8_readPlot_74 ?_
          refine j_iload_n E 1 rfl dX8_readPlot_75 ?_
          refine j_iload_n E 0 rfl dX8_readPlot_76 ?_
          refine j_aload_n E 3 rfl dX8_readPlot_77 ?_
          refine j_get (f := 2) E ok1 cf_X8 fl_X8_71 (lt_ rfl) rfl ent1 rfl dX8_readPlot_78 ?_
          refine j_imul E dX8_readPlot_81 ?_
          obtain ⟨X5, h5, hf⟩ := bn1_e hf
          refine j_invV [] [] E (c_X5_addPlot jl0 h5) ml_X8_193 mv_X5_addPlot rfl ⟨le_ rfl, le_ rfl⟩ (rcX (okb15 jl0) cf_X5 ent15) rfl rfl (le_ rfl) ⟨le_ rfl, le_ rfl⟩ dX8_readPlot_82 ?_
          refine j_aload_n E 3 rfl dX8_readPlot_85 ?_
          obtain ⟨r4, X6, h6, hf⟩ := bn2_e hf
          refine j_invV [] [.int r4] E (c_X8_readSemicolon h6) ml_X8_79 mv_X8_readSemicolon rfl ⟨le_ rfl, le_ rfl⟩ (rcX ok1 cf_X8 ent1) rfl rfl (le_ rfl) ⟨le_ rfl, le_ rfl⟩ dX8_readPlot_86 ?_
          obtain ⟨g1, hf⟩ := gd_e hf
          cases hf
          exact j_iret E (nz_ g1) (le_ rfl) (le_ rfl) dX8_readPlot_89
        · rw [if_pos c4] at hf
          refine j_iconst E 0 ic_0 dX8_readPlot_65 ?_
          cases hf
          exact j_iret E rfl (le_ rfl) (le_ rfl) dX8_readPlot_66
      · rw [if_pos c3] at hf
        refine j_iconst E 0 ic_0 dX8_readPlot_50 ?_
        cases hf
        exact j_iret E rfl (le_ rfl) (le_ rfl) dX8_readPlot_51
    · rw [if_pos c2] at hf
      refine j_iconst E 0 ic_0 dX8_readPlot_38 ?_
      cases hf
      exact j_iret E rfl (le_ rfl) (le_ rfl) dX8_readPlot_39
  · rw [if_neg c1] at hf
    refine j_aload_n E 0 rfl dX8_readPlot_15 ?_
    refine j_iconst E 5 ic_5 dX8_readPlot_16 ?_
    obtain ⟨r5, X7, h7, hf⟩ := bn2_e hf
    refine j_invV [] [.int r5] E (c_X8_fail h7) ml_X8_60 mv_X8_fail rfl ⟨le_ rfl, le_ rfl⟩ (rcX ok1 cf_X8 ent1) rfl rfl (le_ rfl) ⟨le_ rfl, le_ rfl⟩ dX8_readPlot_17 ?_
    obtain ⟨g2, hf⟩ := gd_e hf
    cases hf
    exact j_iret E (nz_ g2) (le_ rfl) (le_ rfl) dX8_readPlot_20
def f_X8_readTank (X : XT) : Option (Int32 × XT) :=
  if (X 23 0 0 2) < 5 then (bn1 (f_X10_toNext X) (fun X1 => bn2 (f_X8_readNumber X1 1 20000) (fun r1 X2 => if r1 = (-1) then (some (0, X2)) else (bn1 (f_X2_addTank X2 0 r1) (fun X3 => bn2 (f_X8_readSemicolon X3) (fun r2 X4 => gd (r2 &&& 1 = r2) (some (r2, X4)))))))) else (bn2 (f_X8_fail X 5) (fun r3 X5 => gd (r3 &&& 1 = r3) (some (r3, X5))))
set_option maxRecDepth 20000 in
theorem c_X8_readTank {l : Launch} {D : DD} {z : Nat} {Y : YT} {X : XT} {r : Int32} {X' : XT} (hf : f_X8_readTank X = some (r, X')) : CC l yX8_readTank cX8_readTank 2 (some .boolean) (rmk 4 0 0) D z [.ref (z + aX 1 0 0)] (GG D z (X, Y)) (some (.int r)) (GG D z (X', Y)) := by
  unfold f_X8_readTank at hf
  refine cc_of pn_X8 (le_ rfl) (ls := [(0, .ref (z + aX 1 0 0))]) rfl ?_
  intro p e s m args below meth c E
  refine j_aload_n E 0 rfl dX8_readTank_0 ?_
  refine j_get (f := 1) E ok1 cf_X8 fl_X8_21 (lt_ rfl) rfl ent1 rfl dX8_readTank_1 ?_
  refine j_getN (f := 3) E (okb10 jl0) cf_X0 fl_X8_196 (lt_ rfl) rfl ent10 rfl dX8_readTank_4 ?_
  refine j_getN (f := 2) E (okb23 jl0) cf_X2 fl_X8_200 (lt_ rfl) rfl ent23 rfl dX8_readTank_7 ?_
  refine j_iconst E 5 ic_5 dX8_readTank_10 ?_
  refine j_icmp_lt E 20 (by decide) dX8_readTank_11 (fun c1 => ?_) (fun c1 => ?_)
  · rw [if_pos c1] at hf
    refine j_aload_n E 0 rfl dX8_readTank_20 ?_
    refine j_get (f := 0) E ok1 cf_X8 fl_X8_12 (lt_ rfl) rfl ent1 rfl dX8_readTank_21 ?_
    obtain ⟨X1, h1, hf⟩ := bn1_e hf
    refine j_invV [] [] E (c_X10_toNext h1) ml_X8_64 mv_X10_toNext rfl ⟨le_ rfl, le_ rfl⟩ (rcX ok2 cf_X10 ent2) rfl rfl (le_ rfl) ⟨le_ rfl, le_ rfl⟩ dX8_readTank_24 ?_
    refine j_aload_n E 0 rfl dX8_readTank_27 ?_
    refine j_iconst E 1 ic_1 dX8_readTank_28 ?_
    refine j_sipush E 20000 sp_20000 dX8_readTank_29 ?_
    obtain ⟨r1, X2, h2, hf⟩ := bn2_e hf
    refine j_invV [] [.int r1] E (c_X8_readNumber h2) ml_X8_67 mv_X8_readNumber rfl ⟨le_ rfl, le_ rfl⟩ (rcX ok1 cf_X8 ent1) rfl rfl (le_ rfl) ⟨le_ rfl, le_ rfl⟩ dX8_readTank_32 ?_
    refine j_istore_n (ls' := [(1, .int r1), (0, .ref (z + aX 1 0 0))]) E (lt_ rfl) rfl dX8_readTank_35 ?_
    refine j_iload_n E 0 rfl dX8_readTank_36 ?_
    refine j_iconst E (-1) ic_m1 dX8_readTank_37 ?_
    refine j_icmp_ne E 43 (by decide) dX8_readTank_38 (fun c2 => ?_) (fun c2 => ?_)
    · rw [if_neg c2] at hf
      refine j_aload_n E 1 rfl dX8_readTank_43 ?_
      refine j_get (f := 1) E ok1 cf_X8 fl_X8_21 (lt_ rfl) rfl ent1 rfl dX8_readTank_44 ?_
      refine j_getN (f := 3) E (okb10 jl0) cf_X0 fl_X8_196 (lt_ rfl) rfl ent10 rfl dX8_readTank_47 ?_
      refine j_iload_n E 0 rfl dX8_readTank_50 ?_
      obtain ⟨X3, h3, hf⟩ := bn1_e hf
      refine j_invV [] [] E (c_X2_addTank jl0 h3) ml_X8_205 mv_X2_addTank rfl ⟨le_ rfl, le_ rfl⟩ (rcX (okb23 jl0) cf_X2 ent23) rfl rfl (le_ rfl) ⟨le_ rfl, le_ rfl⟩ dX8_readTank_51 ?_
      refine j_aload_n E 1 rfl dX8_readTank_54 ?_
      obtain ⟨r2, X4, h4, hf⟩ := bn2_e hf
      refine j_invV [] [.int r2] E (c_X8_readSemicolon h4) ml_X8_79 mv_X8_readSemicolon rfl ⟨le_ rfl, le_ rfl⟩ (rcX ok1 cf_X8 ent1) rfl rfl (le_ rfl) ⟨le_ rfl, le_ rfl⟩ dX8_readTank_55 ?_
      obtain ⟨g1, hf⟩ := gd_e hf
      cases hf
      exact j_iret E (nz_ g1) (le_ rfl) (le_ rfl) dX8_readTank_58
    · rw [if_pos c2] at hf
      refine j_iconst E 0 ic_0 dX8_readTank_41 ?_
      cases hf
      exact j_iret E rfl (le_ rfl) (le_ rfl) dX8_readTank_42
  · rw [if_neg c1] at hf
    refine j_aload_n E 0 rfl dX8_readTank_14 ?_
    refine j_iconst E 5 ic_5 dX8_readTank_15 ?_
    obtain ⟨r3, X5, h5, hf⟩ := bn2_e hf
    refine j_invV [] [.int r3] E (c_X8_fail h5) ml_X8_60 mv_X8_fail rfl ⟨le_ rfl, le_ rfl⟩ (rcX ok1 cf_X8 ent1) rfl rfl (le_ rfl) ⟨le_ rfl, le_ rfl⟩ dX8_readTank_16 ?_
    obtain ⟨g2, hf⟩ := gd_e hf
    cases hf
    exact j_iret E (nz_ g2) (le_ rfl) (le_ rfl) dX8_readTank_19
def f_X8_readLoad (X : XT) : Option (Int32 × XT) :=
  bn1 (f_X10_toNext X) (fun X1 => bn2 (f_X8_readNumber X1 0 ((X1 15 0 0 5) - 1)) (fun r1 X2 => if r1 = (-1) then (some (0, X2)) else (bn2 (f_X8_readNumber X2 1 5000) (fun r2 X3 => if r2 = (-1) then (some (0, X3)) else (bn2 (f_X8_readNumber X3 0 250) (fun r3 X4 => if r3 = (-1) then (some (0, X4)) else (bn2 (f_X8_isSemicolonHere X4) (fun r4 X5 => if r4 = 0 then (some (0, X5)) else (bn1 (f_X0_reasonAgainst X5 0 r1 r2 r3) (fun r5 => if r5 = 0 then (bn2 (f_X0_accept X5 0 r1 r2 r3) (fun r6 X6 => bn2 (f_X8_readSemicolon X6) (fun r7 X7 => gd (r7 &&& 1 = r7) (some (r7, X7))))) else (bn2 (f_X8_fail X5 6) (fun r8 X8 => gd (r8 &&& 1 = r8) (some (r8, X8))))))))))))))
set_option maxRecDepth 20000 in
theorem c_X8_readLoad {l : Launch} {D : DD} {z : Nat} {Y : YT} {X : XT} {r : Int32} {X' : XT} (hf : f_X8_readLoad X = some (r, X')) : CC l yX8_readLoad cX8_readLoad 4 (some .boolean) (rmk 4 0 0) D z [.ref (z + aX 1 0 0)] (GG D z (X, Y)) (some (.int r)) (GG D z (X', Y)) := by
  unfold f_X8_readLoad at hf
  refine cc_of pn_X8 (le_ rfl) (ls := [(0, .ref (z + aX 1 0 0))]) rfl ?_
  intro p e s m args below meth c E
  refine j_aload_n E 0 rfl dX8_readLoad_0 ?_
  refine j_get (f := 0) E ok1 cf_X8 fl_X8_12 (lt_ rfl) rfl ent1 rfl dX8_readLoad_1 ?_
  obtain ⟨X1, h1, hf⟩ := bn1_e hf
  refine j_invV [] [] E (c_X10_toNext h1) ml_X8_64 mv_X10_toNext rfl ⟨le_ rfl, le_ rfl⟩ (rcX ok2 cf_X10 ent2) rfl rfl (le_ rfl) ⟨le_ rfl, le_ rfl⟩ dX8_readLoad_4 ?_
  refine j_aload_n E 0 rfl dX8_readLoad_7 ?_
  refine j_iconst E 0 ic_0 dX8_readLoad_8 ?_
  refine j_aload_n E 0 rfl dX8_readLoad_9 ?_
  refine j_get (f := 1) E ok1 cf_X8 fl_X8_21 (lt_ rfl) rfl ent1 rfl dX8_readLoad_10 ?_
  refine j_getN (f := 1) E (okb10 jl0) cf_X0 fl_X8_175 (lt_ rfl) rfl ent10 rfl dX8_readLoad_13 ?_
  refine j_getN (f := 5) E (okb15 jl0) cf_X5 fl_X8_187 (lt_ rfl) rfl ent15 rfl dX8_readLoad_16 ?_
  refine j_iconst E 1 ic_1 dX8_readLoad_19 ?_
  refine j_isub E dX8_readLoad_20 ?_
  obtain ⟨r1, X2, h2, hf⟩ := bn2_e hf
  refine j_invV [] [.int r1] E (c_X8_readNumber h2) ml_X8_67 mv_X8_readNumber rfl ⟨le_ rfl, le_ rfl⟩ (rcX ok1 cf_X8 ent1) rfl rfl (le_ rfl) ⟨le_ rfl, le_ rfl⟩ dX8_readLoad_21 ?_
  refine j_istore_n (ls' := [(1, .int r1), (0, .ref (z + aX 1 0 0))]) E (lt_ rfl) rfl dX8_readLoad_24 ?_
  refine j_iload_n E 0 rfl dX8_readLoad_25 ?_
  refine j_iconst E (-1) ic_m1 dX8_readLoad_26 ?_
  refine j_icmp_ne E 32 (by decide) dX8_readLoad_27 (fun c1 => ?_) (fun c1 => ?_)
  · rw [if_neg c1] at hf
    refine j_aload_n E 1 rfl dX8_readLoad_32 ?_
    refine j_iconst E 1 ic_1 dX8_readLoad_33 ?_
    refine j_sipush E 5000 sp_5000 dX8_readLoad_34 ?_
    obtain ⟨r2, X3, h3, hf⟩ := bn2_e hf
    refine j_invV [] [.int r2] E (c_X8_readNumber h3) ml_X8_67 mv_X8_readNumber rfl ⟨le_ rfl, le_ rfl⟩ (rcX ok1 cf_X8 ent1) rfl rfl (le_ rfl) ⟨le_ rfl, le_ rfl⟩ dX8_readLoad_37 ?_
    refine j_istore_n (ls' := [(2, .int r2), (1, .int r1), (0, .ref (z + aX 1 0 0))]) E (lt_ rfl) rfl dX8_readLoad_40 ?_
    refine j_iload_n E 0 rfl dX8_readLoad_41 ?_
    refine j_iconst E (-1) ic_m1 dX8_readLoad_42 ?_
    refine j_icmp_ne E 48 (by decide) dX8_readLoad_43 (fun c2 => ?_) (fun c2 => ?_)
    · rw [if_neg c2] at hf
      refine j_aload_n E 2 rfl dX8_readLoad_48 ?_
      refine j_iconst E 0 ic_0 dX8_readLoad_49 ?_
      refine j_sipush E 250 sp_250 dX8_readLoad_50 ?_
      obtain ⟨r3, X4, h4, hf⟩ := bn2_e hf
      refine j_invV [] [.int r3] E (c_X8_readNumber h4) ml_X8_67 mv_X8_readNumber rfl ⟨le_ rfl, le_ rfl⟩ (rcX ok1 cf_X8 ent1) rfl rfl (le_ rfl) ⟨le_ rfl, le_ rfl⟩ dX8_readLoad_53 ?_
      refine j_istore_n (ls' := [(3, .int r3), (2, .int r2), (1, .int r1), (0, .ref (z + aX 1 0 0))]) E (lt_ rfl) rfl dX8_readLoad_56 ?_
      refine j_iload_n E 0 rfl dX8_readLoad_57 ?_
      refine j_iconst E (-1) ic_m1 dX8_readLoad_58 ?_
      refine j_icmp_eq E 69 (by decide) dX8_readLoad_59 (fun c3 => ?_) (fun c3 => ?_)
      · rw [if_pos c3] at hf
        refine j_iconst E 0 ic_0 dX8_readLoad_69 ?_
        cases hf
        exact j_iret E rfl (le_ rfl) (le_ rfl) dX8_readLoad_70
      · rw [if_neg c3] at hf
        refine j_aload_n E 3 rfl dX8_readLoad_62 ?_
        obtain ⟨r4, X5, h5, hf⟩ := bn2_e hf
        refine j_invV [] [.int r4] E (c_X8_isSemicolonHere h5) ml_X8_208 mv_X8_isSemicolonHere rfl ⟨le_ rfl, le_ rfl⟩ (rcX ok1 cf_X8 ent1) rfl rfl (le_ rfl) ⟨le_ rfl, le_ rfl⟩ dX8_readLoad_63 ?_
        refine j_if_ne E 71 (by decide) dX8_readLoad_66 (fun c4 => ?_) (fun c4 => ?_)
        · rw [if_neg c4] at hf
          refine j_aload_n E 3 rfl dX8_readLoad_71 ?_
          refine j_get (f := 1) E ok1 cf_X8 fl_X8_21 (lt_ rfl) rfl ent1 rfl dX8_readLoad_72 ?_
          refine j_iload_n E 2 rfl dX8_readLoad_75 ?_
          refine j_iload_n E 1 rfl dX8_readLoad_76 ?_
          refine j_iload_n E 0 rfl dX8_readLoad_77 ?_
          obtain ⟨r5, h6, hf⟩ := bn1_e hf
          refine j_invV [] [.int r5] E (c_X0_reasonAgainst jl0 h6) ml_X8_211 mv_X0_reasonAgainst rfl ⟨le_ rfl, le_ rfl⟩ (rcX (okb10 jl0) cf_X0 ent10) rfl rfl (le_ rfl) ⟨le_ rfl, le_ rfl⟩ dX8_readLoad_78 ?_
          refine j_if_eq E 91 (by decide) dX8_readLoad_81 (fun c5 => ?_) (fun c5 => ?_)
          · rw [if_pos c5] at hf
            refine j_aload_n E 3 rfl dX8_readLoad_91 ?_
            refine j_get (f := 1) E ok1 cf_X8 fl_X8_21 (lt_ rfl) rfl ent1 rfl dX8_readLoad_92 ?_
            refine j_iload_n E 2 rfl dX8_readLoad_95 ?_
            refine j_iload_n E 1 rfl dX8_readLoad_96 ?_
            refine j_iload_n E 0 rfl dX8_readLoad_97 ?_
            obtain ⟨r6, X6, h7, hf⟩ := bn2_e hf
            refine j_invV [] [.int r6] E (c_X0_accept jl0 h7) ml_X8_215 mv_X0_accept rfl ⟨le_ rfl, le_ rfl⟩ (rcX (okb10 jl0) cf_X0 ent10) rfl rfl (le_ rfl) ⟨le_ rfl, le_ rfl⟩ dX8_readLoad_98 ?_
            refine j_pop E rfl dX8_readLoad_101 ?_
            refine j_aload_n E 3 rfl dX8_readLoad_102 ?_
            obtain ⟨r7, X7, h8, hf⟩ := bn2_e hf
            refine j_invV [] [.int r7] E (c_X8_readSemicolon h8) ml_X8_79 mv_X8_readSemicolon rfl ⟨le_ rfl, le_ rfl⟩ (rcX ok1 cf_X8 ent1) rfl rfl (le_ rfl) ⟨le_ rfl, le_ rfl⟩ dX8_readLoad_103 ?_
            obtain ⟨g1, hf⟩ := gd_e hf
            cases hf
            exact j_iret E (nz_ g1) (le_ rfl) (le_ rfl) dX8_readLoad_106
          · rw [if_neg c5] at hf
            refine j_aload_n E 3 rfl dX8_readLoad_84 ?_
            refine j_bipush E 6 bp_6 dX8_readLoad_85 ?_
            obtain ⟨r8, X8, h9, hf⟩ := bn2_e hf
            refine j_invV [] [.int r8] E (c_X8_fail h9) ml_X8_60 mv_X8_fail rfl ⟨le_ rfl, le_ rfl⟩ (rcX ok1 cf_X8 ent1) rfl rfl (le_ rfl) ⟨le_ rfl, le_ rfl⟩ dX8_readLoad_87 ?_
            obtain ⟨g2, hf⟩ := gd_e hf
            cases hf
            exact j_iret E (nz_ g2) (le_ rfl) (le_ rfl) dX8_readLoad_90
        · rw [if_pos c4] at hf
          refine j_iconst E 0 ic_0 dX8_readLoad_69 ?_
          cases hf
          exact j_iret E rfl (le_ rfl) (le_ rfl) dX8_readLoad_70
    · rw [if_pos c2] at hf
      refine j_iconst E 0 ic_0 dX8_readLoad_46 ?_
      cases hf
      exact j_iret E rfl (le_ rfl) (le_ rfl) dX8_readLoad_47
  · rw [if_pos c1] at hf
    refine j_iconst E 0 ic_0 dX8_readLoad_30 ?_
    cases hf
    exact j_iret E rfl (le_ rfl) (le_ rfl) dX8_readLoad_31
def f_X8_readBottle (X : XT) : Option (Int32 × XT) :=
  bn1 (f_X10_toNext X) (fun X1 => bn2 (f_X8_readNumber X1 0 ((X1 23 0 0 2) - 1)) (fun r1 X2 => if r1 < 0 then (some (0, X2)) else (if r1 < 5 then (bn2 (f_X8_readNumber X2 1 20000) (fun r2 X3 => if r2 = (-1) then (some (0, X3)) else (bn2 (f_X8_isSemicolonHere X3) (fun r3 X4 => if r3 = 0 then (some (0, X4)) else (gd (¬ (r1 < 0 ∨ 5 ≤ r1.toNatClampNeg)) (bn1 (f_X2_canFillLot X4 0 0 (r1.toNatClampNeg) r2) (fun r4 => if r4 = 0 then (bn2 (f_X8_fail X4 6) (fun r7 X7 => gd (r7 &&& 1 = r7) (some (r7, X7)))) else (bn2 (f_X2_fillLot X4 0 0 (r1.toNatClampNeg) r2) (fun r5 X5 => bn2 (f_X8_readSemicolon X5) (fun r6 X6 => gd (r6 &&& 1 = r6) (some (r6, X6)))))))))))) else (some (0, X2)))))
set_option maxRecDepth 20000 in
theorem c_X8_readBottle {l : Launch} {D : DD} {z : Nat} {Y : YT} {X : XT} {r : Int32} {X' : XT} (hf : f_X8_readBottle X = some (r, X')) : CC l yX8_readBottle cX8_readBottle 4 (some .boolean) (rmk 4 0 0) D z [.ref (z + aX 1 0 0)] (GG D z (X, Y)) (some (.int r)) (GG D z (X', Y)) := by
  unfold f_X8_readBottle at hf
  refine cc_of pn_X8 (le_ rfl) (ls := [(0, .ref (z + aX 1 0 0))]) rfl ?_
  intro p e s m args below meth c E
  refine j_aload_n E 0 rfl dX8_readBottle_0 ?_
  refine j_get (f := 0) E ok1 cf_X8 fl_X8_12 (lt_ rfl) rfl ent1 rfl dX8_readBottle_1 ?_
  obtain ⟨X1, h1, hf⟩ := bn1_e hf
  refine j_invV [] [] E (c_X10_toNext h1) ml_X8_64 mv_X10_toNext rfl ⟨le_ rfl, le_ rfl⟩ (rcX ok2 cf_X10 ent2) rfl rfl (le_ rfl) ⟨le_ rfl, le_ rfl⟩ dX8_readBottle_4 ?_
  refine j_aload_n E 0 rfl dX8_readBottle_7 ?_
  refine j_iconst E 0 ic_0 dX8_readBottle_8 ?_
  refine j_aload_n E 0 rfl dX8_readBottle_9 ?_
  refine j_get (f := 1) E ok1 cf_X8 fl_X8_21 (lt_ rfl) rfl ent1 rfl dX8_readBottle_10 ?_
  refine j_getN (f := 3) E (okb10 jl0) cf_X0 fl_X8_196 (lt_ rfl) rfl ent10 rfl dX8_readBottle_13 ?_
  refine j_getN (f := 2) E (okb23 jl0) cf_X2 fl_X8_200 (lt_ rfl) rfl ent23 rfl dX8_readBottle_16 ?_
  refine j_iconst E 1 ic_1 dX8_readBottle_19 ?_
  refine j_isub E dX8_readBottle_20 ?_
  obtain ⟨r1, X2, h2, hf⟩ := bn2_e hf
  refine j_invV [] [.int r1] E (c_X8_readNumber h2) ml_X8_67 mv_X8_readNumber rfl ⟨le_ rfl, le_ rfl⟩ (rcX ok1 cf_X8 ent1) rfl rfl (le_ rfl) ⟨le_ rfl, le_ rfl⟩ dX8_readBottle_21 ?_
  refine j_istore_n (ls' := [(1, .int r1), (0, .ref (z + aX 1 0 0))]) E (lt_ rfl) rfl dX8_readBottle_24 ?_
  refine j_iload_n E 0 rfl dX8_readBottle_25 ?_
  refine j_if_lt E 34 (by decide) dX8_readBottle_26 (fun c1 => ?_) (fun c1 => ?_)
  · rw [if_pos c1] at hf
    refine j_iconst E 0 ic_0 dX8_readBottle_34 ?_
    cases hf
    exact j_iret E rfl (le_ rfl) (le_ rfl) dX8_readBottle_35
  · rw [if_neg c1] at hf
    refine j_iload_n E 0 rfl dX8_readBottle_29 ?_
    refine j_iconst E 5 ic_5 dX8_readBottle_30 ?_
    refine j_icmp_lt E 36 (by decide) dX8_readBottle_31 (fun c2 => ?_) (fun c2 => ?_)
    · rw [if_pos c2] at hf
      refine j_aload_n E 1 rfl dX8_readBottle_36 ?_
      refine j_iconst E 1 ic_1 dX8_readBottle_37 ?_
      refine j_sipush E 20000 sp_20000 dX8_readBottle_38 ?_
      obtain ⟨r2, X3, h3, hf⟩ := bn2_e hf
      refine j_invV [] [.int r2] E (c_X8_readNumber h3) ml_X8_67 mv_X8_readNumber rfl ⟨le_ rfl, le_ rfl⟩ (rcX ok1 cf_X8 ent1) rfl rfl (le_ rfl) ⟨le_ rfl, le_ rfl⟩ dX8_readBottle_41 ?_
      refine j_istore_n (ls' := [(2, .int r2), (1, .int r1), (0, .ref (z + aX 1 0 0))]) E (lt_ rfl) rfl dX8_readBottle_44 ?_
      refine j_iload_n E 0 rfl dX8_readBottle_45 ?_
      refine j_iconst E (-1) ic_m1 dX8_readBottle_46 ?_
      refine j_icmp_eq E 57 (by decide) dX8_readBottle_47 (fun c3 => ?_) (fun c3 => ?_)
      · rw [if_pos c3] at hf
        refine j_iconst E 0 ic_0 dX8_readBottle_57 ?_
        cases hf
        exact j_iret E rfl (le_ rfl) (le_ rfl) dX8_readBottle_58
      · rw [if_neg c3] at hf
        refine j_aload_n E 2 rfl dX8_readBottle_50 ?_
        obtain ⟨r3, X4, h4, hf⟩ := bn2_e hf
        refine j_invV [] [.int r3] E (c_X8_isSemicolonHere h4) ml_X8_208 mv_X8_isSemicolonHere rfl ⟨le_ rfl, le_ rfl⟩ (rcX ok1 cf_X8 ent1) rfl rfl (le_ rfl) ⟨le_ rfl, le_ rfl⟩ dX8_readBottle_51 ?_
        refine j_if_ne E 59 (by decide) dX8_readBottle_54 (fun c4 => ?_) (fun c4 => ?_)
        · rw [if_neg c4] at hf
          refine j_aload_n E 2 rfl dX8_readBottle_59 ?_
          refine j_get (f := 1) E ok1 cf_X8 fl_X8_21 (lt_ rfl) rfl ent1 rfl dX8_readBottle_60 ?_
          refine j_getN (f := 3) E (okb10 jl0) cf_X0 fl_X8_196 (lt_ rfl) rfl ent10 rfl dX8_readBottle_63 ?_
          refine j_getN (f := 0) E (okb23 jl0) cf_X2 fl_X8_218 (lt_ rfl) rfl ent23 rfl dX8_readBottle_66 ?_
          refine j_iload_n E 1 rfl dX8_readBottle_69 ?_
          obtain ⟨g1, hf⟩ := gd_e hf
          refine j_aald (t := 5) E (okb24 jl0) ent24 rfl g1 dX8_readBottle_70 ?_
          refine j_astore_n (ls' := [(3, .ref (z + aX 26 0 r1.toNatClampNeg)), (2, .int r2), (1, .int r1), (0, .ref (z + aX 1 0 0))]) E (lt_ rfl) rfl dX8_readBottle_71 ?_
          refine j_aload_n E 3 rfl dX8_readBottle_72 ?_
          refine j_get (f := 1) E ok1 cf_X8 fl_X8_21 (lt_ rfl) rfl ent1 rfl dX8_readBottle_73 ?_
          refine j_getN (f := 3) E (okb10 jl0) cf_X0 fl_X8_196 (lt_ rfl) rfl ent10 rfl dX8_readBottle_76 ?_
          refine j_aload_n E 0 rfl dX8_readBottle_79 ?_
          refine j_iload_n E 1 rfl dX8_readBottle_80 ?_
          obtain ⟨r4, h5, hf⟩ := bn1_e hf
          refine j_invV [] [.int r4] E (c_X2_canFillLot jl0 jl0 (in_cl g1) h5) ml_X8_222 mv_X2_canFillLot rfl ⟨le_ rfl, le_ rfl⟩ (rcX (okb23 jl0) cf_X2 ent23) rfl rfl (le_ rfl) ⟨le_ rfl, le_ rfl⟩ dX8_readBottle_81 ?_
          refine j_if_ne E 94 (by decide) dX8_readBottle_84 (fun c5 => ?_) (fun c5 => ?_)
          · rw [if_neg c5] at hf
            refine j_aload_n E 3 rfl dX8_readBottle_94 ?_
            refine j_get (f := 1) E ok1 cf_X8 fl_X8_21 (lt_ rfl) rfl ent1 rfl dX8_readBottle_95 ?_
            refine j_getN (f := 3) E (okb10 jl0) cf_X0 fl_X8_196 (lt_ rfl) rfl ent10 rfl dX8_readBottle_98 ?_
            refine j_aload_n E 0 rfl dX8_readBottle_101 ?_
            refine j_iload_n E 1 rfl dX8_readBottle_102 ?_
            obtain ⟨r5, X5, h6, hf⟩ := bn2_e hf
            refine j_invV [] [.int r5] E (c_X2_fillLot jl0 jl0 (in_cl g1) h6) ml_X8_226 mv_X2_fillLot rfl ⟨le_ rfl, le_ rfl⟩ (rcX (okb23 jl0) cf_X2 ent23) rfl rfl (le_ rfl) ⟨le_ rfl, le_ rfl⟩ dX8_readBottle_103 ?_
            refine j_pop E rfl dX8_readBottle_106 ?_
            refine j_aload_n E 3 rfl dX8_readBottle_107 ?_
            obtain ⟨r6, X6, h7, hf⟩ := bn2_e hf
            refine j_invV [] [.int r6] E (c_X8_readSemicolon h7) ml_X8_79 mv_X8_readSemicolon rfl ⟨le_ rfl, le_ rfl⟩ (rcX ok1 cf_X8 ent1) rfl rfl (le_ rfl) ⟨le_ rfl, le_ rfl⟩ dX8_readBottle_108 ?_
            obtain ⟨g2, hf⟩ := gd_e hf
            cases hf
            exact j_iret E (nz_ g2) (le_ rfl) (le_ rfl) dX8_readBottle_111
          · rw [if_pos c5] at hf
            refine j_aload_n E 3 rfl dX8_readBottle_87 ?_
            refine j_bipush E 6 bp_6 dX8_readBottle_88 ?_
            obtain ⟨r7, X7, h8, hf⟩ := bn2_e hf
            refine j_invV [] [.int r7] E (c_X8_fail h8) ml_X8_60 mv_X8_fail rfl ⟨le_ rfl, le_ rfl⟩ (rcX ok1 cf_X8 ent1) rfl rfl (le_ rfl) ⟨le_ rfl, le_ rfl⟩ dX8_readBottle_90 ?_
            obtain ⟨g3, hf⟩ := gd_e hf
            cases hf
            exact j_iret E (nz_ g3) (le_ rfl) (le_ rfl) dX8_readBottle_93
        · rw [if_pos c4] at hf
          refine j_iconst E 0 ic_0 dX8_readBottle_57 ?_
          cases hf
          exact j_iret E rfl (le_ rfl) (le_ rfl) dX8_readBottle_58
    · rw [if_neg c2] at hf
      refine j_iconst E 0 ic_0 dX8_readBottle_34 ?_
      cases hf
      exact j_iret E rfl (le_ rfl) (le_ rfl) dX8_readBottle_35
def f_X8_readSell (X : XT) : Option (Int32 × XT) :=
  bn1 (f_X10_toNext X) (fun X1 => bn2 (f_X8_readNumber X1 0 ((X1 23 0 0 3) - 1)) (fun r1 X2 => if r1 < 0 then (some (0, X2)) else (if r1 < 12 then (bn2 (f_X8_readNumber X2 1 20000) (fun r2 X3 => if r2 = (-1) then (some (0, X3)) else (bn2 (f_X8_readNumber X3 1 9999) (fun r3 X4 => if r3 = (-1) then (some (0, X4)) else (bn2 (f_X8_isSemicolonHere X4) (fun r4 X5 => if r4 = 0 then (some (0, X5)) else (gd (¬ (r1 < 0 ∨ 12 ≤ r1.toNatClampNeg)) (bn1 (f_X0_canTrade X5 0 0 (r1.toNatClampNeg) r2 r3) (fun r5 => if r5 = 0 then (bn2 (f_X8_fail X5 6) (fun r7 X8 => gd (r7 &&& 1 = r7) (some (r7, X8)))) else (bn1 (f_X0_trade X5 0 0 (r1.toNatClampNeg) r2 r3) (fun X6 => bn2 (f_X8_readSemicolon X6) (fun r6 X7 => gd (r6 &&& 1 = r6) (some (r6, X7)))))))))))))) else (some (0, X2)))))
set_option maxRecDepth 20000 in
theorem c_X8_readSell {l : Launch} {D : DD} {z : Nat} {Y : YT} {X : XT} {r : Int32} {X' : XT} (hf : f_X8_readSell X = some (r, X')) : CC l yX8_readSell cX8_readSell 5 (some .boolean) (rmk 4 0 0) D z [.ref (z + aX 1 0 0)] (GG D z (X, Y)) (some (.int r)) (GG D z (X', Y)) := by
  unfold f_X8_readSell at hf
  refine cc_of pn_X8 (le_ rfl) (ls := [(0, .ref (z + aX 1 0 0))]) rfl ?_
  intro p e s m args below meth c E
  refine j_aload_n E 0 rfl dX8_readSell_0 ?_
  refine j_get (f := 0) E ok1 cf_X8 fl_X8_12 (lt_ rfl) rfl ent1 rfl dX8_readSell_1 ?_
  obtain ⟨X1, h1, hf⟩ := bn1_e hf
  refine j_invV [] [] E (c_X10_toNext h1) ml_X8_64 mv_X10_toNext rfl ⟨le_ rfl, le_ rfl⟩ (rcX ok2 cf_X10 ent2) rfl rfl (le_ rfl) ⟨le_ rfl, le_ rfl⟩ dX8_readSell_4 ?_
  refine j_aload_n E 0 rfl dX8_readSell_7 ?_
  refine j_iconst E 0 ic_0 dX8_readSell_8 ?_
  refine j_aload_n E 0 rfl dX8_readSell_9 ?_
  refine j_get (f := 1) E ok1 cf_X8 fl_X8_21 (lt_ rfl) rfl ent1 rfl dX8_readSell_10 ?_
  refine j_getN (f := 3) E (okb10 jl0) cf_X0 fl_X8_196 (lt_ rfl) rfl ent10 rfl dX8_readSell_13 ?_
  refine j_getN (f := 3) E (okb23 jl0) cf_X2 fl_X8_230 (lt_ rfl) rfl ent23 rfl dX8_readSell_16 ?_
  refine j_iconst E 1 ic_1 dX8_readSell_19 ?_
  refine j_isub E dX8_readSell_20 ?_
  obtain ⟨r1, X2, h2, hf⟩ := bn2_e hf
  refine j_invV [] [.int r1] E (c_X8_readNumber h2) ml_X8_67 mv_X8_readNumber rfl ⟨le_ rfl, le_ rfl⟩ (rcX ok1 cf_X8 ent1) rfl rfl (le_ rfl) ⟨le_ rfl, le_ rfl⟩ dX8_readSell_21 ?_
  refine j_istore_n (ls' := [(1, .int r1), (0, .ref (z + aX 1 0 0))]) E (lt_ rfl) rfl dX8_readSell_24 ?_
  refine j_iload_n E 0 rfl dX8_readSell_25 ?_
  refine j_if_lt E 35 (by decide) dX8_readSell_26 (fun c1 => ?_) (fun c1 => ?_)
  · rw [if_pos c1] at hf
    refine j_iconst E 0 ic_0 dX8_readSell_35 ?_
    cases hf
    exact j_iret E rfl (le_ rfl) (le_ rfl) dX8_readSell_36
  · rw [if_neg c1] at hf
    refine j_iload_n E 0 rfl dX8_readSell_29 ?_
    refine j_bipush E 12 bp_12 dX8_readSell_30 ?_
    refine j_icmp_lt E 37 (by decide) dX8_readSell_32 (fun c2 => ?_) (fun c2 => ?_)
    · rw [if_pos c2] at hf
      refine j_aload_n E 1 rfl dX8_readSell_37 ?_
      refine j_iconst E 1 ic_1 dX8_readSell_38 ?_
      refine j_sipush E 20000 sp_20000 dX8_readSell_39 ?_
      obtain ⟨r2, X3, h3, hf⟩ := bn2_e hf
      refine j_invV [] [.int r2] E (c_X8_readNumber h3) ml_X8_67 mv_X8_readNumber rfl ⟨le_ rfl, le_ rfl⟩ (rcX ok1 cf_X8 ent1) rfl rfl (le_ rfl) ⟨le_ rfl, le_ rfl⟩ dX8_readSell_42 ?_
      refine j_istore_n (ls' := [(2, .int r2), (1, .int r1), (0, .ref (z + aX 1 0 0))]) E (lt_ rfl) rfl dX8_readSell_45 ?_
      refine j_iload_n E 0 rfl dX8_readSell_46 ?_
      refine j_iconst E (-1) ic_m1 dX8_readSell_47 ?_
      refine j_icmp_ne E 53 (by decide) dX8_readSell_48 (fun c3 => ?_) (fun c3 => ?_)
      · rw [if_neg c3] at hf
        refine j_aload_n E 2 rfl dX8_readSell_53 ?_
        refine j_iconst E 1 ic_1 dX8_readSell_54 ?_
        refine j_sipush E 9999 sp_9999 dX8_readSell_55 ?_
        obtain ⟨r3, X4, h4, hf⟩ := bn2_e hf
        refine j_invV [] [.int r3] E (c_X8_readNumber h4) ml_X8_67 mv_X8_readNumber rfl ⟨le_ rfl, le_ rfl⟩ (rcX ok1 cf_X8 ent1) rfl rfl (le_ rfl) ⟨le_ rfl, le_ rfl⟩ dX8_readSell_58 ?_
        refine j_istore_n (ls' := [(3, .int r3), (2, .int r2), (1, .int r1), (0, .ref (z + aX 1 0 0))]) E (lt_ rfl) rfl dX8_readSell_61 ?_
        refine j_iload_n E 0 rfl dX8_readSell_62 ?_
        refine j_iconst E (-1) ic_m1 dX8_readSell_63 ?_
        refine j_icmp_eq E 74 (by decide) dX8_readSell_64 (fun c4 => ?_) (fun c4 => ?_)
        · rw [if_pos c4] at hf
          refine j_iconst E 0 ic_0 dX8_readSell_74 ?_
          cases hf
          exact j_iret E rfl (le_ rfl) (le_ rfl) dX8_readSell_75
        · rw [if_neg c4] at hf
          refine j_aload_n E 3 rfl dX8_readSell_67 ?_
          obtain ⟨r4, X5, h5, hf⟩ := bn2_e hf
          refine j_invV [] [.int r4] E (c_X8_isSemicolonHere h5) ml_X8_208 mv_X8_isSemicolonHere rfl ⟨le_ rfl, le_ rfl⟩ (rcX ok1 cf_X8 ent1) rfl rfl (le_ rfl) ⟨le_ rfl, le_ rfl⟩ dX8_readSell_68 ?_
          refine j_if_ne E 76 (by decide) dX8_readSell_71 (fun c5 => ?_) (fun c5 => ?_)
          · rw [if_neg c5] at hf
            refine j_aload_n E 3 rfl dX8_readSell_76 ?_
            refine j_get (f := 1) E ok1 cf_X8 fl_X8_21 (lt_ rfl) rfl ent1 rfl dX8_readSell_77 ?_
            refine j_getN (f := 3) E (okb10 jl0) cf_X0 fl_X8_196 (lt_ rfl) rfl ent10 rfl dX8_readSell_80 ?_
            refine j_getN (f := 1) E (okb23 jl0) cf_X2 fl_X8_233 (lt_ rfl) rfl ent23 rfl dX8_readSell_83 ?_
            refine j_iload_n E 2 rfl dX8_readSell_86 ?_
            obtain ⟨g1, hf⟩ := gd_e hf
            refine j_aald (t := 6) E (okb25 jl0) ent25 rfl g1 dX8_readSell_87 ?_
            refine j_astore (ls' := [(4, .ref (z + aX 27 0 r1.toNatClampNeg)), (3, .int r3), (2, .int r2), (1, .int r1), (0, .ref (z + aX 1 0 0))]) E (lt_ rfl) rfl dX8_readSell_88 ?_
            refine j_aload_n E 4 rfl dX8_readSell_90 ?_
            refine j_get (f := 1) E ok1 cf_X8 fl_X8_21 (lt_ rfl) rfl ent1 rfl dX8_readSell_91 ?_
            refine j_aload E 0 rfl dX8_readSell_94 ?_
            refine j_iload_n E 2 rfl dX8_readSell_96 ?_
            refine j_iload_n E 1 rfl dX8_readSell_97 ?_
            obtain ⟨r5, h6, hf⟩ := bn1_e hf
            refine j_invV [] [.int r5] E (c_X0_canTrade jl0 jl0 (in_cl g1) h6) ml_X8_237 mv_X0_canTrade rfl ⟨le_ rfl, le_ rfl⟩ (rcX (okb10 jl0) cf_X0 ent10) rfl rfl (le_ rfl) ⟨le_ rfl, le_ rfl⟩ dX8_readSell_98 ?_
            refine j_if_ne E 111 (by decide) dX8_readSell_101 (fun c6 => ?_) (fun c6 => ?_)
            · rw [if_neg c6] at hf
              refine j_aload_n E 4 rfl dX8_readSell_111 ?_
              refine j_get (f := 1) E ok1 cf_X8 fl_X8_21 (lt_ rfl) rfl ent1 rfl dX8_readSell_112 ?_
              refine j_aload E 0 rfl dX8_readSell_115 ?_
              refine j_iload_n E 2 rfl dX8_readSell_117 ?_
              refine j_iload_n E 1 rfl dX8_readSell_118 ?_
              obtain ⟨X6, h7, hf⟩ := bn1_e hf
              refine j_invV [] [] E (c_X0_trade jl0 jl0 (in_cl g1) h7) ml_X8_241 mv_X0_trade rfl ⟨le_ rfl, le_ rfl⟩ (rcX (okb10 jl0) cf_X0 ent10) rfl rfl (le_ rfl) ⟨le_ rfl, le_ rfl⟩ dX8_readSell_119 ?_
              refine j_aload_n E 4 rfl dX8_readSell_122 ?_
              obtain ⟨r6, X7, h8, hf⟩ := bn2_e hf
              refine j_invV [] [.int r6] E (c_X8_readSemicolon h8) ml_X8_79 mv_X8_readSemicolon rfl ⟨le_ rfl, le_ rfl⟩ (rcX ok1 cf_X8 ent1) rfl rfl (le_ rfl) ⟨le_ rfl, le_ rfl⟩ dX8_readSell_123 ?_
              obtain ⟨g2, hf⟩ := gd_e hf
              cases hf
              exact j_iret E (nz_ g2) (le_ rfl) (le_ rfl) dX8_readSell_126
            · rw [if_pos c6] at hf
              refine j_aload_n E 4 rfl dX8_readSell_104 ?_
              refine j_bipush E 6 bp_6 dX8_readSell_105 ?_
              obtain ⟨r7, X8, h9, hf⟩ := bn2_e hf
              refine j_invV [] [.int r7] E (c_X8_fail h9) ml_X8_60 mv_X8_fail rfl ⟨le_ rfl, le_ rfl⟩ (rcX ok1 cf_X8 ent1) rfl rfl (le_ rfl) ⟨le_ rfl, le_ rfl⟩ dX8_readSell_107 ?_
              obtain ⟨g3, hf⟩ := gd_e hf
              cases hf
              exact j_iret E (nz_ g3) (le_ rfl) (le_ rfl) dX8_readSell_110
          · rw [if_pos c5] at hf
            refine j_iconst E 0 ic_0 dX8_readSell_74 ?_
            cases hf
            exact j_iret E rfl (le_ rfl) (le_ rfl) dX8_readSell_75
      · rw [if_pos c3] at hf
        refine j_iconst E 0 ic_0 dX8_readSell_51 ?_
        cases hf
        exact j_iret E rfl (le_ rfl) (le_ rfl) dX8_readSell_52
    · rw [if_neg c2] at hf
      refine j_iconst E 0 ic_0 dX8_readSell_35 ?_
      cases hf
      exact j_iret E rfl (le_ rfl) (le_ rfl) dX8_readSell_36
def f_X8_readPay (X : XT) : Option (Int32 × XT) :=
  bn1 (f_X10_toNext X) (fun X1 => bn2 (f_X8_readGrowerName X1) (fun r1 X2 => if r1 = (-1) then (some (0, X2)) else (bn2 (f_X8_isSemicolonHere X2) (fun r2 X3 => if r2 = 0 then (some (0, X3)) else (bn1 (f_X0_canSettleAll X3 0 r1) (fun r3 => if r3 = 0 then (bn2 (f_X8_fail X3 6) (fun r6 X6 => gd (r6 &&& 1 = r6) (some (r6, X6)))) else (bn2 (f_X0_settleAll X3 0 r1) (fun r4 X4 => bn2 (f_X8_readSemicolon X4) (fun r5 X5 => gd (r5 &&& 1 = r5) (some (r5, X5)))))))))))
set_option maxRecDepth 20000 in
theorem c_X8_readPay {l : Launch} {D : DD} {z : Nat} {Y : YT} {X : XT} {r : Int32} {X' : XT} (hf : f_X8_readPay X = some (r, X')) : CC l yX8_readPay cX8_readPay 2 (some .boolean) (rmk 4 0 0) D z [.ref (z + aX 1 0 0)] (GG D z (X, Y)) (some (.int r)) (GG D z (X', Y)) := by
  unfold f_X8_readPay at hf
  refine cc_of pn_X8 (le_ rfl) (ls := [(0, .ref (z + aX 1 0 0))]) rfl ?_
  intro p e s m args below meth c E
  refine j_aload_n E 0 rfl dX8_readPay_0 ?_
  refine j_get (f := 0) E ok1 cf_X8 fl_X8_12 (lt_ rfl) rfl ent1 rfl dX8_readPay_1 ?_
  obtain ⟨X1, h1, hf⟩ := bn1_e hf
  refine j_invV [] [] E (c_X10_toNext h1) ml_X8_64 mv_X10_toNext rfl ⟨le_ rfl, le_ rfl⟩ (rcX ok2 cf_X10 ent2) rfl rfl (le_ rfl) ⟨le_ rfl, le_ rfl⟩ dX8_readPay_4 ?_
  refine j_aload_n E 0 rfl dX8_readPay_7 ?_
  obtain ⟨r1, X2, h2, hf⟩ := bn2_e hf
  refine j_invV [] [.int r1] E (c_X8_readGrowerName h2) ml_X8_190 mv_X8_readGrowerName rfl ⟨le_ rfl, le_ rfl⟩ (rcX ok1 cf_X8 ent1) rfl rfl (le_ rfl) ⟨le_ rfl, le_ rfl⟩ dX8_readPay_8 ?_
  refine j_istore_n (ls' := [(1, .int r1), (0, .ref (z + aX 1 0 0))]) E (lt_ rfl) rfl dX8_readPay_11 ?_
  refine j_iload_n E 0 rfl dX8_readPay_12 ?_
  refine j_iconst E (-1) ic_m1 dX8_readPay_13 ?_
  refine j_icmp_eq E 24 (by decide) dX8_readPay_14 (fun c1 => ?_) (fun c1 => ?_)
  · rw [if_pos c1] at hf
    refine j_iconst E 0 ic_0 dX8_readPay_24 ?_
    cases hf
    exact j_iret E rfl (le_ rfl) (le_ rfl) dX8_readPay_25
  · rw [if_neg c1] at hf
    refine j_aload_n E 1 rfl dX8_readPay_17 ?_
    obtain ⟨r2, X3, h3, hf⟩ := bn2_e hf
    refine j_invV [] [.int r2] E (c_X8_isSemicolonHere h3) ml_X8_208 mv_X8_isSemicolonHere rfl ⟨le_ rfl, le_ rfl⟩ (rcX ok1 cf_X8 ent1) rfl rfl (le_ rfl) ⟨le_ rfl, le_ rfl⟩ dX8_readPay_18 ?_
    refine j_if_ne E 26 (by decide) dX8_readPay_21 (fun c2 => ?_) (fun c2 => ?_)
    · rw [if_neg c2] at hf
      refine j_aload_n E 1 rfl dX8_readPay_26 ?_
      refine j_get (f := 1) E ok1 cf_X8 fl_X8_21 (lt_ rfl) rfl ent1 rfl dX8_readPay_27 ?_
      refine j_iload_n E 0 rfl dX8_readPay_30 ?_
      obtain ⟨r3, h4, hf⟩ := bn1_e hf
      refine j_invV [] [.int r3] E (c_X0_canSettleAll jl0 h4) ml_X8_245 mv_X0_canSettleAll rfl ⟨le_ rfl, le_ rfl⟩ (rcX (okb10 jl0) cf_X0 ent10) rfl rfl (le_ rfl) ⟨le_ rfl, le_ rfl⟩ dX8_readPay_31 ?_
      refine j_if_ne E 44 (by decide) dX8_readPay_34 (fun c3 => ?_) (fun c3 => ?_)
      · rw [if_neg c3] at hf
        refine j_aload_n E 1 rfl dX8_readPay_44 ?_
        refine j_get (f := 1) E ok1 cf_X8 fl_X8_21 (lt_ rfl) rfl ent1 rfl dX8_readPay_45 ?_
        refine j_iload_n E 0 rfl dX8_readPay_48 ?_
        obtain ⟨r4, X4, h5, hf⟩ := bn2_e hf
        refine j_invV [] [.int r4] E (c_X0_settleAll jl0 h5) ml_X8_248 mv_X0_settleAll rfl ⟨le_ rfl, le_ rfl⟩ (rcX (okb10 jl0) cf_X0 ent10) rfl rfl (le_ rfl) ⟨le_ rfl, le_ rfl⟩ dX8_readPay_49 ?_
        refine j_pop E rfl dX8_readPay_52 ?_
        refine j_aload_n E 1 rfl dX8_readPay_53 ?_
        obtain ⟨r5, X5, h6, hf⟩ := bn2_e hf
        refine j_invV [] [.int r5] E (c_X8_readSemicolon h6) ml_X8_79 mv_X8_readSemicolon rfl ⟨le_ rfl, le_ rfl⟩ (rcX ok1 cf_X8 ent1) rfl rfl (le_ rfl) ⟨le_ rfl, le_ rfl⟩ dX8_readPay_54 ?_
        obtain ⟨g1, hf⟩ := gd_e hf
        cases hf
        exact j_iret E (nz_ g1) (le_ rfl) (le_ rfl) dX8_readPay_57
      · rw [if_pos c3] at hf
        refine j_aload_n E 1 rfl dX8_readPay_37 ?_
        refine j_bipush E 6 bp_6 dX8_readPay_38 ?_
        obtain ⟨r6, X6, h7, hf⟩ := bn2_e hf
        refine j_invV [] [.int r6] E (c_X8_fail h7) ml_X8_60 mv_X8_fail rfl ⟨le_ rfl, le_ rfl⟩ (rcX ok1 cf_X8 ent1) rfl rfl (le_ rfl) ⟨le_ rfl, le_ rfl⟩ dX8_readPay_40 ?_
        obtain ⟨g2, hf⟩ := gd_e hf
        cases hf
        exact j_iret E (nz_ g2) (le_ rfl) (le_ rfl) dX8_readPay_43
    · rw [if_pos c2] at hf
      refine j_iconst E 0 ic_0 dX8_readPay_24 ?_
      cases hf
      exact j_iret E rfl (le_ rfl) (le_ rfl) dX8_readPay_25
def f_X8_readPump (X : XT) : Option (Int32 × XT) :=
  bn1 (f_X10_toNext X) (fun X1 => bn2 (f_X8_readNumber X1 0 ((X1 23 0 0 2) - 1)) (fun r1 X2 => if r1 < 0 then (some (0, X2)) else (if r1 < 5 then (if (X2 2 0 0 2) = 3 then (if (X2 2 0 0 5) = r1 then (bn2 (f_X8_fail X2 3) (fun r12 X13 => gd (r12 &&& 1 = r12) (some (r12, X13)))) else (bn2 (f_X8_readNumber X2 0 ((X2 23 0 0 2) - 1)) (fun r7 X8 => if r7 < 0 then (some (0, X8)) else (if 5 ≤ r7 then (some (0, X8)) else (bn2 (f_X8_isSemicolonHere X8) (fun r8 X9 => if r8 = 0 then (some (0, X9)) else (gd (¬ (r1 < 0 ∨ 5 ≤ r1.toNatClampNeg)) (gd (¬ (r7 < 0 ∨ 5 ≤ r7.toNatClampNeg)) (bn1 (f_X9_canMoveTo X9 0 (r1.toNatClampNeg) 0 (r7.toNatClampNeg)) (fun r9 => if r9 = 0 then (bn2 (f_X8_fail X9 6) (fun r11 X12 => gd (r11 &&& 1 = r11) (some (r11, X12)))) else (gd (¬ (r1 < 0 ∨ 5 ≤ r1.toNatClampNeg)) (gd (¬ (r7 < 0 ∨ 5 ≤ r7.toNatClampNeg)) (bn1 (f_X9_moveTo X9 0 (r1.toNatClampNeg) 0 (r7.toNatClampNeg)) (fun X10 => bn2 (f_X8_readSemicolon X10) (fun r10 X11 => gd (r10 &&& 1 = r10) (some (r10, X11))))))))))))))))) else (bn2 (f_X8_readNumber X2 0 ((X2 23 0 0 2) - 1)) (fun r2 X3 => if r2 < 0 then (some (0, X3)) else (if 5 ≤ r2 then (some (0, X3)) else (bn2 (f_X8_isSemicolonHere X3) (fun r3 X4 => if r3 = 0 then (some (0, X4)) else (gd (¬ (r1 < 0 ∨ 5 ≤ r1.toNatClampNeg)) (gd (¬ (r2 < 0 ∨ 5 ≤ r2.toNatClampNeg)) (bn1 (f_X9_canMoveTo X4 0 (r1.toNatClampNeg) 0 (r2.toNatClampNeg)) (fun r4 => if r4 = 0 then (bn2 (f_X8_fail X4 6) (fun r6 X7 => gd (r6 &&& 1 = r6) (some (r6, X7)))) else (gd (¬ (r1 < 0 ∨ 5 ≤ r1.toNatClampNeg)) (gd (¬ (r2 < 0 ∨ 5 ≤ r2.toNatClampNeg)) (bn1 (f_X9_moveTo X4 0 (r1.toNatClampNeg) 0 (r2.toNatClampNeg)) (fun X5 => bn2 (f_X8_readSemicolon X5) (fun r5 X6 => gd (r5 &&& 1 = r5) (some (r5, X6))))))))))))))))) else (some (0, X2)))))
set_option maxRecDepth 20000 in
theorem c_X8_readPump {l : Launch} {D : DD} {z : Nat} {Y : YT} {X : XT} {r : Int32} {X' : XT} (hf : f_X8_readPump X = some (r, X')) : CC l yX8_readPump cX8_readPump 3 (some .boolean) (rmk 4 0 0) D z [.ref (z + aX 1 0 0)] (GG D z (X, Y)) (some (.int r)) (GG D z (X', Y)) := by
  unfold f_X8_readPump at hf
  refine cc_of pn_X8 (le_ rfl) (ls := [(0, .ref (z + aX 1 0 0))]) rfl ?_
  intro p e s m args below meth c E
  refine j_aload_n E 0 rfl dX8_readPump_0 ?_
  refine j_get (f := 0) E ok1 cf_X8 fl_X8_12 (lt_ rfl) rfl ent1 rfl dX8_readPump_1 ?_
  obtain ⟨X1, h1, hf⟩ := bn1_e hf
  refine j_invV [] [] E (c_X10_toNext h1) ml_X8_64 mv_X10_toNext rfl ⟨le_ rfl, le_ rfl⟩ (rcX ok2 cf_X10 ent2) rfl rfl (le_ rfl) ⟨le_ rfl, le_ rfl⟩ dX8_readPump_4 ?_
  refine j_aload_n E 0 rfl dX8_readPump_7 ?_
  refine j_iconst E 0 ic_0 dX8_readPump_8 ?_
  refine j_aload_n E 0 rfl dX8_readPump_9 ?_
  refine j_get (f := 1) E ok1 cf_X8 fl_X8_21 (lt_ rfl) rfl ent1 rfl dX8_readPump_10 ?_
  refine j_getN (f := 3) E (okb10 jl0) cf_X0 fl_X8_196 (lt_ rfl) rfl ent10 rfl dX8_readPump_13 ?_
  refine j_getN (f := 2) E (okb23 jl0) cf_X2 fl_X8_200 (lt_ rfl) rfl ent23 rfl dX8_readPump_16 ?_
  refine j_iconst E 1 ic_1 dX8_readPump_19 ?_
  refine j_isub E dX8_readPump_20 ?_
  obtain ⟨r1, X2, h2, hf⟩ := bn2_e hf
  refine j_invV [] [.int r1] E (c_X8_readNumber h2) ml_X8_67 mv_X8_readNumber rfl ⟨le_ rfl, le_ rfl⟩ (rcX ok1 cf_X8 ent1) rfl rfl (le_ rfl) ⟨le_ rfl, le_ rfl⟩ dX8_readPump_21 ?_
  refine j_istore_n (ls' := [(1, .int r1), (0, .ref (z + aX 1 0 0))]) E (lt_ rfl) rfl dX8_readPump_24 ?_
  refine j_iload_n E 0 rfl dX8_readPump_25 ?_
  refine j_if_lt E 34 (by decide) dX8_readPump_26 (fun c1 => ?_) (fun c1 => ?_)
  · rw [if_pos c1] at hf
    refine j_iconst E 0 ic_0 dX8_readPump_34 ?_
    cases hf
    exact j_iret E rfl (le_ rfl) (le_ rfl) dX8_readPump_35
  · rw [if_neg c1] at hf
    refine j_iload_n E 0 rfl dX8_readPump_29 ?_
    refine j_iconst E 5 ic_5 dX8_readPump_30 ?_
    refine j_icmp_lt E 36 (by decide) dX8_readPump_31 (fun c2 => ?_) (fun c2 => ?_)
    · rw [if_pos c2] at hf
      refine j_aload_n E 1 rfl dX8_readPump_36 ?_
      refine j_get (f := 0) E ok1 cf_X8 fl_X8_12 (lt_ rfl) rfl ent1 rfl dX8_readPump_37 ?_
      refine j_getN (f := 2) E ok2 cf_X10 fl_X8_45 (lt_ rfl) rfl ent2 rfl dX8_readPump_40 ?_
      refine j_iconst E 3 ic_3 dX8_readPump_43 ?_
      refine j_icmp_ne E 64 (by decide) dX8_readPump_44 (fun c3 => ?_) (fun c3 => ?_)
      · rw [if_neg c3] at hf
        refine j_aload_n E 1 rfl dX8_readPump_64 ?_
        refine j_iconst E 0 ic_0 dX8_readPump_65 ?_
        refine j_aload_n E 1 rfl dX8_readPump_66 ?_
        refine j_get (f := 1) E ok1 cf_X8 fl_X8_21 (lt_ rfl) rfl ent1 rfl dX8_readPump_67 ?_
        refine j_getN (f := 3) E (okb10 jl0) cf_X0 fl_X8_196 (lt_ rfl) rfl ent10 rfl dX8_readPump_70 ?_
        refine j_getN (f := 2) E (okb23 jl0) cf_X2 fl_X8_200 (lt_ rfl) rfl ent23 rfl dX8_readPump_73 ?_
        refine j_iconst E 1 ic_1 dX8_readPump_76 ?_
        refine j_isub E dX8_readPump_77 ?_
        obtain ⟨r2, X3, h3, hf⟩ := bn2_e hf
        refine j_invV [] [.int r2] E (c_X8_readNumber h3) ml_X8_67 mv_X8_readNumber rfl ⟨le_ rfl, le_ rfl⟩ (rcX ok1 cf_X8 ent1) rfl rfl (le_ rfl) ⟨le_ rfl, le_ rfl⟩ dX8_readPump_78 ?_
        refine j_istore_n (ls' := [(2, .int r2), (1, .int r1), (0, .ref (z + aX 1 0 0))]) E (lt_ rfl) rfl dX8_readPump_81 ?_
        refine j_iload_n E 0 rfl dX8_readPump_82 ?_
        refine j_if_lt E 98 (by decide) dX8_readPump_83 (fun c4 => ?_) (fun c4 => ?_)
        · rw [if_pos c4] at hf
          refine j_iconst E 0 ic_0 dX8_readPump_98 ?_
          cases hf
          exact j_iret E rfl (le_ rfl) (le_ rfl) dX8_readPump_99
        · rw [if_neg c4] at hf
          refine j_iload_n E 0 rfl dX8_readPump_86 ?_
          refine j_iconst E 5 ic_5 dX8_readPump_87 ?_
          refine j_icmp_ge E 98 (by decide) dX8_readPump_88 (fun c5 => ?_) (fun c5 => ?_)
          · rw [if_pos c5] at hf
            refine j_iconst E 0 ic_0 dX8_readPump_98 ?_
            cases hf
            exact j_iret E rfl (le_ rfl) (le_ rfl) dX8_readPump_99
          · rw [if_neg c5] at hf
            refine j_aload_n E 2 rfl dX8_readPump_91 ?_
            obtain ⟨r3, X4, h4, hf⟩ := bn2_e hf
            refine j_invV [] [.int r3] E (c_X8_isSemicolonHere h4) ml_X8_208 mv_X8_isSemicolonHere rfl ⟨le_ rfl, le_ rfl⟩ (rcX ok1 cf_X8 ent1) rfl rfl (le_ rfl) ⟨le_ rfl, le_ rfl⟩ dX8_readPump_92 ?_
            refine j_if_ne E 100 (by decide) dX8_readPump_95 (fun c6 => ?_) (fun c6 => ?_)
            · rw [if_neg c6] at hf
              refine j_aload_n E 2 rfl dX8_readPump_100 ?_
              refine j_get (f := 1) E ok1 cf_X8 fl_X8_21 (lt_ rfl) rfl ent1 rfl dX8_readPump_101 ?_
              refine j_getN (f := 3) E (okb10 jl0) cf_X0 fl_X8_196 (lt_ rfl) rfl ent10 rfl dX8_readPump_104 ?_
              refine j_getN (f := 0) E (okb23 jl0) cf_X2 fl_X8_218 (lt_ rfl) rfl ent23 rfl dX8_readPump_107 ?_
              refine j_iload_n E 1 rfl dX8_readPump_110 ?_
              obtain ⟨g1, hf⟩ := gd_e hf
              refine j_aald (t := 5) E (okb24 jl0) ent24 rfl g1 dX8_readPump_111 ?_
              refine j_aload_n E 2 rfl dX8_readPump_112 ?_
              refine j_get (f := 1) E ok1 cf_X8 fl_X8_21 (lt_ rfl) rfl ent1 rfl dX8_readPump_113 ?_
              refine j_getN (f := 3) E (okb10 jl0) cf_X0 fl_X8_196 (lt_ rfl) rfl ent10 rfl dX8_readPump_116 ?_
              refine j_getN (f := 0) E (okb23 jl0) cf_X2 fl_X8_218 (lt_ rfl) rfl ent23 rfl dX8_readPump_119 ?_
              refine j_iload_n E 0 rfl dX8_readPump_122 ?_
              obtain ⟨g2, hf⟩ := gd_e hf
              refine j_aald (t := 5) E (okb24 jl0) ent24 rfl g2 dX8_readPump_123 ?_
              obtain ⟨r4, h5, hf⟩ := bn1_e hf
              refine j_invV [] [.int r4] E (c_X9_canMoveTo jl0 (in_cl g1) jl0 (in_cl g2) h5) ml_X8_252 mv_X9_canMoveTo rfl ⟨le_ rfl, le_ rfl⟩ (rcX (okb26 jl0 (in_cl g1)) cf_X9 ent26) rfl rfl (le_ rfl) ⟨le_ rfl, le_ rfl⟩ dX8_readPump_124 ?_
              refine j_if_ne E 137 (by decide) dX8_readPump_127 (fun c7 => ?_) (fun c7 => ?_)
              · rw [if_neg c7] at hf
                refine j_aload_n E 2 rfl dX8_readPump_137 ?_
                refine j_get (f := 1) E ok1 cf_X8 fl_X8_21 (lt_ rfl) rfl ent1 rfl dX8_readPump_138 ?_
                refine j_getN (f := 3) E (okb10 jl0) cf_X0 fl_X8_196 (lt_ rfl) rfl ent10 rfl dX8_readPump_141 ?_
                refine j_getN (f := 0) E (okb23 jl0) cf_X2 fl_X8_218 (lt_ rfl) rfl ent23 rfl dX8_readPump_144 ?_
                refine j_iload_n E 1 rfl dX8_readPump_147 ?_
                obtain ⟨g3, hf⟩ := gd_e hf
                refine j_aald (t := 5) E (okb24 jl0) ent24 rfl g3 dX8_readPump_148 ?_
                refine j_aload_n E 2 rfl dX8_readPump_149 ?_
                refine j_get (f := 1) E ok1 cf_X8 fl_X8_21 (lt_ rfl) rfl ent1 rfl dX8_readPump_150 ?_
                refine j_getN (f := 3) E (okb10 jl0) cf_X0 fl_X8_196 (lt_ rfl) rfl ent10 rfl dX8_readPump_153 ?_
                refine j_getN (f := 0) E (okb23 jl0) cf_X2 fl_X8_218 (lt_ rfl) rfl ent23 rfl dX8_readPump_156 ?_
                refine j_iload_n E 0 rfl dX8_readPump_159 ?_
                obtain ⟨g4, hf⟩ := gd_e hf
                refine j_aald (t := 5) E (okb24 jl0) ent24 rfl g4 dX8_readPump_160 ?_
                obtain ⟨X5, h6, hf⟩ := bn1_e hf
                refine j_invV [] [] E (c_X9_moveTo jl0 (in_cl g3) jl0 (in_cl g4) h6) ml_X8_258 mv_X9_moveTo rfl ⟨le_ rfl, le_ rfl⟩ (rcX (okb26 jl0 (in_cl g3)) cf_X9 ent26) rfl rfl (le_ rfl) ⟨le_ rfl, le_ rfl⟩ dX8_readPump_161 ?_
                refine j_aload_n E 2 rfl dX8_readPump_164 ?_
                obtain ⟨r5, X6, h7, hf⟩ := bn2_e hf
                refine j_invV [] [.int r5] E (c_X8_readSemicolon h7) ml_X8_79 mv_X8_readSemicolon rfl ⟨le_ rfl, le_ rfl⟩ (rcX ok1 cf_X8 ent1) rfl rfl (le_ rfl) ⟨le_ rfl, le_ rfl⟩ dX8_readPump_165 ?_
                obtain ⟨g5, hf⟩ := gd_e hf
                cases hf
                exact j_iret E (nz_ g5) (le_ rfl) (le_ rfl) dX8_readPump_168
              · rw [if_pos c7] at hf
                refine j_aload_n E 2 rfl dX8_readPump_130 ?_
                refine j_bipush E 6 bp_6 dX8_readPump_131 ?_
                obtain ⟨r6, X7, h8, hf⟩ := bn2_e hf
                refine j_invV [] [.int r6] E (c_X8_fail h8) ml_X8_60 mv_X8_fail rfl ⟨le_ rfl, le_ rfl⟩ (rcX ok1 cf_X8 ent1) rfl rfl (le_ rfl) ⟨le_ rfl, le_ rfl⟩ dX8_readPump_133 ?_
                obtain ⟨g6, hf⟩ := gd_e hf
                cases hf
                exact j_iret E (nz_ g6) (le_ rfl) (le_ rfl) dX8_readPump_136
            · rw [if_pos c6] at hf
              refine j_iconst E 0 ic_0 dX8_readPump_98 ?_
              cases hf
              exact j_iret E rfl (le_ rfl) (le_ rfl) dX8_readPump_99
      · rw [if_pos c3] at hf
        refine j_aload_n E 1 rfl dX8_readPump_47 ?_
        refine j_get (f := 0) E ok1 cf_X8 fl_X8_12 (lt_ rfl) rfl ent1 rfl dX8_readPump_48 ?_
        refine j_getN (f := 5) E ok2 cf_X10 fl_X8_95 (lt_ rfl) rfl ent2 rfl dX8_readPump_51 ?_
        refine j_iload_n E 0 rfl dX8_readPump_54 ?_
        refine j_icmp_ne E 64 (by decide) dX8_readPump_55 (fun c8 => ?_) (fun c8 => ?_)
        · rw [if_neg c8] at hf
          refine j_aload_n E 1 rfl dX8_readPump_64 ?_
          refine j_iconst E 0 ic_0 dX8_readPump_65 ?_
          refine j_aload_n E 1 rfl dX8_readPump_66 ?_
          refine j_get (f := 1) E ok1 cf_X8 fl_X8_21 (lt_ rfl) rfl ent1 rfl dX8_readPump_67 ?_
          refine j_getN (f := 3) E (okb10 jl0) cf_X0 fl_X8_196 (lt_ rfl) rfl ent10 rfl dX8_readPump_70 ?_
          refine j_getN (f := 2) E (okb23 jl0) cf_X2 fl_X8_200 (lt_ rfl) rfl ent23 rfl dX8_readPump_73 ?_
          refine j_iconst E 1 ic_1 dX8_readPump_76 ?_
          refine j_isub E dX8_readPump_77 ?_
          obtain ⟨r7, X8, h9, hf⟩ := bn2_e hf
          refine j_invV [] [.int r7] E (c_X8_readNumber h9) ml_X8_67 mv_X8_readNumber rfl ⟨le_ rfl, le_ rfl⟩ (rcX ok1 cf_X8 ent1) rfl rfl (le_ rfl) ⟨le_ rfl, le_ rfl⟩ dX8_readPump_78 ?_
          refine j_istore_n (ls' := [(2, .int r7), (1, .int r1), (0, .ref (z + aX 1 0 0))]) E (lt_ rfl) rfl dX8_readPump_81 ?_
          refine j_iload_n E 0 rfl dX8_readPump_82 ?_
          refine j_if_lt E 98 (by decide) dX8_readPump_83 (fun c9 => ?_) (fun c9 => ?_)
          · rw [if_pos c9] at hf
            refine j_iconst E 0 ic_0 dX8_readPump_98 ?_
            cases hf
            exact j_iret E rfl (le_ rfl) (le_ rfl) dX8_readPump_99
          · rw [if_neg c9] at hf
            refine j_iload_n E 0 rfl dX8_readPump_86 ?_
            refine j_iconst E 5 ic_5 dX8_readPump_87 ?_
            refine j_icmp_ge E 98 (by decide) dX8_readPump_88 (fun c10 => ?_) (fun c10 => ?_)
            · rw [if_pos c10] at hf
              refine j_iconst E 0 ic_0 dX8_readPump_98 ?_
              cases hf
              exact j_iret E rfl (le_ rfl) (le_ rfl) dX8_readPump_99
            · rw [if_neg c10] at hf
              refine j_aload_n E 2 rfl dX8_readPump_91 ?_
              obtain ⟨r8, X9, h10, hf⟩ := bn2_e hf
              refine j_invV [] [.int r8] E (c_X8_isSemicolonHere h10) ml_X8_208 mv_X8_isSemicolonHere rfl ⟨le_ rfl, le_ rfl⟩ (rcX ok1 cf_X8 ent1) rfl rfl (le_ rfl) ⟨le_ rfl, le_ rfl⟩ dX8_readPump_92 ?_
              refine j_if_ne E 100 (by decide) dX8_readPump_95 (fun c11 => ?_) (fun c11 => ?_)
              · rw [if_neg c11] at hf
                refine j_aload_n E 2 rfl dX8_readPump_100 ?_
                refine j_get (f := 1) E ok1 cf_X8 fl_X8_21 (lt_ rfl) rfl ent1 rfl dX8_readPump_101 ?_
                refine j_getN (f := 3) E (okb10 jl0) cf_X0 fl_X8_196 (lt_ rfl) rfl ent10 rfl dX8_readPump_104 ?_
                refine j_getN (f := 0) E (okb23 jl0) cf_X2 fl_X8_218 (lt_ rfl) rfl ent23 rfl dX8_readPump_107 ?_
                refine j_iload_n E 1 rfl dX8_readPump_110 ?_
                obtain ⟨g7, hf⟩ := gd_e hf
                refine j_aald (t := 5) E (okb24 jl0) ent24 rfl g7 dX8_readPump_111 ?_
                refine j_aload_n E 2 rfl dX8_readPump_112 ?_
                refine j_get (f := 1) E ok1 cf_X8 fl_X8_21 (lt_ rfl) rfl ent1 rfl dX8_readPump_113 ?_
                refine j_getN (f := 3) E (okb10 jl0) cf_X0 fl_X8_196 (lt_ rfl) rfl ent10 rfl dX8_readPump_116 ?_
                refine j_getN (f := 0) E (okb23 jl0) cf_X2 fl_X8_218 (lt_ rfl) rfl ent23 rfl dX8_readPump_119 ?_
                refine j_iload_n E 0 rfl dX8_readPump_122 ?_
                obtain ⟨g8, hf⟩ := gd_e hf
                refine j_aald (t := 5) E (okb24 jl0) ent24 rfl g8 dX8_readPump_123 ?_
                obtain ⟨r9, h11, hf⟩ := bn1_e hf
                refine j_invV [] [.int r9] E (c_X9_canMoveTo jl0 (in_cl g7) jl0 (in_cl g8) h11) ml_X8_252 mv_X9_canMoveTo rfl ⟨le_ rfl, le_ rfl⟩ (rcX (okb26 jl0 (in_cl g7)) cf_X9 ent26) rfl rfl (le_ rfl) ⟨le_ rfl, le_ rfl⟩ dX8_readPump_124 ?_
                refine j_if_ne E 137 (by decide) dX8_readPump_127 (fun c12 => ?_) (fun c12 => ?_)
                · rw [if_neg c12] at hf
                  refine j_aload_n E 2 rfl dX8_readPump_137 ?_
                  refine j_get (f := 1) E ok1 cf_X8 fl_X8_21 (lt_ rfl) rfl ent1 rfl dX8_readPump_138 ?_
                  refine j_getN (f := 3) E (okb10 jl0) cf_X0 fl_X8_196 (lt_ rfl) rfl ent10 rfl dX8_readPump_141 ?_
                  refine j_getN (f := 0) E (okb23 jl0) cf_X2 fl_X8_218 (lt_ rfl) rfl ent23 rfl dX8_readPump_144 ?_
                  refine j_iload_n E 1 rfl dX8_readPump_147 ?_
                  obtain ⟨g9, hf⟩ := gd_e hf
                  refine j_aald (t := 5) E (okb24 jl0) ent24 rfl g9 dX8_readPump_148 ?_
                  refine j_aload_n E 2 rfl dX8_readPump_149 ?_
                  refine j_get (f := 1) E ok1 cf_X8 fl_X8_21 (lt_ rfl) rfl ent1 rfl dX8_readPump_150 ?_
                  refine j_getN (f := 3) E (okb10 jl0) cf_X0 fl_X8_196 (lt_ rfl) rfl ent10 rfl dX8_readPump_153 ?_
                  refine j_getN (f := 0) E (okb23 jl0) cf_X2 fl_X8_218 (lt_ rfl) rfl ent23 rfl dX8_readPump_156 ?_
                  refine j_iload_n E 0 rfl dX8_readPump_159 ?_
                  obtain ⟨g10, hf⟩ := gd_e hf
                  refine j_aald (t := 5) E (okb24 jl0) ent24 rfl g10 dX8_readPump_160 ?_
                  obtain ⟨X10, h12, hf⟩ := bn1_e hf
                  refine j_invV [] [] E (c_X9_moveTo jl0 (in_cl g9) jl0 (in_cl g10) h12) ml_X8_258 mv_X9_moveTo rfl ⟨le_ rfl, le_ rfl⟩ (rcX (okb26 jl0 (in_cl g9)) cf_X9 ent26) rfl rfl (le_ rfl) ⟨le_ rfl, le_ rfl⟩ dX8_readPump_161 ?_
                  refine j_aload_n E 2 rfl dX8_readPump_164 ?_
                  obtain ⟨r10, X11, h13, hf⟩ := bn2_e hf
                  refine j_invV [] [.int r10] E (c_X8_readSemicolon h13) ml_X8_79 mv_X8_readSemicolon rfl ⟨le_ rfl, le_ rfl⟩ (rcX ok1 cf_X8 ent1) rfl rfl (le_ rfl) ⟨le_ rfl, le_ rfl⟩ dX8_readPump_165 ?_
                  obtain ⟨g11, hf⟩ := gd_e hf
                  cases hf
                  exact j_iret E (nz_ g11) (le_ rfl) (le_ rfl) dX8_readPump_168
                · rw [if_pos c12] at hf
                  refine j_aload_n E 2 rfl dX8_readPump_130 ?_
                  refine j_bipush E 6 bp_6 dX8_readPump_131 ?_
                  obtain ⟨r11, X12, h14, hf⟩ := bn2_e hf
                  refine j_invV [] [.int r11] E (c_X8_fail h14) ml_X8_60 mv_X8_fail rfl ⟨le_ rfl, le_ rfl⟩ (rcX ok1 cf_X8 ent1) rfl rfl (le_ rfl) ⟨le_ rfl, le_ rfl⟩ dX8_readPump_133 ?_
                  obtain ⟨g12, hf⟩ := gd_e hf
                  cases hf
                  exact j_iret E (nz_ g12) (le_ rfl) (le_ rfl) dX8_readPump_136
              · rw [if_pos c11] at hf
                refine j_iconst E 0 ic_0 dX8_readPump_98 ?_
                cases hf
                exact j_iret E rfl (le_ rfl) (le_ rfl) dX8_readPump_99
        · rw [if_pos c8] at hf
          refine j_aload_n E 1 rfl dX8_readPump_58 ?_
          refine j_iconst E 3 ic_3 dX8_readPump_59 ?_
          obtain ⟨r12, X13, h15, hf⟩ := bn2_e hf
          refine j_invV [] [.int r12] E (c_X8_fail h15) ml_X8_60 mv_X8_fail rfl ⟨le_ rfl, le_ rfl⟩ (rcX ok1 cf_X8 ent1) rfl rfl (le_ rfl) ⟨le_ rfl, le_ rfl⟩ dX8_readPump_60 ?_
          obtain ⟨g13, hf⟩ := gd_e hf
          cases hf
          exact j_iret E (nz_ g13) (le_ rfl) (le_ rfl) dX8_readPump_63
    · rw [if_neg c2] at hf
      refine j_iconst E 0 ic_0 dX8_readPump_34 ?_
      cases hf
      exact j_iret E rfl (le_ rfl) (le_ rfl) dX8_readPump_35
def f_X8_readStatement (X : XT) : Option (Int32 × XT) :=
  bn1 (f_X10_spells X 2) (fun r1 => if r1 = 0 then (bn1 (f_X10_spells X 3) (fun r2 => if r2 = 0 then (bn1 (f_X10_spells X 4) (fun r3 => if r3 = 0 then (bn1 (f_X10_spells X 5) (fun r4 => if r4 = 0 then (bn1 (f_X10_spells X 6) (fun r5 => if r5 = 0 then (bn1 (f_X10_spells X 7) (fun r6 => if r6 = 0 then (bn1 (f_X10_spells X 8) (fun r7 => if r7 = 0 then (bn1 (f_X10_spells X 9) (fun r8 => if r8 = 0 then (bn1 (f_X10_spells X 10) (fun r9 => if r9 = 0 then (bn1 (f_X10_spells X 11) (fun r10 => if r10 = 0 then (bn2 (f_X8_fail X 1) (fun r11 X1 => gd (r11 &&& 1 = r11) (some (r11, X1)))) else (bn2 (f_X8_readPump X) (fun r12 X2 => gd (r12 &&& 1 = r12) (some (r12, X2)))))) else (bn2 (f_X8_readPay X) (fun r13 X3 => gd (r13 &&& 1 = r13) (some (r13, X3)))))) else (bn2 (f_X8_readSell X) (fun r14 X4 => gd (r14 &&& 1 = r14) (some (r14, X4)))))) else (bn2 (f_X8_readBottle X) (fun r15 X5 => gd (r15 &&& 1 = r15) (some (r15, X5)))))) else (bn2 (f_X8_readLoad X) (fun r16 X6 => gd (r16 &&& 1 = r16) (some (r16, X6)))))) else (bn2 (f_X8_readTank X) (fun r17 X7 => gd (r17 &&& 1 = r17) (some (r17, X7)))))) else (bn2 (f_X8_readPlot X) (fun r18 X8 => gd (r18 &&& 1 = r18) (some (r18, X8)))))) else (bn2 (f_X8_readGrower X) (fun r19 X9 => gd (r19 &&& 1 = r19) (some (r19, X9)))))) else (bn2 (f_X8_readPrice X) (fun r20 X10 => gd (r20 &&& 1 = r20) (some (r20, X10)))))) else (bn2 (f_X8_readVariety X) (fun r21 X11 => gd (r21 &&& 1 = r21) (some (r21, X11)))))
set_option maxRecDepth 20000 in
theorem c_X8_readStatement {l : Launch} {D : DD} {z : Nat} {Y : YT} {X : XT} {r : Int32} {X' : XT} (hf : f_X8_readStatement X = some (r, X')) : CC l yX8_readStatement cX8_readStatement 1 (some .boolean) (rmk 6 0 0) D z [.ref (z + aX 1 0 0)] (GG D z (X, Y)) (some (.int r)) (GG D z (X', Y)) := by
  unfold f_X8_readStatement at hf
  refine cc_of pn_X8 (le_ rfl) (ls := [(0, .ref (z + aX 1 0 0))]) rfl ?_
  intro p e s m args below meth c E
  refine j_aload_n E 0 rfl dX8_readStatement_0 ?_
  refine j_get (f := 0) E ok1 cf_X8 fl_X8_12 (lt_ rfl) rfl ent1 rfl dX8_readStatement_1 ?_
  refine j_ldcS E sl_X8_108 sc_X8_108 dX8_readStatement_4 ?_
  obtain ⟨r1, h1, hf⟩ := bn1_e hf
  refine j_invV [] [.int r1] E (c_X10_spells (lt_ rfl) h1) ml_X8_56 mv_X10_spells rfl ⟨le_ rfl, le_ rfl⟩ (rcX ok2 cf_X10 ent2) rfl rfl (le_ rfl) ⟨le_ rfl, le_ rfl⟩ dX8_readStatement_6 ?_
  refine j_if_eq E 17 (by decide) dX8_readStatement_9 (fun c1 => ?_) (fun c1 => ?_)
  · rw [if_pos c1] at hf
    refine j_aload_n E 0 rfl dX8_readStatement_17 ?_
    refine j_get (f := 0) E ok1 cf_X8 fl_X8_12 (lt_ rfl) rfl ent1 rfl dX8_readStatement_18 ?_
    refine j_ldcS E sl_X8_113 sc_X8_113 dX8_readStatement_21 ?_
    obtain ⟨r2, h2, hf⟩ := bn1_e hf
    refine j_invV [] [.int r2] E (c_X10_spells (lt_ rfl) h2) ml_X8_56 mv_X10_spells rfl ⟨le_ rfl, le_ rfl⟩ (rcX ok2 cf_X10 ent2) rfl rfl (le_ rfl) ⟨le_ rfl, le_ rfl⟩ dX8_readStatement_23 ?_
    refine j_if_eq E 34 (by decide) dX8_readStatement_26 (fun c2 => ?_) (fun c2 => ?_)
    · rw [if_pos c2] at hf
      refine j_aload_n E 0 rfl dX8_readStatement_34 ?_
      refine j_get (f := 0) E ok1 cf_X8 fl_X8_12 (lt_ rfl) rfl ent1 rfl dX8_readStatement_35 ?_
      refine j_ldcS E sl_X8_118 sc_X8_118 dX8_readStatement_38 ?_
      obtain ⟨r3, h3, hf⟩ := bn1_e hf
      refine j_invV [] [.int r3] E (c_X10_spells (lt_ rfl) h3) ml_X8_56 mv_X10_spells rfl ⟨le_ rfl, le_ rfl⟩ (rcX ok2 cf_X10 ent2) rfl rfl (le_ rfl) ⟨le_ rfl, le_ rfl⟩ dX8_readStatement_40 ?_
      refine j_if_eq E 51 (by decide) dX8_readStatement_43 (fun c3 => ?_) (fun c3 => ?_)
      · rw [if_pos c3] at hf
        refine j_aload_n E 0 rfl dX8_readStatement_51 ?_
        refine j_get (f := 0) E ok1 cf_X8 fl_X8_12 (lt_ rfl) rfl ent1 rfl dX8_readStatement_52 ?_
        refine j_ldcS E sl_X8_123 sc_X8_123 dX8_readStatement_55 ?_
        obtain ⟨r4, h4, hf⟩ := bn1_e hf
        refine j_invV [] [.int r4] E (c_X10_spells (lt_ rfl) h4) ml_X8_56 mv_X10_spells rfl ⟨le_ rfl, le_ rfl⟩ (rcX ok2 cf_X10 ent2) rfl rfl (le_ rfl) ⟨le_ rfl, le_ rfl⟩ dX8_readStatement_57 ?_
        refine j_if_eq E 68 (by decide) dX8_readStatement_60 (fun c4 => ?_) (fun c4 => ?_)
        · rw [if_pos c4] at hf
          refine j_aload_n E 0 rfl dX8_readStatement_68 ?_
          refine j_get (f := 0) E ok1 cf_X8 fl_X8_12 (lt_ rfl) rfl ent1 rfl dX8_readStatement_69 ?_
          refine j_ldcS E sl_X8_128 sc_X8_128 dX8_readStatement_72 ?_
          obtain ⟨r5, h5, hf⟩ := bn1_e hf
          refine j_invV [] [.int r5] E (c_X10_spells (lt_ rfl) h5) ml_X8_56 mv_X10_spells rfl ⟨le_ rfl, le_ rfl⟩ (rcX ok2 cf_X10 ent2) rfl rfl (le_ rfl) ⟨le_ rfl, le_ rfl⟩ dX8_readStatement_74 ?_
          refine j_if_eq E 85 (by decide) dX8_readStatement_77 (fun c5 => ?_) (fun c5 => ?_)
          · rw [if_pos c5] at hf
            refine j_aload_n E 0 rfl dX8_readStatement_85 ?_
            refine j_get (f := 0) E ok1 cf_X8 fl_X8_12 (lt_ rfl) rfl ent1 rfl dX8_readStatement_86 ?_
            refine j_ldcS E sl_X8_133 sc_X8_133 dX8_readStatement_89 ?_
            obtain ⟨r6, h6, hf⟩ := bn1_e hf
            refine j_invV [] [.int r6] E (c_X10_spells (lt_ rfl) h6) ml_X8_56 mv_X10_spells rfl ⟨le_ rfl, le_ rfl⟩ (rcX ok2 cf_X10 ent2) rfl rfl (le_ rfl) ⟨le_ rfl, le_ rfl⟩ dX8_readStatement_91 ?_
            refine j_if_eq E 102 (by decide) dX8_readStatement_94 (fun c6 => ?_) (fun c6 => ?_)
            · rw [if_pos c6] at hf
              refine j_aload_n E 0 rfl dX8_readStatement_102 ?_
              refine j_get (f := 0) E ok1 cf_X8 fl_X8_12 (lt_ rfl) rfl ent1 rfl dX8_readStatement_103 ?_
              refine j_ldcS E sl_X8_138 sc_X8_138 dX8_readStatement_106 ?_
              obtain ⟨r7, h7, hf⟩ := bn1_e hf
              refine j_invV [] [.int r7] E (c_X10_spells (lt_ rfl) h7) ml_X8_56 mv_X10_spells rfl ⟨le_ rfl, le_ rfl⟩ (rcX ok2 cf_X10 ent2) rfl rfl (le_ rfl) ⟨le_ rfl, le_ rfl⟩ dX8_readStatement_108 ?_
              refine j_if_eq E 119 (by decide) dX8_readStatement_111 (fun c7 => ?_) (fun c7 => ?_)
              · rw [if_pos c7] at hf
                refine j_aload_n E 0 rfl dX8_readStatement_119 ?_
                refine j_get (f := 0) E ok1 cf_X8 fl_X8_12 (lt_ rfl) rfl ent1 rfl dX8_readStatement_120 ?_
                refine j_ldcS E sl_X8_143 sc_X8_143 dX8_readStatement_123 ?_
                obtain ⟨r8, h8, hf⟩ := bn1_e hf
                refine j_invV [] [.int r8] E (c_X10_spells (lt_ rfl) h8) ml_X8_56 mv_X10_spells rfl ⟨le_ rfl, le_ rfl⟩ (rcX ok2 cf_X10 ent2) rfl rfl (le_ rfl) ⟨le_ rfl, le_ rfl⟩ dX8_readStatement_125 ?_
                refine j_if_eq E 136 (by decide) dX8_readStatement_128 (fun c8 => ?_) (fun c8 => ?_)
                · rw [if_pos c8] at hf
                  refine j_aload_n E 0 rfl dX8_readStatement_136 ?_
                  refine j_get (f := 0) E ok1 cf_X8 fl_X8_12 (lt_ rfl) rfl ent1 rfl dX8_readStatement_137 ?_
                  refine j_ldcS E sl_X8_148 sc_X8_148 dX8_readStatement_140 ?_
                  obtain ⟨r9, h9, hf⟩ := bn1_e hf
                  refine j_invV [] [.int r9] E (c_X10_spells (lt_ rfl) h9) ml_X8_56 mv_X10_spells rfl ⟨le_ rfl, le_ rfl⟩ (rcX ok2 cf_X10 ent2) rfl rfl (le_ rfl) ⟨le_ rfl, le_ rfl⟩ dX8_readStatement_142 ?_
                  refine j_if_eq E 153 (by decide) dX8_readStatement_145 (fun c9 => ?_) (fun c9 => ?_)
                  · rw [if_pos c9] at hf
                    refine j_aload_n E 0 rfl dX8_readStatement_153 ?_
                    refine j_get (f := 0) E ok1 cf_X8 fl_X8_12 (lt_ rfl) rfl ent1 rfl dX8_readStatement_154 ?_
                    refine j_ldcS E sl_X8_153 sc_X8_153 dX8_readStatement_157 ?_
                    obtain ⟨r10, h10, hf⟩ := bn1_e hf
                    refine j_invV [] [.int r10] E (c_X10_spells (lt_ rfl) h10) ml_X8_56 mv_X10_spells rfl ⟨le_ rfl, le_ rfl⟩ (rcX ok2 cf_X10 ent2) rfl rfl (le_ rfl) ⟨le_ rfl, le_ rfl⟩ dX8_readStatement_159 ?_
                    refine j_if_eq E 170 (by decide) dX8_readStatement_162 (fun c10 => ?_) (fun c10 => ?_)
                    · rw [if_pos c10] at hf
                      refine j_aload_n E 0 rfl dX8_readStatement_170 ?_
                      refine j_iconst E 1 ic_1 dX8_readStatement_171 ?_
                      obtain ⟨r11, X1, h11, hf⟩ := bn2_e hf
                      refine j_invV [] [.int r11] E (c_X8_fail h11) ml_X8_60 mv_X8_fail rfl ⟨le_ rfl, le_ rfl⟩ (rcX ok1 cf_X8 ent1) rfl rfl (le_ rfl) ⟨le_ rfl, le_ rfl⟩ dX8_readStatement_172 ?_
                      obtain ⟨g1, hf⟩ := gd_e hf
                      cases hf
                      exact j_iret E (nz_ g1) (le_ rfl) (le_ rfl) dX8_readStatement_175
                    · rw [if_neg c10] at hf
                      refine j_aload_n E 0 rfl dX8_readStatement_165 ?_
                      obtain ⟨r12, X2, h12, hf⟩ := bn2_e hf
                      refine j_invV [] [.int r12] E (c_X8_readPump h12) ml_X8_155 mv_X8_readPump rfl ⟨le_ rfl, le_ rfl⟩ (rcX ok1 cf_X8 ent1) rfl rfl (le_ rfl) ⟨le_ rfl, le_ rfl⟩ dX8_readStatement_166 ?_
                      obtain ⟨g2, hf⟩ := gd_e hf
                      cases hf
                      exact j_iret E (nz_ g2) (le_ rfl) (le_ rfl) dX8_readStatement_169
                  · rw [if_neg c9] at hf
                    refine j_aload_n E 0 rfl dX8_readStatement_148 ?_
                    obtain ⟨r13, X3, h13, hf⟩ := bn2_e hf
                    refine j_invV [] [.int r13] E (c_X8_readPay h13) ml_X8_150 mv_X8_readPay rfl ⟨le_ rfl, le_ rfl⟩ (rcX ok1 cf_X8 ent1) rfl rfl (le_ rfl) ⟨le_ rfl, le_ rfl⟩ dX8_readStatement_149 ?_
                    obtain ⟨g3, hf⟩ := gd_e hf
                    cases hf
                    exact j_iret E (nz_ g3) (le_ rfl) (le_ rfl) dX8_readStatement_152
                · rw [if_neg c8] at hf
                  refine j_aload_n E 0 rfl dX8_readStatement_131 ?_
                  obtain ⟨r14, X4, h14, hf⟩ := bn2_e hf
                  refine j_invV [] [.int r14] E (c_X8_readSell h14) ml_X8_145 mv_X8_readSell rfl ⟨le_ rfl, le_ rfl⟩ (rcX ok1 cf_X8 ent1) rfl rfl (le_ rfl) ⟨le_ rfl, le_ rfl⟩ dX8_readStatement_132 ?_
                  obtain ⟨g4, hf⟩ := gd_e hf
                  cases hf
                  exact j_iret E (nz_ g4) (le_ rfl) (le_ rfl) dX8_readStatement_135
              · rw [if_neg c7] at hf
                refine j_aload_n E 0 rfl dX8_readStatement_114 ?_
                obtain ⟨r15, X5, h15, hf⟩ := bn2_e hf
                refine j_invV [] [.int r15] E (c_X8_readBottle h15) ml_X8_140 mv_X8_readBottle rfl ⟨le_ rfl, le_ rfl⟩ (rcX ok1 cf_X8 ent1) rfl rfl (le_ rfl) ⟨le_ rfl, le_ rfl⟩ dX8_readStatement_115 ?_
                obtain ⟨g5, hf⟩ := gd_e hf
                cases hf
                exact j_iret E (nz_ g5) (le_ rfl) (le_ rfl) dX8_readStatement_118
            · rw [if_neg c6] at hf
              refine j_aload_n E 0 rfl dX8_readStatement_97 ?_
              obtain ⟨r16, X6, h16, hf⟩ := bn2_e hf
              refine j_invV [] [.int r16] E (c_X8_readLoad h16) ml_X8_135 mv_X8_readLoad rfl ⟨le_ rfl, le_ rfl⟩ (rcX ok1 cf_X8 ent1) rfl rfl (le_ rfl) ⟨le_ rfl, le_ rfl⟩ dX8_readStatement_98 ?_
              obtain ⟨g6, hf⟩ := gd_e hf
              cases hf
              exact j_iret E (nz_ g6) (le_ rfl) (le_ rfl) dX8_readStatement_101
          · rw [if_neg c5] at hf
            refine j_aload_n E 0 rfl dX8_readStatement_80 ?_
            obtain ⟨r17, X7, h17, hf⟩ := bn2_e hf
            refine j_invV [] [.int r17] E (c_X8_readTank h17) ml_X8_130 mv_X8_readTank rfl ⟨le_ rfl, le_ rfl⟩ (rcX ok1 cf_X8 ent1) rfl rfl (le_ rfl) ⟨le_ rfl, le_ rfl⟩ dX8_readStatement_81 ?_
            obtain ⟨g7, hf⟩ := gd_e hf
            cases hf
            exact j_iret E (nz_ g7) (le_ rfl) (le_ rfl) dX8_readStatement_84
        · rw [if_neg c4] at hf
          refine j_aload_n E 0 rfl dX8_readStatement_63 ?_
          obtain ⟨r18, X8, h18, hf⟩ := bn2_e hf
          refine j_invV [] [.int r18] E (c_X8_readPlot h18) ml_X8_125 mv_X8_readPlot rfl ⟨le_ rfl, le_ rfl⟩ (rcX ok1 cf_X8 ent1) rfl rfl (le_ rfl) ⟨le_ rfl, le_ rfl⟩ dX8_readStatement_64 ?_
          obtain ⟨g8, hf⟩ := gd_e hf
          cases hf
          exact j_iret E (nz_ g8) (le_ rfl) (le_ rfl) dX8_readStatement_67
      · rw [if_neg c3] at hf
        refine j_aload_n E 0 rfl dX8_readStatement_46 ?_
        obtain ⟨r19, X9, h19, hf⟩ := bn2_e hf
        refine j_invV [] [.int r19] E (c_X8_readGrower h19) ml_X8_120 mv_X8_readGrower rfl ⟨le_ rfl, le_ rfl⟩ (rcX ok1 cf_X8 ent1) rfl rfl (le_ rfl) ⟨le_ rfl, le_ rfl⟩ dX8_readStatement_47 ?_
        obtain ⟨g9, hf⟩ := gd_e hf
        cases hf
        exact j_iret E (nz_ g9) (le_ rfl) (le_ rfl) dX8_readStatement_50
    · rw [if_neg c2] at hf
      refine j_aload_n E 0 rfl dX8_readStatement_29 ?_
      obtain ⟨r20, X10, h20, hf⟩ := bn2_e hf
      refine j_invV [] [.int r20] E (c_X8_readPrice h20) ml_X8_115 mv_X8_readPrice rfl ⟨le_ rfl, le_ rfl⟩ (rcX ok1 cf_X8 ent1) rfl rfl (le_ rfl) ⟨le_ rfl, le_ rfl⟩ dX8_readStatement_30 ?_
      obtain ⟨g10, hf⟩ := gd_e hf
      cases hf
      exact j_iret E (nz_ g10) (le_ rfl) (le_ rfl) dX8_readStatement_33
  · rw [if_neg c1] at hf
    refine j_aload_n E 0 rfl dX8_readStatement_12 ?_
    obtain ⟨r21, X11, h21, hf⟩ := bn2_e hf
    refine j_invV [] [.int r21] E (c_X8_readVariety h21) ml_X8_110 mv_X8_readVariety rfl ⟨le_ rfl, le_ rfl⟩ (rcX ok1 cf_X8 ent1) rfl rfl (le_ rfl) ⟨le_ rfl, le_ rfl⟩ dX8_readStatement_13 ?_
    obtain ⟨g11, hf⟩ := gd_e hf
    cases hf
    exact j_iret E (nz_ g11) (le_ rfl) (le_ rfl) dX8_readStatement_16
def f_X8_readAll_46 : Nat → XT → Int32 → Int32 → Option (Int32 × XT)
  | 0, _, _, _ => none
  | n + 1, X, v1, v2 => if 600 ≤ v2 then (bnd (xs X 2 0 0 1 0) (fun X1 => gd (v1 &&& 1 = v1) (some (v1, X1)))) else (if v1 = 0 then (bnd (xs X 2 0 0 1 0) (fun X2 => gd (v1 &&& 1 = v1) (some (v1, X2)))) else (if (X 2 0 0 2) = 0 then (bnd (xs X 2 0 0 1 0) (fun X3 => gd (v1 &&& 1 = v1) (some (v1, X3)))) else (bn2 (f_X8_readStatement X) (fun r1 X4 => f_X8_readAll_46 n X4 r1 (v2 + 1)))))
def f_X8_readAll (X : XT) : Option (Int32 × XT) :=
  bnd (xs X 1 0 0 3 0) (fun X1 => bnd (xs X1 1 0 0 4 (-1)) (fun X2 => bn1 (f_X0_clear X2 0) (fun X3 => bn1 (f_X10_toFirst X3) (fun X4 => bn2 (f_X8_readCooperative X4) (fun r1 X5 => if r1 = 0 then (f_X8_readAll_46 2000 X5 0 0) else (bn2 (f_X8_readClasses X5) (fun r2 X6 => if r2 = 0 then (f_X8_readAll_46 2000 X6 0 0) else (f_X8_readAll_46 2000 X6 1 0))))))))
set_option maxRecDepth 20000 in
theorem b_X8_readAll_46 {p : Program} {l : Launch} {e : Env} {s : State} {m : MethodId} {args : Array Value} {below : List Frame} {meth : Method} {c : Code} {D : DD} {z : Nat} {Y : YT} (E : Cx p s m args meth c D z RX8 cX8_readAll 3 (some .boolean)) {r : Int32} {X' : XT} : ∀ (n : Nat) (X : XT) (v1 : Int32) (v2 : Int32) (hf : f_X8_readAll_46 n X v1 v2 = some (r, X')), J p l e (rmk 7 0 0) s m args below meth c D z (GG D z (X, Y)) 0 0 (MQ below (QC z (some (.int r)) (GG D z (X', Y))) args s (rmk 7 0 0).cells (rmk 7 0 0).slots (Az z)) 3 46 [(0, .ref (z + aX 1 0 0)), (1, .int v1), (2, .int v2)] [] := by
  intro n
  induction n with
  | zero =>
    intro X v1 v2 hf
    exact none_e hf
  | succ n ih =>
    intro X v1 v2 hf
    rw [f_X8_readAll_46] at hf
    refine j_iload_n E 2 rfl dX8_readAll_46 ?_
    refine j_sipush E 600 sp_600 dX8_readAll_47 ?_
    refine j_icmp_ge E 78 (by decide) dX8_readAll_50 (fun c1 => ?_) (fun c1 => ?_)
    · rw [if_pos c1] at hf
      refine j_aload_n E 0 rfl dX8_readAll_78 ?_
      refine j_get (f := 0) E ok1 cf_X8 fl_X8_12 (lt_ rfl) rfl ent1 rfl dX8_readAll_79 ?_
      refine j_iconst E 0 ic_0 dX8_readAll_82 ?_
      obtain ⟨X1, hX1, hf⟩ := bnd_e hf
      refine j_putN (f := 1) E ok2 cf_X10 fl_X8_51 (lt_ rfl) ⟨rfl, rfl⟩ (fit_i _) ent2 pe2_1 (lt_ rfl) hX1 dX8_readAll_83 ?_
      refine j_iload_n E 1 rfl dX8_readAll_86 ?_
      obtain ⟨g1, hf⟩ := gd_e hf
      cases hf
      exact j_iret E (nz_ g1) (le_ rfl) (le_ rfl) dX8_readAll_87
    · rw [if_neg c1] at hf
      refine j_iload_n E 1 rfl dX8_readAll_53 ?_
      refine j_if_eq E 78 (by decide) dX8_readAll_54 (fun c2 => ?_) (fun c2 => ?_)
      · rw [if_pos c2] at hf
        refine j_aload_n E 0 rfl dX8_readAll_78 ?_
        refine j_get (f := 0) E ok1 cf_X8 fl_X8_12 (lt_ rfl) rfl ent1 rfl dX8_readAll_79 ?_
        refine j_iconst E 0 ic_0 dX8_readAll_82 ?_
        obtain ⟨X2, hX2, hf⟩ := bnd_e hf
        refine j_putN (f := 1) E ok2 cf_X10 fl_X8_51 (lt_ rfl) ⟨rfl, rfl⟩ (fit_i _) ent2 pe2_1 (lt_ rfl) hX2 dX8_readAll_83 ?_
        refine j_iload_n E 1 rfl dX8_readAll_86 ?_
        obtain ⟨g2, hf⟩ := gd_e hf
        cases hf
        exact j_iret E (nz_ g2) (le_ rfl) (le_ rfl) dX8_readAll_87
      · rw [if_neg c2] at hf
        refine j_aload_n E 0 rfl dX8_readAll_57 ?_
        refine j_get (f := 0) E ok1 cf_X8 fl_X8_12 (lt_ rfl) rfl ent1 rfl dX8_readAll_58 ?_
        refine j_getN (f := 2) E ok2 cf_X10 fl_X8_45 (lt_ rfl) rfl ent2 rfl dX8_readAll_61 ?_
        refine j_if_eq E 78 (by decide) dX8_readAll_64 (fun c3 => ?_) (fun c3 => ?_)
        · rw [if_pos c3] at hf
          refine j_aload_n E 0 rfl dX8_readAll_78 ?_
          refine j_get (f := 0) E ok1 cf_X8 fl_X8_12 (lt_ rfl) rfl ent1 rfl dX8_readAll_79 ?_
          refine j_iconst E 0 ic_0 dX8_readAll_82 ?_
          obtain ⟨X3, hX3, hf⟩ := bnd_e hf
          refine j_putN (f := 1) E ok2 cf_X10 fl_X8_51 (lt_ rfl) ⟨rfl, rfl⟩ (fit_i _) ent2 pe2_1 (lt_ rfl) hX3 dX8_readAll_83 ?_
          refine j_iload_n E 1 rfl dX8_readAll_86 ?_
          obtain ⟨g3, hf⟩ := gd_e hf
          cases hf
          exact j_iret E (nz_ g3) (le_ rfl) (le_ rfl) dX8_readAll_87
        · rw [if_neg c3] at hf
          refine j_aload_n E 0 rfl dX8_readAll_67 ?_
          obtain ⟨r1, X4, h1, hf⟩ := bn2_e hf
          refine j_invV [] [.int r1] E (c_X8_readStatement h1) ml_X8_48 mv_X8_readStatement rfl ⟨le_ rfl, le_ rfl⟩ (rcX ok1 cf_X8 ent1) rfl rfl (le_ rfl) ⟨le_ rfl, le_ rfl⟩ dX8_readAll_68 ?_
          refine j_istore_n (ls' := [(1, .int r1), (0, .ref (z + aX 1 0 0)), (2, .int v2)]) E (lt_ rfl) rfl dX8_readAll_71 ?_
          refine j_iinc (ls' := [(2, .int (v2 + 1)), (1, .int r1), (0, .ref (z + aX 1 0 0))]) E 2 rfl (lt_ rfl) (v2 + 1) (congrArg (fun q => v2 + q) ic_1) rfl dX8_readAll_72 ?_
          refine j_goto E 46 (by decide) dX8_readAll_75 ?_
          refine j_sub [2, 1, 0] rfl ?_
          exact ih _ _ _ hf
set_option maxRecDepth 20000 in
theorem c_X8_readAll {l : Launch} {D : DD} {z : Nat} {Y : YT} {X : XT} {r : Int32} {X' : XT} (hf : f_X8_readAll X = some (r, X')) : CC l yX8_readAll cX8_readAll 3 (some .boolean) (rmk 7 0 0) D z [.ref (z + aX 1 0 0)] (GG D z (X, Y)) (some (.int r)) (GG D z (X', Y)) := by
  unfold f_X8_readAll at hf
  refine cc_of pn_X8 (le_ rfl) (ls := [(0, .ref (z + aX 1 0 0))]) rfl ?_
  intro p e s m args below meth c E
  refine j_aload_n E 0 rfl dX8_readAll_0 ?_
  refine j_iconst E 0 ic_0 dX8_readAll_1 ?_
  obtain ⟨X1, hX1, hf⟩ := bnd_e hf
  refine j_put (f := 3) E ok1 cf_X8 fl_X8_29 (lt_ rfl) ⟨rfl, rfl⟩ (fit_i _) ent1 pe1_3 (lt_ rfl) hX1 dX8_readAll_2 ?_
  refine j_aload_n E 0 rfl dX8_readAll_5 ?_
  refine j_iconst E (-1) ic_m1 dX8_readAll_6 ?_
  obtain ⟨X2, hX2, hf⟩ := bnd_e hf
  refine j_put (f := 4) E ok1 cf_X8 fl_X8_25 (lt_ rfl) ⟨rfl, rfl⟩ (fit_i _) ent1 pe1_4 (lt_ rfl) hX2 dX8_readAll_7 ?_
  refine j_aload_n E 0 rfl dX8_readAll_10 ?_
  refine j_get (f := 1) E ok1 cf_X8 fl_X8_21 (lt_ rfl) rfl ent1 rfl dX8_readAll_11 ?_
  obtain ⟨X3, h1, hf⟩ := bn1_e hf
  refine j_invV [] [] E (c_X0_clear jl0 h1) ml_X8_32 mv_X0_clear rfl ⟨le_ rfl, le_ rfl⟩ (rcX (okb10 jl0) cf_X0 ent10) rfl rfl (le_ rfl) ⟨le_ rfl, le_ rfl⟩ dX8_readAll_14 ?_
  refine j_aload_n E 0 rfl dX8_readAll_17 ?_
  refine j_get (f := 0) E ok1 cf_X8 fl_X8_12 (lt_ rfl) rfl ent1 rfl dX8_readAll_18 ?_
  obtain ⟨X4, h2, hf⟩ := bn1_e hf
  refine j_invV [] [] E (c_X10_toFirst h2) ml_X8_35 mv_X10_toFirst rfl ⟨le_ rfl, le_ rfl⟩ (rcX ok2 cf_X10 ent2) rfl rfl (le_ rfl) ⟨le_ rfl, le_ rfl⟩ dX8_readAll_21 ?_
  refine j_aload_n E 0 rfl dX8_readAll_24 ?_
  obtain ⟨r1, X5, h3, hf⟩ := bn2_e hf
  refine j_invV [] [.int r1] E (c_X8_readCooperative h3) ml_X8_38 mv_X8_readCooperative rfl ⟨le_ rfl, le_ rfl⟩ (rcX ok1 cf_X8 ent1) rfl rfl (le_ rfl) ⟨le_ rfl, le_ rfl⟩ dX8_readAll_25 ?_
  refine j_if_eq E 42 (by decide) dX8_readAll_28 (fun c1 => ?_) (fun c1 => ?_)
  · rw [if_pos c1] at hf
    refine j_iconst E 0 ic_0 dX8_readAll_42 ?_
    refine j_istore_n (ls' := [(1, .int 0), (0, .ref (z + aX 1 0 0))]) E (lt_ rfl) rfl dX8_readAll_43 ?_
    refine j_iconst E 0 ic_0 dX8_readAll_44 ?_
    refine j_istore_n (ls' := [(2, .int 0), (1, .int 0), (0, .ref (z + aX 1 0 0))]) E (lt_ rfl) rfl dX8_readAll_45 ?_
    refine j_sub [2, 1, 0] rfl ?_
    exact b_X8_readAll_46 E 2000 _ _ _ hf
  · rw [if_neg c1] at hf
    refine j_aload_n E 0 rfl dX8_readAll_31 ?_
    obtain ⟨r2, X6, h4, hf⟩ := bn2_e hf
    refine j_invV [] [.int r2] E (c_X8_readClasses h4) ml_X8_42 mv_X8_readClasses rfl ⟨le_ rfl, le_ rfl⟩ (rcX ok1 cf_X8 ent1) rfl rfl (le_ rfl) ⟨le_ rfl, le_ rfl⟩ dX8_readAll_32 ?_
    refine j_if_eq E 42 (by decide) dX8_readAll_35 (fun c2 => ?_) (fun c2 => ?_)
    · rw [if_pos c2] at hf
      refine j_iconst E 0 ic_0 dX8_readAll_42 ?_
      refine j_istore_n (ls' := [(1, .int 0), (0, .ref (z + aX 1 0 0))]) E (lt_ rfl) rfl dX8_readAll_43 ?_
      refine j_iconst E 0 ic_0 dX8_readAll_44 ?_
      refine j_istore_n (ls' := [(2, .int 0), (1, .int 0), (0, .ref (z + aX 1 0 0))]) E (lt_ rfl) rfl dX8_readAll_45 ?_
      refine j_sub [2, 1, 0] rfl ?_
      exact b_X8_readAll_46 E 2000 _ _ _ hf
    · rw [if_neg c2] at hf
      refine j_iconst E 1 ic_1 dX8_readAll_38 ?_
      refine j_goto E 43 (by decide) dX8_readAll_39 ?_
      refine j_istore_n (ls' := [(1, .int 1), (0, .ref (z + aX 1 0 0))]) E (lt_ rfl) rfl dX8_readAll_43 ?_
      refine j_iconst E 0 ic_0 dX8_readAll_44 ?_
      refine j_istore_n (ls' := [(2, .int 0), (1, .int 1), (0, .ref (z + aX 1 0 0))]) E (lt_ rfl) rfl dX8_readAll_45 ?_
      refine j_sub [2, 1, 0] rfl ?_
      exact b_X8_readAll_46 E 2000 _ _ _ hf
def f_X10_hasRoomFor (X : XT) (v1 : Int32) : Option Int32 :=
  if (600 - (X 2 0 0 1)) < v1 then (some 0) else (some 1)
set_option maxRecDepth 20000 in
theorem c_X10_hasRoomFor {l : Launch} {D : DD} {z : Nat} {Y : YT} {X : XT} {v1 : Int32} {r : Int32} (hf : f_X10_hasRoomFor X v1 = some r) : CC l yX10_hasRoomFor cX10_hasRoomFor 2 (some .boolean) (rmk 1 0 0) D z [.ref (z + aX 2 0 0), .int v1] (GG D z (X, Y)) (some (.int r)) (GG D z (X, Y)) := by
  unfold f_X10_hasRoomFor at hf
  refine cc_of pn_X10 (le_ rfl) (ls := [(0, .ref (z + aX 2 0 0)), (1, .int v1)]) rfl ?_
  intro p e s m args below meth c E
  refine j_iload_n E 1 rfl dX10_hasRoomFor_0 ?_
  refine j_sipush E 600 sp_600 dX10_hasRoomFor_1 ?_
  refine j_aload_n E 0 rfl dX10_hasRoomFor_4 ?_
  refine j_get (f := 1) E ok2 cf_X10 fl_X10_15 (lt_ rfl) rfl ent2 rfl dX10_hasRoomFor_5 ?_
  refine j_isub E dX10_hasRoomFor_8 ?_
  refine j_icmp_gt E 16 (by decide) dX10_hasRoomFor_9 (fun c1 => ?_) (fun c1 => ?_)
  · rw [if_pos c1] at hf
    refine j_iconst E 0 ic_0 dX10_hasRoomFor_16 ?_
    cases hf
    exact j_iret E rfl (le_ rfl) (le_ rfl) dX10_hasRoomFor_17
  · rw [if_neg c1] at hf
    refine j_iconst E 1 ic_1 dX10_hasRoomFor_12 ?_
    refine j_goto E 17 (by decide) dX10_hasRoomFor_13 ?_
    cases hf
    exact j_iret E rfl (le_ rfl) (le_ rfl) dX10_hasRoomFor_17
def f_X10_addByte (X : XT) (v1 : Int32) : Option XT :=
  if 600 ≤ (X 2 0 0 1) then (some X) else (gd (¬ ((X 2 0 0 1) < 0 ∨ 600 ≤ (X 2 0 0 1).toNatClampNeg)) (bnd (xs X 3 0 0 ((X 2 0 0 1).toNatClampNeg) ((v1.toInt8.toInt32)).toInt8.toInt32) (fun X1 => bnd (xs X1 2 0 0 1 ((X1 2 0 0 1) + 1)) (fun X2 => some X2))))
set_option maxRecDepth 20000 in
theorem c_X10_addByte {l : Launch} {D : DD} {z : Nat} {Y : YT} {X : XT} {v1 : Int32} {X' : XT} (hf : f_X10_addByte X v1 = some X') : CC l yX10_addByte cX10_addByte 2 none (rmk 1 0 0) D z [.ref (z + aX 2 0 0), .int v1] (GG D z (X, Y)) none (GG D z (X', Y)) := by
  unfold f_X10_addByte at hf
  refine cc_of pn_X10 (le_ rfl) (ls := [(0, .ref (z + aX 2 0 0)), (1, .int v1)]) rfl ?_
  intro p e s m args below meth c E
  refine j_aload_n E 0 rfl dX10_addByte_0 ?_
  refine j_get (f := 1) E ok2 cf_X10 fl_X10_15 (lt_ rfl) rfl ent2 rfl dX10_addByte_1 ?_
  refine j_sipush E 600 sp_600 dX10_addByte_4 ?_
  refine j_icmp_ge E 31 (by decide) dX10_addByte_7 (fun c1 => ?_) (fun c1 => ?_)
  · rw [if_pos c1] at hf
    cases hf
    exact j_vret E (le_ rfl) (le_ rfl) dX10_addByte_31
  · rw [if_neg c1] at hf
    refine j_aload_n E 0 rfl dX10_addByte_10 ?_
    refine j_get (f := 0) E ok2 cf_X10 fl_X10_9 (lt_ rfl) rfl ent2 rfl dX10_addByte_11 ?_
    refine j_aload_n E 0 rfl dX10_addByte_14 ?_
    refine j_get (f := 1) E ok2 cf_X10 fl_X10_15 (lt_ rfl) rfl ent2 rfl dX10_addByte_15 ?_
    refine j_iload_n E 1 rfl dX10_addByte_18 ?_
    refine j_i2b E dX10_addByte_19 ?_
    obtain ⟨g1, hf⟩ := gd_e hf
    obtain ⟨X1, hX1, hf⟩ := bnd_e hf
    refine j_bast E ok3 (fun _ => ent3) g1 ((X 2 0 0 1).toNatClampNeg) rfl hX1 dX10_addByte_20 ?_
    refine j_aload_n E 0 rfl dX10_addByte_21 ?_
    refine j_dup E rfl dX10_addByte_22 ?_
    refine j_get (f := 1) E ok2 cf_X10 fl_X10_15 (lt_ rfl) rfl ent2 rfl dX10_addByte_23 ?_
    refine j_iconst E 1 ic_1 dX10_addByte_26 ?_
    refine j_iadd E dX10_addByte_27 ?_
    obtain ⟨X2, hX2, hf⟩ := bnd_e hf
    refine j_put (f := 1) E ok2 cf_X10 fl_X10_15 (lt_ rfl) ⟨rfl, rfl⟩ (fit_i _) ent2 pe2_1 (lt_ rfl) hX2 dX10_addByte_28 ?_
    cases hf
    exact j_vret E (le_ rfl) (le_ rfl) dX10_addByte_31
def f_X10_addText_2 (t1 : Nat) : Nat → XT → Int32 → Option XT
  | 0, _, _ => none
  | n + 1, X, v2 => if (slen t1) ≤ v2 then (some X) else (gd (¬ (v2 < 0 ∨ strN.getD t1 0 ≤ v2.toNatClampNeg)) (bn1 (f_X10_addByte X (sch t1 v2.toNatClampNeg)) (fun X1 => f_X10_addText_2 t1 n X1 (v2 + 1))))
def f_X10_addText (X : XT) (t1 : Nat) : Option XT :=
  f_X10_addText_2 t1 2000 X 0
set_option maxRecDepth 20000 in
theorem b_X10_addText_2 {p : Program} {l : Launch} {e : Env} {s : State} {m : MethodId} {args : Array Value} {below : List Frame} {meth : Method} {c : Code} {D : DD} {z : Nat} {Y : YT} {t1 : Nat} (ht1 : t1 < 31) (E : Cx p s m args meth c D z RX10 cX10_addText 3 none) {X' : XT} : ∀ (n : Nat) (X : XT) (v2 : Int32) (hf : f_X10_addText_2 t1 n X v2 = some X'), J p l e (rmk 5 0 0) s m args below meth c D z (GG D z (X, Y)) 0 0 (MQ below (QC z none (GG D z (X', Y))) args s (rmk 5 0 0).cells (rmk 5 0 0).slots (Az z)) 3 2 [(0, .ref (z + aX 2 0 0)), (1, .ref (D.2.2.2.1 t1)), (2, .int v2)] [] := by
  intro n
  induction n with
  | zero =>
    intro X v2 hf
    exact none_e hf
  | succ n ih =>
    intro X v2 hf
    rw [f_X10_addText_2] at hf
    refine j_iload_n E 2 rfl dX10_addText_2 ?_
    refine j_aload_n E 1 rfl dX10_addText_3 ?_
    refine j_invVs [.int v2] [.int (slen t1), .int v2] E ht1 (c_slen (r := slen t1) ht1 rfl) ml_X10_19 mv_J0_length_8abf5 rfl ⟨le_ rfl, le_ rfl⟩ rfl rfl (le_ rfl) ⟨le_ rfl, le_ rfl⟩ dX10_addText_4 ?_
    refine j_icmp_ge E 25 (by decide) dX10_addText_7 (fun c1 => ?_) (fun c1 => ?_)
    · rw [if_pos c1] at hf
      cases hf
      exact j_vret E (le_ rfl) (le_ rfl) dX10_addText_25
    · rw [if_neg c1] at hf
      refine j_aload_n E 0 rfl dX10_addText_10 ?_
      refine j_aload_n E 1 rfl dX10_addText_11 ?_
      refine j_iload_n E 2 rfl dX10_addText_12 ?_
      obtain ⟨g1, hf⟩ := gd_e hf
      refine j_invVs [.ref (z + aX 2 0 0)] [.int (sch t1 v2.toNatClampNeg), .ref (z + aX 2 0 0)] E ht1 (c_schar (i := v2) ht1 g1) ml_X10_24 mv_J0_charAt_5068e rfl ⟨le_ rfl, le_ rfl⟩ rfl rfl (le_ rfl) ⟨le_ rfl, le_ rfl⟩ dX10_addText_13 ?_
      obtain ⟨X1, h1, hf⟩ := bn1_e hf
      refine j_invV [] [] E (c_X10_addByte h1) ml_X10_28 mv_X10_addByte rfl ⟨le_ rfl, le_ rfl⟩ (rcX ok2 cf_X10 ent2) rfl rfl (le_ rfl) ⟨le_ rfl, le_ rfl⟩ dX10_addText_16 ?_
      refine j_iinc (ls' := [(2, .int (v2 + 1)), (0, .ref (z + aX 2 0 0)), (1, .ref (D.2.2.2.1 t1))]) E 2 rfl (lt_ rfl) (v2 + 1) (congrArg (fun q => v2 + q) ic_1) rfl dX10_addText_19 ?_
      refine j_goto E 2 (by decide) dX10_addText_22 ?_
      refine j_sub [1, 2, 0] rfl ?_
      exact ih _ _ hf
set_option maxRecDepth 20000 in
theorem c_X10_addText {l : Launch} {D : DD} {z : Nat} {Y : YT} {X : XT} {t1 : Nat} (ht1 : t1 < 31) {X' : XT} (hf : f_X10_addText X t1 = some X') : CC l yX10_addText cX10_addText 3 none (rmk 5 0 0) D z [.ref (z + aX 2 0 0), .ref (D.2.2.2.1 t1)] (GG D z (X, Y)) none (GG D z (X', Y)) := by
  unfold f_X10_addText at hf
  refine cc_of pn_X10 (le_ rfl) (ls := [(0, .ref (z + aX 2 0 0)), (1, .ref (D.2.2.2.1 t1))]) rfl ?_
  intro p e s m args below meth c E
  refine j_iconst E 0 ic_0 dX10_addText_0 ?_
  refine j_istore_n (ls' := [(2, .int 0), (0, .ref (z + aX 2 0 0)), (1, .ref (D.2.2.2.1 t1))]) E (lt_ rfl) rfl dX10_addText_1 ?_
  refine j_sub [1, 2, 0] rfl ?_
  exact b_X10_addText_2 ht1 E 2000 _ _ hf
def f_X10_addFour (X : XT) (v1 : Int32) : Option XT :=
  bn1 (f_X10_addByte X (v1 >>> (24 &&& 31))) (fun X1 => bn1 (f_X10_addByte X1 (v1 >>> (16 &&& 31))) (fun X2 => bn1 (f_X10_addByte X2 (v1 >>> (8 &&& 31))) (fun X3 => bn1 (f_X10_addByte X3 v1) (fun X4 => some X4))))
set_option maxRecDepth 20000 in
theorem c_X10_addFour {l : Launch} {D : DD} {z : Nat} {Y : YT} {X : XT} {v1 : Int32} {X' : XT} (hf : f_X10_addFour X v1 = some X') : CC l yX10_addFour cX10_addFour 2 none (rmk 2 0 0) D z [.ref (z + aX 2 0 0), .int v1] (GG D z (X, Y)) none (GG D z (X', Y)) := by
  unfold f_X10_addFour at hf
  refine cc_of pn_X10 (le_ rfl) (ls := [(0, .ref (z + aX 2 0 0)), (1, .int v1)]) rfl ?_
  intro p e s m args below meth c E
  refine j_aload_n E 0 rfl dX10_addFour_0 ?_
  refine j_iload_n E 1 rfl dX10_addFour_1 ?_
  refine j_bipush E 24 bp_24 dX10_addFour_2 ?_
  refine j_ishr E dX10_addFour_4 ?_
  obtain ⟨X1, h1, hf⟩ := bn1_e hf
  refine j_invV [] [] E (c_X10_addByte h1) ml_X10_28 mv_X10_addByte rfl ⟨le_ rfl, le_ rfl⟩ (rcX ok2 cf_X10 ent2) rfl rfl (le_ rfl) ⟨le_ rfl, le_ rfl⟩ dX10_addFour_5 ?_
  refine j_aload_n E 0 rfl dX10_addFour_8 ?_
  refine j_iload_n E 1 rfl dX10_addFour_9 ?_
  refine j_bipush E 16 bp_16 dX10_addFour_10 ?_
  refine j_ishr E dX10_addFour_12 ?_
  obtain ⟨X2, h2, hf⟩ := bn1_e hf
  refine j_invV [] [] E (c_X10_addByte h2) ml_X10_28 mv_X10_addByte rfl ⟨le_ rfl, le_ rfl⟩ (rcX ok2 cf_X10 ent2) rfl rfl (le_ rfl) ⟨le_ rfl, le_ rfl⟩ dX10_addFour_13 ?_
  refine j_aload_n E 0 rfl dX10_addFour_16 ?_
  refine j_iload_n E 1 rfl dX10_addFour_17 ?_
  refine j_bipush E 8 bp_8 dX10_addFour_18 ?_
  refine j_ishr E dX10_addFour_20 ?_
  obtain ⟨X3, h3, hf⟩ := bn1_e hf
  refine j_invV [] [] E (c_X10_addByte h3) ml_X10_28 mv_X10_addByte rfl ⟨le_ rfl, le_ rfl⟩ (rcX ok2 cf_X10 ent2) rfl rfl (le_ rfl) ⟨le_ rfl, le_ rfl⟩ dX10_addFour_21 ?_
  refine j_aload_n E 0 rfl dX10_addFour_24 ?_
  refine j_iload_n E 1 rfl dX10_addFour_25 ?_
  obtain ⟨X4, h4, hf⟩ := bn1_e hf
  refine j_invV [] [] E (c_X10_addByte h4) ml_X10_28 mv_X10_addByte rfl ⟨le_ rfl, le_ rfl⟩ (rcX ok2 cf_X10 ent2) rfl rfl (le_ rfl) ⟨le_ rfl, le_ rfl⟩ dX10_addFour_26 ?_
  cases hf
  exact j_vret E (le_ rfl) (le_ rfl) dX10_addFour_29
def f_X11_append (X : XT) (v1 : Int32) (v2 : Int32) (v3 : Int32) (v4 : Int32) (v5 : Int32) : Option (Int32 × XT) :=
  bn1 (f_X10_hasRoomFor X 20) (fun r1 => if r1 = 0 then (none) else (bn1 (f_X10_addFour X v1) (fun X1 => bn1 (f_X10_addFour X1 v2) (fun X2 => bn1 (f_X10_addFour X2 v3) (fun X3 => bn1 (f_X10_addFour X3 v4) (fun X4 => bn1 (f_X10_addFour X4 v5) (fun X5 => some ((X5 2 0 0 1), X5))))))))
set_option maxRecDepth 20000 in
theorem c_X11_append {l : Launch} {D : DD} {z : Nat} {Y : YT} {X : XT} {v1 : Int32} {v2 : Int32} {v3 : Int32} {v4 : Int32} {v5 : Int32} {r : Int32} {X' : XT} (hf : f_X11_append X v1 v2 v3 v4 v5 = some (r, X')) : CC l yX11_append cX11_append 7 (some .int) (rmk 3 0 0) D z [.ref (z + aX 0 0 0), .int v1, .int v2, .int v3, .int v4, .int v5] (GG D z (X, Y)) (some (.int r)) (GG D z (X', Y)) := by
  unfold f_X11_append at hf
  refine cc_of pn_X11 (le_ rfl) (ls := [(0, .ref (z + aX 0 0 0)), (1, .int v1), (2, .int v2), (3, .int v3), (4, .int v4), (5, .int v5)]) rfl ?_
  intro p e s m args below meth c E
  refine j_aload_n E 0 rfl dX11_append_0 ?_
  refine j_get (f := 0) E ok0 cf_X11 fl_X11_10 (lt_ rfl) rfl ent0 rfl dX11_append_1 ?_
  refine j_getN (f := 0) E ok1 cf_X8 fl_X11_45 (lt_ rfl) rfl ent1 rfl dX11_append_4 ?_
  refine j_astore (ls' := [(6, .ref (z + aX 2 0 0)), (0, .ref (z + aX 0 0 0)), (1, .int v1), (2, .int v2), (3, .int v3), (4, .int v4), (5, .int v5)]) E (lt_ rfl) rfl dX11_append_7 ?_
  refine j_aload E 0 rfl dX11_append_9 ?_
  refine j_bipush E 20 bp_20 dX11_append_11 ?_
  obtain ⟨r1, h1, hf⟩ := bn1_e hf
  refine j_invV [] [.int r1] E (c_X10_hasRoomFor h1) ml_X11_78 mv_X10_hasRoomFor rfl ⟨le_ rfl, le_ rfl⟩ (rcX ok2 cf_X10 ent2) rfl rfl (le_ rfl) ⟨le_ rfl, le_ rfl⟩ dX11_append_13 ?_
  refine j_if_ne E 29 (by decide) dX11_append_16 (fun c1 => ?_) (fun c1 => ?_)
  · rw [if_neg c1] at hf
    refine j_aload E 0 rfl dX11_append_29 ?_
    refine j_iload_n E 2 rfl dX11_append_31 ?_
    obtain ⟨X1, h2, hf⟩ := bn1_e hf
    refine j_invV [] [] E (c_X10_addFour h2) ml_X11_88 mv_X10_addFour rfl ⟨le_ rfl, le_ rfl⟩ (rcX ok2 cf_X10 ent2) rfl rfl (le_ rfl) ⟨le_ rfl, le_ rfl⟩ dX11_append_32 ?_
    refine j_aload E 0 rfl dX11_append_35 ?_
    refine j_iload_n E 3 rfl dX11_append_37 ?_
    obtain ⟨X2, h3, hf⟩ := bn1_e hf
    refine j_invV [] [] E (c_X10_addFour h3) ml_X11_88 mv_X10_addFour rfl ⟨le_ rfl, le_ rfl⟩ (rcX ok2 cf_X10 ent2) rfl rfl (le_ rfl) ⟨le_ rfl, le_ rfl⟩ dX11_append_38 ?_
    refine j_aload E 0 rfl dX11_append_41 ?_
    refine j_iload_n E 4 rfl dX11_append_43 ?_
    obtain ⟨X3, h4, hf⟩ := bn1_e hf
    refine j_invV [] [] E (c_X10_addFour h4) ml_X11_88 mv_X10_addFour rfl ⟨le_ rfl, le_ rfl⟩ (rcX ok2 cf_X10 ent2) rfl rfl (le_ rfl) ⟨le_ rfl, le_ rfl⟩ dX11_append_44 ?_
    refine j_aload E 0 rfl dX11_append_47 ?_
    refine j_iload E 5 rfl dX11_append_49 ?_
    obtain ⟨X4, h5, hf⟩ := bn1_e hf
    refine j_invV [] [] E (c_X10_addFour h5) ml_X11_88 mv_X10_addFour rfl ⟨le_ rfl, le_ rfl⟩ (rcX ok2 cf_X10 ent2) rfl rfl (le_ rfl) ⟨le_ rfl, le_ rfl⟩ dX11_append_51 ?_
    refine j_aload E 0 rfl dX11_append_54 ?_
    refine j_iload E 6 rfl dX11_append_56 ?_
    obtain ⟨X5, h6, hf⟩ := bn1_e hf
    refine j_invV [] [] E (c_X10_addFour h6) ml_X11_88 mv_X10_addFour rfl ⟨le_ rfl, le_ rfl⟩ (rcX ok2 cf_X10 ent2) rfl rfl (le_ rfl) ⟨le_ rfl, le_ rfl⟩ dX11_append_58 ?_
    refine j_aload E 0 rfl dX11_append_61 ?_
    refine j_getN (f := 1) E ok2 cf_X10 fl_X11_92 (lt_ rfl) rfl ent2 rfl dX11_append_63 ?_
    cases hf
    exact j_iret E rfl (le_ rfl) (le_ rfl) dX11_append_66
  · rw [if_pos c1] at hf
    exact none_e hf
def f_X11_truncate (X : XT) (v1 : Int32) : Option (Int32 × XT) :=
  if v1 < 0 then (none) else (if v1 ≤ (X 2 0 0 1) then (bnd (xs X 2 0 0 1 v1) (fun X1 => some (v1, X1))) else (none))
set_option maxRecDepth 20000 in
theorem c_X11_truncate {l : Launch} {D : DD} {z : Nat} {Y : YT} {X : XT} {v1 : Int32} {r : Int32} {X' : XT} (hf : f_X11_truncate X v1 = some (r, X')) : CC l yX11_truncate cX11_truncate 2 (some .int) (rmk 1 0 0) D z [.ref (z + aX 0 0 0), .int v1] (GG D z (X, Y)) (some (.int r)) (GG D z (X', Y)) := by
  unfold f_X11_truncate at hf
  refine cc_of pn_X11 (le_ rfl) (ls := [(0, .ref (z + aX 0 0 0)), (1, .int v1)]) rfl ?_
  intro p e s m args below meth c E
  refine j_iload_n E 1 rfl dX11_truncate_0 ?_
  refine j_if_lt E 18 (by decide) dX11_truncate_1 (fun c1 => ?_) (fun c1 => ?_)
  · rw [if_pos c1] at hf
    exact none_e hf
  · rw [if_neg c1] at hf
    refine j_iload_n E 1 rfl dX11_truncate_4 ?_
    refine j_aload_n E 0 rfl dX11_truncate_5 ?_
    refine j_get (f := 0) E ok0 cf_X11 fl_X11_10 (lt_ rfl) rfl ent0 rfl dX11_truncate_6 ?_
    refine j_getN (f := 0) E ok1 cf_X8 fl_X11_45 (lt_ rfl) rfl ent1 rfl dX11_truncate_9 ?_
    refine j_getN (f := 1) E ok2 cf_X10 fl_X11_92 (lt_ rfl) rfl ent2 rfl dX11_truncate_12 ?_
    refine j_icmp_le E 28 (by decide) dX11_truncate_15 (fun c2 => ?_) (fun c2 => ?_)
    · rw [if_pos c2] at hf
      refine j_aload_n E 0 rfl dX11_truncate_28 ?_
      refine j_get (f := 0) E ok0 cf_X11 fl_X11_10 (lt_ rfl) rfl ent0 rfl dX11_truncate_29 ?_
      refine j_getN (f := 0) E ok1 cf_X8 fl_X11_45 (lt_ rfl) rfl ent1 rfl dX11_truncate_32 ?_
      refine j_iload_n E 1 rfl dX11_truncate_35 ?_
      obtain ⟨X1, hX1, hf⟩ := bnd_e hf
      refine j_putN (f := 1) E ok2 cf_X10 fl_X11_92 (lt_ rfl) ⟨rfl, rfl⟩ (fit_i _) ent2 pe2_1 (lt_ rfl) hX1 dX11_truncate_36 ?_
      refine j_iload_n E 1 rfl dX11_truncate_39 ?_
      cases hf
      exact j_iret E rfl (le_ rfl) (le_ rfl) dX11_truncate_40
    · rw [if_neg c2] at hf
      exact none_e hf
def f_X11_load (X : XT) : Option (Int32 × XT) :=
  bn2 (f_X8_readAll X) (fun r1 X1 => if r1 = 0 then (some ((-7), X1)) else (bn1 (f_X4_note X1 1) (fun X2 => bn1 (f_X0_copyFrom X2 1 0) (fun X3 => some ((X3 20 1 0 1), X3)))))
set_option maxRecDepth 20000 in
theorem c_X11_load {l : Launch} {D : DD} {z : Nat} {Y : YT} {X : XT} {r : Int32} {X' : XT} (hf : f_X11_load X = some (r, X')) : CC l yX11_load cX11_load 1 (some .int) (rmk 8 0 0) D z [.ref (z + aX 0 0 0)] (GG D z (X, Y)) (some (.int r)) (GG D z (X', Y)) := by
  unfold f_X11_load at hf
  refine cc_of pn_X11 (le_ rfl) (ls := [(0, .ref (z + aX 0 0 0))]) rfl ?_
  intro p e s m args below meth c E
  refine j_aload_n E 0 rfl dX11_load_0 ?_
  refine j_get (f := 0) E ok0 cf_X11 fl_X11_10 (lt_ rfl) rfl ent0 rfl dX11_load_1 ?_
  obtain ⟨r1, X1, h1, hf⟩ := bn2_e hf
  refine j_invV [] [.int r1] E (c_X8_readAll h1) ml_X11_67 mv_X8_readAll rfl ⟨le_ rfl, le_ rfl⟩ (rcX ok1 cf_X8 ent1) rfl rfl (le_ rfl) ⟨le_ rfl, le_ rfl⟩ dX11_load_4 ?_
  refine j_if_ne E 13 (by decide) dX11_load_7 (fun c1 => ?_) (fun c1 => ?_)
  · rw [if_neg c1] at hf
    refine j_aload_n E 0 rfl dX11_load_13 ?_
    refine j_get (f := 2) E ok0 cf_X11 fl_X11_26 (lt_ rfl) rfl ent0 rfl dX11_load_14 ?_
    refine j_aload_n E 0 rfl dX11_load_17 ?_
    refine j_get (f := 1) E ok0 cf_X11 fl_X11_19 (lt_ rfl) rfl ent0 rfl dX11_load_18 ?_
    obtain ⟨X2, h2, hf⟩ := bn1_e hf
    refine j_invV [] [] E (c_X4_note jl1 h2) ml_X11_101 mv_X4_note rfl ⟨le_ rfl, le_ rfl⟩ (rcX ok4 cf_X4 ent4) rfl rfl (le_ rfl) ⟨le_ rfl, le_ rfl⟩ dX11_load_21 ?_
    refine j_aload_n E 0 rfl dX11_load_24 ?_
    refine j_get (f := 1) E ok0 cf_X11 fl_X11_19 (lt_ rfl) rfl ent0 rfl dX11_load_25 ?_
    refine j_aload_n E 0 rfl dX11_load_28 ?_
    refine j_get (f := 0) E ok0 cf_X11 fl_X11_10 (lt_ rfl) rfl ent0 rfl dX11_load_29 ?_
    refine j_getN (f := 1) E ok1 cf_X8 fl_X11_71 (lt_ rfl) rfl ent1 rfl dX11_load_32 ?_
    obtain ⟨X3, h3, hf⟩ := bn1_e hf
    refine j_invV [] [] E (c_X0_copyFrom jl1 jl0 h3) ml_X11_74 mv_X0_copyFrom rfl ⟨le_ rfl, le_ rfl⟩ (rcX (okb10 jl1) cf_X0 ent10) rfl rfl (le_ rfl) ⟨le_ rfl, le_ rfl⟩ dX11_load_35 ?_
    refine j_aload_n E 0 rfl dX11_load_38 ?_
    refine j_get (f := 1) E ok0 cf_X11 fl_X11_19 (lt_ rfl) rfl ent0 rfl dX11_load_39 ?_
    refine j_getN (f := 2) E (okb10 jl1) cf_X0 fl_X11_104 (lt_ rfl) rfl ent10 rfl dX11_load_42 ?_
    refine j_getN (f := 1) E (okb20 jl1) cf_X3 fl_X11_108 (lt_ rfl) rfl ent20 rfl dX11_load_45 ?_
    cases hf
    exact j_iret E rfl (le_ rfl) (le_ rfl) dX11_load_48
  · rw [if_pos c1] at hf
    refine j_bipush E (-7) bp_m7 dX11_load_10 ?_
    cases hf
    exact j_iret E rfl (le_ rfl) (le_ rfl) dX11_load_12
def f_X11_errorCode (X : XT) : Option Int32 :=
  some (X 1 0 0 3)
set_option maxRecDepth 20000 in
theorem c_X11_errorCode {l : Launch} {D : DD} {z : Nat} {Y : YT} {X : XT} {r : Int32} (hf : f_X11_errorCode X = some r) : CC l yX11_errorCode cX11_errorCode 1 (some .int) (rmk 1 0 0) D z [.ref (z + aX 0 0 0)] (GG D z (X, Y)) (some (.int r)) (GG D z (X, Y)) := by
  unfold f_X11_errorCode at hf
  refine cc_of pn_X11 (le_ rfl) (ls := [(0, .ref (z + aX 0 0 0))]) rfl ?_
  intro p e s m args below meth c E
  refine j_aload_n E 0 rfl dX11_errorCode_0 ?_
  refine j_get (f := 0) E ok0 cf_X11 fl_X11_10 (lt_ rfl) rfl ent0 rfl dX11_errorCode_1 ?_
  refine j_getN (f := 3) E ok1 cf_X8 fl_X11_113 (lt_ rfl) rfl ent1 rfl dX11_errorCode_4 ?_
  cases hf
  exact j_iret E rfl (le_ rfl) (le_ rfl) dX11_errorCode_7
def f_X11_errorOffset (X : XT) : Option Int32 :=
  some (X 1 0 0 4)
set_option maxRecDepth 20000 in
theorem c_X11_errorOffset {l : Launch} {D : DD} {z : Nat} {Y : YT} {X : XT} {r : Int32} (hf : f_X11_errorOffset X = some r) : CC l yX11_errorOffset cX11_errorOffset 1 (some .int) (rmk 1 0 0) D z [.ref (z + aX 0 0 0)] (GG D z (X, Y)) (some (.int r)) (GG D z (X, Y)) := by
  unfold f_X11_errorOffset at hf
  refine cc_of pn_X11 (le_ rfl) (ls := [(0, .ref (z + aX 0 0 0))]) rfl ?_
  intro p e s m args below meth c E
  refine j_aload_n E 0 rfl dX11_errorOffset_0 ?_
  refine j_get (f := 0) E ok0 cf_X11 fl_X11_10 (lt_ rfl) rfl ent0 rfl dX11_errorOffset_1 ?_
  refine j_getN (f := 4) E ok1 cf_X8 fl_X11_116 (lt_ rfl) rfl ent1 rfl dX11_errorOffset_4 ?_
  cases hf
  exact j_iret E rfl (le_ rfl) (le_ rfl) dX11_errorOffset_7
def f_X11_varietyCount (X : XT) : Option Int32 :=
  some (X 11 1 0 4)
set_option maxRecDepth 20000 in
theorem c_X11_varietyCount {l : Launch} {D : DD} {z : Nat} {Y : YT} {X : XT} {r : Int32} (hf : f_X11_varietyCount X = some r) : CC l yX11_varietyCount cX11_varietyCount 1 (some .int) (rmk 1 0 0) D z [.ref (z + aX 0 0 0)] (GG D z (X, Y)) (some (.int r)) (GG D z (X, Y)) := by
  unfold f_X11_varietyCount at hf
  refine cc_of pn_X11 (le_ rfl) (ls := [(0, .ref (z + aX 0 0 0))]) rfl ?_
  intro p e s m args below meth c E
  refine j_aload_n E 0 rfl dX11_varietyCount_0 ?_
  refine j_get (f := 1) E ok0 cf_X11 fl_X11_19 (lt_ rfl) rfl ent0 rfl dX11_varietyCount_1 ?_
  refine j_getN (f := 0) E (okb10 jl1) cf_X0 fl_X11_119 (lt_ rfl) rfl ent10 rfl dX11_varietyCount_4 ?_
  refine j_getN (f := 4) E (okb11 jl1) cf_X1 fl_X11_123 (lt_ rfl) rfl ent11 rfl dX11_varietyCount_7 ?_
  cases hf
  exact j_iret E rfl (le_ rfl) (le_ rfl) dX11_varietyCount_10
def f_X11_classCount (X : XT) : Option Int32 :=
  some (X 11 1 0 3)
set_option maxRecDepth 20000 in
theorem c_X11_classCount {l : Launch} {D : DD} {z : Nat} {Y : YT} {X : XT} {r : Int32} (hf : f_X11_classCount X = some r) : CC l yX11_classCount cX11_classCount 1 (some .int) (rmk 1 0 0) D z [.ref (z + aX 0 0 0)] (GG D z (X, Y)) (some (.int r)) (GG D z (X, Y)) := by
  unfold f_X11_classCount at hf
  refine cc_of pn_X11 (le_ rfl) (ls := [(0, .ref (z + aX 0 0 0))]) rfl ?_
  intro p e s m args below meth c E
  refine j_aload_n E 0 rfl dX11_classCount_0 ?_
  refine j_get (f := 1) E ok0 cf_X11 fl_X11_19 (lt_ rfl) rfl ent0 rfl dX11_classCount_1 ?_
  refine j_getN (f := 0) E (okb10 jl1) cf_X0 fl_X11_119 (lt_ rfl) rfl ent10 rfl dX11_classCount_4 ?_
  refine j_getN (f := 3) E (okb11 jl1) cf_X1 fl_X11_128 (lt_ rfl) rfl ent11 rfl dX11_classCount_7 ?_
  cases hf
  exact j_iret E rfl (le_ rfl) (le_ rfl) dX11_classCount_10
def f_X11_growerCount (X : XT) : Option Int32 :=
  some (X 15 1 0 4)
set_option maxRecDepth 20000 in
theorem c_X11_growerCount {l : Launch} {D : DD} {z : Nat} {Y : YT} {X : XT} {r : Int32} (hf : f_X11_growerCount X = some r) : CC l yX11_growerCount cX11_growerCount 1 (some .int) (rmk 1 0 0) D z [.ref (z + aX 0 0 0)] (GG D z (X, Y)) (some (.int r)) (GG D z (X, Y)) := by
  unfold f_X11_growerCount at hf
  refine cc_of pn_X11 (le_ rfl) (ls := [(0, .ref (z + aX 0 0 0))]) rfl ?_
  intro p e s m args below meth c E
  refine j_aload_n E 0 rfl dX11_growerCount_0 ?_
  refine j_get (f := 1) E ok0 cf_X11 fl_X11_19 (lt_ rfl) rfl ent0 rfl dX11_growerCount_1 ?_
  refine j_getN (f := 1) E (okb10 jl1) cf_X0 fl_X11_131 (lt_ rfl) rfl ent10 rfl dX11_growerCount_4 ?_
  refine j_getN (f := 4) E (okb15 jl1) cf_X5 fl_X11_135 (lt_ rfl) rfl ent15 rfl dX11_growerCount_7 ?_
  cases hf
  exact j_iret E rfl (le_ rfl) (le_ rfl) dX11_growerCount_10
def f_X11_plotCount (X : XT) : Option Int32 :=
  some (X 15 1 0 5)
set_option maxRecDepth 20000 in
theorem c_X11_plotCount {l : Launch} {D : DD} {z : Nat} {Y : YT} {X : XT} {r : Int32} (hf : f_X11_plotCount X = some r) : CC l yX11_plotCount cX11_plotCount 1 (some .int) (rmk 1 0 0) D z [.ref (z + aX 0 0 0)] (GG D z (X, Y)) (some (.int r)) (GG D z (X, Y)) := by
  unfold f_X11_plotCount at hf
  refine cc_of pn_X11 (le_ rfl) (ls := [(0, .ref (z + aX 0 0 0))]) rfl ?_
  intro p e s m args below meth c E
  refine j_aload_n E 0 rfl dX11_plotCount_0 ?_
  refine j_get (f := 1) E ok0 cf_X11 fl_X11_19 (lt_ rfl) rfl ent0 rfl dX11_plotCount_1 ?_
  refine j_getN (f := 1) E (okb10 jl1) cf_X0 fl_X11_131 (lt_ rfl) rfl ent10 rfl dX11_plotCount_4 ?_
  refine j_getN (f := 5) E (okb15 jl1) cf_X5 fl_X11_140 (lt_ rfl) rfl ent15 rfl dX11_plotCount_7 ?_
  cases hf
  exact j_iret E rfl (le_ rfl) (le_ rfl) dX11_plotCount_10
def f_X11_loadCount (X : XT) : Option Int32 :=
  some (X 20 1 0 1)
set_option maxRecDepth 20000 in
theorem c_X11_loadCount {l : Launch} {D : DD} {z : Nat} {Y : YT} {X : XT} {r : Int32} (hf : f_X11_loadCount X = some r) : CC l yX11_loadCount cX11_loadCount 1 (some .int) (rmk 1 0 0) D z [.ref (z + aX 0 0 0)] (GG D z (X, Y)) (some (.int r)) (GG D z (X, Y)) := by
  unfold f_X11_loadCount at hf
  refine cc_of pn_X11 (le_ rfl) (ls := [(0, .ref (z + aX 0 0 0))]) rfl ?_
  intro p e s m args below meth c E
  refine j_aload_n E 0 rfl dX11_loadCount_0 ?_
  refine j_get (f := 1) E ok0 cf_X11 fl_X11_19 (lt_ rfl) rfl ent0 rfl dX11_loadCount_1 ?_
  refine j_getN (f := 2) E (okb10 jl1) cf_X0 fl_X11_104 (lt_ rfl) rfl ent10 rfl dX11_loadCount_4 ?_
  refine j_getN (f := 1) E (okb20 jl1) cf_X3 fl_X11_108 (lt_ rfl) rfl ent20 rfl dX11_loadCount_7 ?_
  cases hf
  exact j_iret E rfl (le_ rfl) (le_ rfl) dX11_loadCount_10
def f_X11_lotCount (X : XT) : Option Int32 :=
  some (X 23 1 0 3)
set_option maxRecDepth 20000 in
theorem c_X11_lotCount {l : Launch} {D : DD} {z : Nat} {Y : YT} {X : XT} {r : Int32} (hf : f_X11_lotCount X = some r) : CC l yX11_lotCount cX11_lotCount 1 (some .int) (rmk 1 0 0) D z [.ref (z + aX 0 0 0)] (GG D z (X, Y)) (some (.int r)) (GG D z (X, Y)) := by
  unfold f_X11_lotCount at hf
  refine cc_of pn_X11 (le_ rfl) (ls := [(0, .ref (z + aX 0 0 0))]) rfl ?_
  intro p e s m args below meth c E
  refine j_aload_n E 0 rfl dX11_lotCount_0 ?_
  refine j_get (f := 1) E ok0 cf_X11 fl_X11_19 (lt_ rfl) rfl ent0 rfl dX11_lotCount_1 ?_
  refine j_getN (f := 3) E (okb10 jl1) cf_X0 fl_X11_143 (lt_ rfl) rfl ent10 rfl dX11_lotCount_4 ?_
  refine j_getN (f := 3) E (okb23 jl1) cf_X2 fl_X11_147 (lt_ rfl) rfl ent23 rfl dX11_lotCount_7 ?_
  cases hf
  exact j_iret E rfl (le_ rfl) (le_ rfl) dX11_lotCount_10
def f_X11_needSugar (v0 : Int32) : Option Unit :=
  if v0 < 0 then (none) else (if v0 ≤ 250 then (some ()) else (none))
set_option maxRecDepth 20000 in
theorem c_X11_needSugar {l : Launch} {D : DD} {z : Nat} {P0 : Heap → Prop} {v0 : Int32} (hf : f_X11_needSugar v0 = some ()) : CC l yX11_needSugar cX11_needSugar 1 none (rmk 1 0 0) D z [.int v0] P0 none P0 := by
  unfold f_X11_needSugar at hf
  refine cc_of pn_X11 (le_ rfl) (ls := [(0, .int v0)]) rfl ?_
  intro p e s m args below meth c E
  refine j_iload_n E 0 rfl dX11_needSugar_0 ?_
  refine j_if_lt E 11 (by decide) dX11_needSugar_1 (fun c1 => ?_) (fun c1 => ?_)
  · rw [if_pos c1] at hf
    exact none_e hf
  · rw [if_neg c1] at hf
    refine j_iload_n E 0 rfl dX11_needSugar_4 ?_
    refine j_sipush E 250 sp_250 dX11_needSugar_5 ?_
    refine j_icmp_le E 22 (by decide) dX11_needSugar_8 (fun c2 => ?_) (fun c2 => ?_)
    · rw [if_pos c2] at hf
      exact j_vret E (le_ rfl) (le_ rfl) dX11_needSugar_22
    · rw [if_neg c2] at hf
      exact none_e hf
def f_X11_classBySugar (X : XT) (v1 : Int32) : Option Int32 :=
  bn1 (f_X11_needSugar v1) (fun _ => bn1 (f_X1_gradeOfSugar X 1 v1) (fun r1 => some r1))
set_option maxRecDepth 20000 in
theorem c_X11_classBySugar {l : Launch} {D : DD} {z : Nat} {Y : YT} {X : XT} {v1 : Int32} {r : Int32} (hf : f_X11_classBySugar X v1 = some r) : CC l yX11_classBySugar cX11_classBySugar 2 (some .int) (rmk 2 0 0) D z [.ref (z + aX 0 0 0), .int v1] (GG D z (X, Y)) (some (.int r)) (GG D z (X, Y)) := by
  unfold f_X11_classBySugar at hf
  refine cc_of pn_X11 (le_ rfl) (ls := [(0, .ref (z + aX 0 0 0)), (1, .int v1)]) rfl ?_
  intro p e s m args below meth c E
  refine j_iload_n E 1 rfl dX11_classBySugar_0 ?_
  obtain ⟨_, h1, hf⟩ := bn1_e hf
  refine j_invS [] [] E (c_X11_needSugar h1) ml_X11_152 ms_X11_needSugar rfl ⟨le_ rfl, le_ rfl⟩ rfl rfl (le_ rfl) ⟨le_ rfl, le_ rfl⟩ dX11_classBySugar_1 ?_
  refine j_aload_n E 0 rfl dX11_classBySugar_4 ?_
  refine j_get (f := 1) E ok0 cf_X11 fl_X11_19 (lt_ rfl) rfl ent0 rfl dX11_classBySugar_5 ?_
  refine j_getN (f := 0) E (okb10 jl1) cf_X0 fl_X11_119 (lt_ rfl) rfl ent10 rfl dX11_classBySugar_8 ?_
  refine j_iload_n E 1 rfl dX11_classBySugar_11 ?_
  obtain ⟨r1, h2, hf⟩ := bn1_e hf
  refine j_invV [] [.int r1] E (c_X1_gradeOfSugar jl1 h2) ml_X11_155 mv_X1_gradeOfSugar rfl ⟨le_ rfl, le_ rfl⟩ (rcX (okb11 jl1) cf_X1 ent11) rfl rfl (le_ rfl) ⟨le_ rfl, le_ rfl⟩ dX11_classBySugar_12 ?_
  cases hf
  exact j_iret E rfl (le_ rfl) (le_ rfl) dX11_classBySugar_15
def f_X11_needVariety (X : XT) (v1 : Int32) : Option Unit :=
  bn1 (f_X1_hasVariety X 1 v1) (fun r1 => if r1 = 0 then (none) else (some ()))
set_option maxRecDepth 20000 in
theorem c_X11_needVariety {l : Launch} {D : DD} {z : Nat} {Y : YT} {X : XT} {v1 : Int32} (hf : f_X11_needVariety X v1 = some ()) : CC l yX11_needVariety cX11_needVariety 2 none (rmk 2 0 0) D z [.ref (z + aX 0 0 0), .int v1] (GG D z (X, Y)) none (GG D z (X, Y)) := by
  unfold f_X11_needVariety at hf
  refine cc_of pn_X11 (le_ rfl) (ls := [(0, .ref (z + aX 0 0 0)), (1, .int v1)]) rfl ?_
  intro p e s m args below meth c E
  refine j_aload_n E 0 rfl dX11_needVariety_0 ?_
  refine j_get (f := 1) E ok0 cf_X11 fl_X11_19 (lt_ rfl) rfl ent0 rfl dX11_needVariety_1 ?_
  refine j_getN (f := 0) E (okb10 jl1) cf_X0 fl_X11_119 (lt_ rfl) rfl ent10 rfl dX11_needVariety_4 ?_
  refine j_iload_n E 1 rfl dX11_needVariety_7 ?_
  obtain ⟨r1, h1, hf⟩ := bn1_e hf
  refine j_invV [] [.int r1] E (c_X1_hasVariety jl1 h1) ml_X11_456 mv_X1_hasVariety rfl ⟨le_ rfl, le_ rfl⟩ (rcX (okb11 jl1) cf_X1 ent11) rfl rfl (le_ rfl) ⟨le_ rfl, le_ rfl⟩ dX11_needVariety_8 ?_
  refine j_if_ne E 25 (by decide) dX11_needVariety_11 (fun c1 => ?_) (fun c1 => ?_)
  · rw [if_neg c1] at hf
    exact j_vret E (le_ rfl) (le_ rfl) dX11_needVariety_25
  · rw [if_pos c1] at hf
    exact none_e hf
def f_X11_needClass (X : XT) (v1 : Int32) : Option Unit :=
  bn1 (f_X1_hasGrade X 1 v1) (fun r1 => if r1 = 0 then (none) else (some ()))
set_option maxRecDepth 20000 in
theorem c_X11_needClass {l : Launch} {D : DD} {z : Nat} {Y : YT} {X : XT} {v1 : Int32} (hf : f_X11_needClass X v1 = some ()) : CC l yX11_needClass cX11_needClass 2 none (rmk 2 0 0) D z [.ref (z + aX 0 0 0), .int v1] (GG D z (X, Y)) none (GG D z (X, Y)) := by
  unfold f_X11_needClass at hf
  refine cc_of pn_X11 (le_ rfl) (ls := [(0, .ref (z + aX 0 0 0)), (1, .int v1)]) rfl ?_
  intro p e s m args below meth c E
  refine j_aload_n E 0 rfl dX11_needClass_0 ?_
  refine j_get (f := 1) E ok0 cf_X11 fl_X11_19 (lt_ rfl) rfl ent0 rfl dX11_needClass_1 ?_
  refine j_getN (f := 0) E (okb10 jl1) cf_X0 fl_X11_119 (lt_ rfl) rfl ent10 rfl dX11_needClass_4 ?_
  refine j_iload_n E 1 rfl dX11_needClass_7 ?_
  obtain ⟨r1, h1, hf⟩ := bn1_e hf
  refine j_invV [] [.int r1] E (c_X1_hasGrade jl1 h1) ml_X11_461 mv_X1_hasGrade rfl ⟨le_ rfl, le_ rfl⟩ (rcX (okb11 jl1) cf_X1 ent11) rfl rfl (le_ rfl) ⟨le_ rfl, le_ rfl⟩ dX11_needClass_8 ?_
  refine j_if_ne E 25 (by decide) dX11_needClass_11 (fun c1 => ?_) (fun c1 => ?_)
  · rw [if_neg c1] at hf
    exact j_vret E (le_ rfl) (le_ rfl) dX11_needClass_25
  · rw [if_pos c1] at hf
    exact none_e hf
def f_X11_price (X : XT) (v1 : Int32) (v2 : Int32) : Option Int32 :=
  bn1 (f_X11_needVariety X v1) (fun _ => bn1 (f_X11_needClass X v2) (fun _ => bn1 (f_X1_centsFor X 1 v1 v2) (fun r1 => some r1)))
set_option maxRecDepth 20000 in
theorem c_X11_price {l : Launch} {D : DD} {z : Nat} {Y : YT} {X : XT} {v1 : Int32} {v2 : Int32} {r : Int32} (hf : f_X11_price X v1 v2 = some r) : CC l yX11_price cX11_price 3 (some .int) (rmk 3 0 0) D z [.ref (z + aX 0 0 0), .int v1, .int v2] (GG D z (X, Y)) (some (.int r)) (GG D z (X, Y)) := by
  unfold f_X11_price at hf
  refine cc_of pn_X11 (le_ rfl) (ls := [(0, .ref (z + aX 0 0 0)), (1, .int v1), (2, .int v2)]) rfl ?_
  intro p e s m args below meth c E
  refine j_aload_n E 0 rfl dX11_price_0 ?_
  refine j_iload_n E 1 rfl dX11_price_1 ?_
  obtain ⟨_, h1, hf⟩ := bn1_e hf
  refine j_invV [] [] E (c_X11_needVariety h1) ml_X11_159 mv_X11_needVariety rfl ⟨le_ rfl, le_ rfl⟩ (rcX ok0 cf_X11 ent0) rfl rfl (le_ rfl) ⟨le_ rfl, le_ rfl⟩ dX11_price_2 ?_
  refine j_aload_n E 0 rfl dX11_price_5 ?_
  refine j_iload_n E 2 rfl dX11_price_6 ?_
  obtain ⟨_, h2, hf⟩ := bn1_e hf
  refine j_invV [] [] E (c_X11_needClass h2) ml_X11_162 mv_X11_needClass rfl ⟨le_ rfl, le_ rfl⟩ (rcX ok0 cf_X11 ent0) rfl rfl (le_ rfl) ⟨le_ rfl, le_ rfl⟩ dX11_price_7 ?_
  refine j_aload_n E 0 rfl dX11_price_10 ?_
  refine j_get (f := 1) E ok0 cf_X11 fl_X11_19 (lt_ rfl) rfl ent0 rfl dX11_price_11 ?_
  refine j_getN (f := 0) E (okb10 jl1) cf_X0 fl_X11_119 (lt_ rfl) rfl ent10 rfl dX11_price_14 ?_
  refine j_iload_n E 1 rfl dX11_price_17 ?_
  refine j_iload_n E 2 rfl dX11_price_18 ?_
  obtain ⟨r1, h3, hf⟩ := bn1_e hf
  refine j_invV [] [.int r1] E (c_X1_centsFor jl1 h3) ml_X11_165 mv_X1_centsFor rfl ⟨le_ rfl, le_ rfl⟩ (rcX (okb11 jl1) cf_X1 ent11) rfl rfl (le_ rfl) ⟨le_ rfl, le_ rfl⟩ dX11_price_19 ?_
  cases hf
  exact j_iret E rfl (le_ rfl) (le_ rfl) dX11_price_22
def f_X11_weightOfClass (X : XT) (v1 : Int32) (v2 : Int32) : Option Int32 :=
  bn1 (f_X11_needVariety X v1) (fun _ => bn1 (f_X11_needClass X v2) (fun _ => bn1 (f_X3_weightOfPair X 1 v1 v2) (fun r1 => some r1)))
set_option maxRecDepth 20000 in
theorem c_X11_weightOfClass {l : Launch} {D : DD} {z : Nat} {Y : YT} {X : XT} {v1 : Int32} {v2 : Int32} {r : Int32} (hf : f_X11_weightOfClass X v1 v2 = some r) : CC l yX11_weightOfClass cX11_weightOfClass 3 (some .int) (rmk 3 0 0) D z [.ref (z + aX 0 0 0), .int v1, .int v2] (GG D z (X, Y)) (some (.int r)) (GG D z (X, Y)) := by
  unfold f_X11_weightOfClass at hf
  refine cc_of pn_X11 (le_ rfl) (ls := [(0, .ref (z + aX 0 0 0)), (1, .int v1), (2, .int v2)]) rfl ?_
  intro p e s m args below meth c E
  refine j_aload_n E 0 rfl dX11_weightOfClass_0 ?_
  refine j_iload_n E 1 rfl dX11_weightOfClass_1 ?_
  obtain ⟨_, h1, hf⟩ := bn1_e hf
  refine j_invV [] [] E (c_X11_needVariety h1) ml_X11_159 mv_X11_needVariety rfl ⟨le_ rfl, le_ rfl⟩ (rcX ok0 cf_X11 ent0) rfl rfl (le_ rfl) ⟨le_ rfl, le_ rfl⟩ dX11_weightOfClass_2 ?_
  refine j_aload_n E 0 rfl dX11_weightOfClass_5 ?_
  refine j_iload_n E 2 rfl dX11_weightOfClass_6 ?_
  obtain ⟨_, h2, hf⟩ := bn1_e hf
  refine j_invV [] [] E (c_X11_needClass h2) ml_X11_162 mv_X11_needClass rfl ⟨le_ rfl, le_ rfl⟩ (rcX ok0 cf_X11 ent0) rfl rfl (le_ rfl) ⟨le_ rfl, le_ rfl⟩ dX11_weightOfClass_7 ?_
  refine j_aload_n E 0 rfl dX11_weightOfClass_10 ?_
  refine j_get (f := 1) E ok0 cf_X11 fl_X11_19 (lt_ rfl) rfl ent0 rfl dX11_weightOfClass_11 ?_
  refine j_getN (f := 2) E (okb10 jl1) cf_X0 fl_X11_104 (lt_ rfl) rfl ent10 rfl dX11_weightOfClass_14 ?_
  refine j_iload_n E 1 rfl dX11_weightOfClass_17 ?_
  refine j_iload_n E 2 rfl dX11_weightOfClass_18 ?_
  obtain ⟨r1, h3, hf⟩ := bn1_e hf
  refine j_invV [] [.int r1] E (c_X3_weightOfPair jl1 h3) ml_X11_169 mv_X3_weightOfPair rfl ⟨le_ rfl, le_ rfl⟩ (rcX (okb20 jl1) cf_X3 ent20) rfl rfl (le_ rfl) ⟨le_ rfl, le_ rfl⟩ dX11_weightOfClass_19 ?_
  cases hf
  exact j_iret E rfl (le_ rfl) (le_ rfl) dX11_weightOfClass_22
def f_X11_deliveredClasses (X : XT) : Option Int32 :=
  bn1 (f_X3_countPairs X 1) (fun r1 => some r1)
set_option maxRecDepth 20000 in
theorem c_X11_deliveredClasses {l : Launch} {D : DD} {z : Nat} {Y : YT} {X : XT} {r : Int32} (hf : f_X11_deliveredClasses X = some r) : CC l yX11_deliveredClasses cX11_deliveredClasses 1 (some .int) (rmk 4 0 0) D z [.ref (z + aX 0 0 0)] (GG D z (X, Y)) (some (.int r)) (GG D z (X, Y)) := by
  unfold f_X11_deliveredClasses at hf
  refine cc_of pn_X11 (le_ rfl) (ls := [(0, .ref (z + aX 0 0 0))]) rfl ?_
  intro p e s m args below meth c E
  refine j_aload_n E 0 rfl dX11_deliveredClasses_0 ?_
  refine j_get (f := 1) E ok0 cf_X11 fl_X11_19 (lt_ rfl) rfl ent0 rfl dX11_deliveredClasses_1 ?_
  refine j_getN (f := 2) E (okb10 jl1) cf_X0 fl_X11_104 (lt_ rfl) rfl ent10 rfl dX11_deliveredClasses_4 ?_
  obtain ⟨r1, h1, hf⟩ := bn1_e hf
  refine j_invV [] [.int r1] E (c_X3_countPairs jl1 h1) ml_X11_172 mv_X3_countPairs rfl ⟨le_ rfl, le_ rfl⟩ (rcX (okb20 jl1) cf_X3 ent20) rfl rfl (le_ rfl) ⟨le_ rfl, le_ rfl⟩ dX11_deliveredClasses_7 ?_
  cases hf
  exact j_iret E rfl (le_ rfl) (le_ rfl) dX11_deliveredClasses_10
def f_X11_classInOrder (X : XT) (v1 : Int32) : Option Int32 :=
  bn1 (f_X3_pairAtRank X 1 v1) (fun r1 => if r1 = (-1) then (none) else (some r1))
set_option maxRecDepth 20000 in
theorem c_X11_classInOrder {l : Launch} {D : DD} {z : Nat} {Y : YT} {X : XT} {v1 : Int32} {r : Int32} (hf : f_X11_classInOrder X v1 = some r) : CC l yX11_classInOrder cX11_classInOrder 3 (some .int) (rmk 4 0 0) D z [.ref (z + aX 0 0 0), .int v1] (GG D z (X, Y)) (some (.int r)) (GG D z (X, Y)) := by
  unfold f_X11_classInOrder at hf
  refine cc_of pn_X11 (le_ rfl) (ls := [(0, .ref (z + aX 0 0 0)), (1, .int v1)]) rfl ?_
  intro p e s m args below meth c E
  refine j_aload_n E 0 rfl dX11_classInOrder_0 ?_
  refine j_get (f := 1) E ok0 cf_X11 fl_X11_19 (lt_ rfl) rfl ent0 rfl dX11_classInOrder_1 ?_
  refine j_getN (f := 2) E (okb10 jl1) cf_X0 fl_X11_104 (lt_ rfl) rfl ent10 rfl dX11_classInOrder_4 ?_
  refine j_iload_n E 1 rfl dX11_classInOrder_7 ?_
  obtain ⟨r1, h1, hf⟩ := bn1_e hf
  refine j_invV [] [.int r1] E (c_X3_pairAtRank jl1 h1) ml_X11_176 mv_X3_pairAtRank rfl ⟨le_ rfl, le_ rfl⟩ (rcX (okb20 jl1) cf_X3 ent20) rfl rfl (le_ rfl) ⟨le_ rfl, le_ rfl⟩ dX11_classInOrder_8 ?_
  refine j_istore_n (ls' := [(2, .int r1), (0, .ref (z + aX 0 0 0)), (1, .int v1)]) E (lt_ rfl) rfl dX11_classInOrder_11 ?_
  refine j_iload_n E 0 rfl dX11_classInOrder_12 ?_
  refine j_iconst E (-1) ic_m1 dX11_classInOrder_13 ?_
  refine j_icmp_ne E 27 (by decide) dX11_classInOrder_14 (fun c1 => ?_) (fun c1 => ?_)
  · rw [if_neg c1] at hf
    refine j_iload_n E 0 rfl dX11_classInOrder_27 ?_
    cases hf
    exact j_iret E rfl (le_ rfl) (le_ rfl) dX11_classInOrder_28
  · rw [if_pos c1] at hf
    exact none_e hf
def f_X11_greatestClass (X : XT) : Option Int32 :=
  bn1 (f_X3_heaviestPair X 1) (fun r1 => some r1)
set_option maxRecDepth 20000 in
theorem c_X11_greatestClass {l : Launch} {D : DD} {z : Nat} {Y : YT} {X : XT} {r : Int32} (hf : f_X11_greatestClass X = some r) : CC l yX11_greatestClass cX11_greatestClass 1 (some .int) (rmk 4 0 0) D z [.ref (z + aX 0 0 0)] (GG D z (X, Y)) (some (.int r)) (GG D z (X, Y)) := by
  unfold f_X11_greatestClass at hf
  refine cc_of pn_X11 (le_ rfl) (ls := [(0, .ref (z + aX 0 0 0))]) rfl ?_
  intro p e s m args below meth c E
  refine j_aload_n E 0 rfl dX11_greatestClass_0 ?_
  refine j_get (f := 1) E ok0 cf_X11 fl_X11_19 (lt_ rfl) rfl ent0 rfl dX11_greatestClass_1 ?_
  refine j_getN (f := 2) E (okb10 jl1) cf_X0 fl_X11_104 (lt_ rfl) rfl ent10 rfl dX11_greatestClass_4 ?_
  obtain ⟨r1, h1, hf⟩ := bn1_e hf
  refine j_invV [] [.int r1] E (c_X3_heaviestPair jl1 h1) ml_X11_184 mv_X3_heaviestPair rfl ⟨le_ rfl, le_ rfl⟩ (rcX (okb20 jl1) cf_X3 ent20) rfl rfl (le_ rfl) ⟨le_ rfl, le_ rfl⟩ dX11_greatestClass_7 ?_
  cases hf
  exact j_iret E rfl (le_ rfl) (le_ rfl) dX11_greatestClass_10
def f_X11_needGrower (X : XT) (v1 : Int32) : Option Unit :=
  if v1 < 0 then (none) else (if v1 < (X 15 1 0 4) then (some ()) else (none))
set_option maxRecDepth 20000 in
theorem c_X11_needGrower {l : Launch} {D : DD} {z : Nat} {Y : YT} {X : XT} {v1 : Int32} (hf : f_X11_needGrower X v1 = some ()) : CC l yX11_needGrower cX11_needGrower 2 none (rmk 1 0 0) D z [.ref (z + aX 0 0 0), .int v1] (GG D z (X, Y)) none (GG D z (X, Y)) := by
  unfold f_X11_needGrower at hf
  refine cc_of pn_X11 (le_ rfl) (ls := [(0, .ref (z + aX 0 0 0)), (1, .int v1)]) rfl ?_
  intro p e s m args below meth c E
  refine j_iload_n E 1 rfl dX11_needGrower_0 ?_
  refine j_if_lt E 18 (by decide) dX11_needGrower_1 (fun c1 => ?_) (fun c1 => ?_)
  · rw [if_pos c1] at hf
    exact none_e hf
  · rw [if_neg c1] at hf
    refine j_iload_n E 1 rfl dX11_needGrower_4 ?_
    refine j_aload_n E 0 rfl dX11_needGrower_5 ?_
    refine j_get (f := 1) E ok0 cf_X11 fl_X11_19 (lt_ rfl) rfl ent0 rfl dX11_needGrower_6 ?_
    refine j_getN (f := 1) E (okb10 jl1) cf_X0 fl_X11_131 (lt_ rfl) rfl ent10 rfl dX11_needGrower_9 ?_
    refine j_getN (f := 4) E (okb15 jl1) cf_X5 fl_X11_135 (lt_ rfl) rfl ent15 rfl dX11_needGrower_12 ?_
    refine j_icmp_lt E 29 (by decide) dX11_needGrower_15 (fun c2 => ?_) (fun c2 => ?_)
    · rw [if_pos c2] at hf
      exact j_vret E (le_ rfl) (le_ rfl) dX11_needGrower_29
    · rw [if_neg c2] at hf
      exact none_e hf
def f_X11_plotsOf (X : XT) (v1 : Int32) : Option Int32 :=
  bn1 (f_X11_needGrower X v1) (fun _ => bn1 (f_X5_countPlotsOf X 1 v1) (fun r1 => some r1))
set_option maxRecDepth 20000 in
theorem c_X11_plotsOf {l : Launch} {D : DD} {z : Nat} {Y : YT} {X : XT} {v1 : Int32} {r : Int32} (hf : f_X11_plotsOf X v1 = some r) : CC l yX11_plotsOf cX11_plotsOf 2 (some .int) (rmk 2 0 0) D z [.ref (z + aX 0 0 0), .int v1] (GG D z (X, Y)) (some (.int r)) (GG D z (X, Y)) := by
  unfold f_X11_plotsOf at hf
  refine cc_of pn_X11 (le_ rfl) (ls := [(0, .ref (z + aX 0 0 0)), (1, .int v1)]) rfl ?_
  intro p e s m args below meth c E
  refine j_aload_n E 0 rfl dX11_plotsOf_0 ?_
  refine j_iload_n E 1 rfl dX11_plotsOf_1 ?_
  obtain ⟨_, h1, hf⟩ := bn1_e hf
  refine j_invV [] [] E (c_X11_needGrower h1) ml_X11_187 mv_X11_needGrower rfl ⟨le_ rfl, le_ rfl⟩ (rcX ok0 cf_X11 ent0) rfl rfl (le_ rfl) ⟨le_ rfl, le_ rfl⟩ dX11_plotsOf_2 ?_
  refine j_aload_n E 0 rfl dX11_plotsOf_5 ?_
  refine j_get (f := 1) E ok0 cf_X11 fl_X11_19 (lt_ rfl) rfl ent0 rfl dX11_plotsOf_6 ?_
  refine j_getN (f := 1) E (okb10 jl1) cf_X0 fl_X11_131 (lt_ rfl) rfl ent10 rfl dX11_plotsOf_9 ?_
  refine j_iload_n E 1 rfl dX11_plotsOf_12 ?_
  obtain ⟨r1, h2, hf⟩ := bn1_e hf
  refine j_invV [] [.int r1] E (c_X5_countPlotsOf jl1 h2) ml_X11_190 mv_X5_countPlotsOf rfl ⟨le_ rfl, le_ rfl⟩ (rcX (okb15 jl1) cf_X5 ent15) rfl rfl (le_ rfl) ⟨le_ rfl, le_ rfl⟩ dX11_plotsOf_13 ?_
  cases hf
  exact j_iret E rfl (le_ rfl) (le_ rfl) dX11_plotsOf_16
def f_X11_weightOf (X : XT) (v1 : Int32) : Option Int32 :=
  bn1 (f_X11_needGrower X v1) (fun _ => bn1 (f_X3_weightFromGrower X 1 v1) (fun r1 => some r1))
set_option maxRecDepth 20000 in
theorem c_X11_weightOf {l : Launch} {D : DD} {z : Nat} {Y : YT} {X : XT} {v1 : Int32} {r : Int32} (hf : f_X11_weightOf X v1 = some r) : CC l yX11_weightOf cX11_weightOf 2 (some .int) (rmk 2 0 0) D z [.ref (z + aX 0 0 0), .int v1] (GG D z (X, Y)) (some (.int r)) (GG D z (X, Y)) := by
  unfold f_X11_weightOf at hf
  refine cc_of pn_X11 (le_ rfl) (ls := [(0, .ref (z + aX 0 0 0)), (1, .int v1)]) rfl ?_
  intro p e s m args below meth c E
  refine j_aload_n E 0 rfl dX11_weightOf_0 ?_
  refine j_iload_n E 1 rfl dX11_weightOf_1 ?_
  obtain ⟨_, h1, hf⟩ := bn1_e hf
  refine j_invV [] [] E (c_X11_needGrower h1) ml_X11_187 mv_X11_needGrower rfl ⟨le_ rfl, le_ rfl⟩ (rcX ok0 cf_X11 ent0) rfl rfl (le_ rfl) ⟨le_ rfl, le_ rfl⟩ dX11_weightOf_2 ?_
  refine j_aload_n E 0 rfl dX11_weightOf_5 ?_
  refine j_get (f := 1) E ok0 cf_X11 fl_X11_19 (lt_ rfl) rfl ent0 rfl dX11_weightOf_6 ?_
  refine j_getN (f := 2) E (okb10 jl1) cf_X0 fl_X11_104 (lt_ rfl) rfl ent10 rfl dX11_weightOf_9 ?_
  refine j_iload_n E 1 rfl dX11_weightOf_12 ?_
  obtain ⟨r1, h2, hf⟩ := bn1_e hf
  refine j_invV [] [.int r1] E (c_X3_weightFromGrower jl1 h2) ml_X11_193 mv_X3_weightFromGrower rfl ⟨le_ rfl, le_ rfl⟩ (rcX (okb20 jl1) cf_X3 ent20) rfl rfl (le_ rfl) ⟨le_ rfl, le_ rfl⟩ dX11_weightOf_13 ?_
  cases hf
  exact j_iret E rfl (le_ rfl) (le_ rfl) dX11_weightOf_16
def f_X11_owed (X : XT) (v1 : Int32) : Option Int32 :=
  bn1 (f_X11_needGrower X v1) (fun _ => bn1 (f_X0_unpaidTo X 1 v1) (fun r1 => some r1))
set_option maxRecDepth 20000 in
theorem c_X11_owed {l : Launch} {D : DD} {z : Nat} {Y : YT} {X : XT} {v1 : Int32} {r : Int32} (hf : f_X11_owed X v1 = some r) : CC l yX11_owed cX11_owed 2 (some .int) (rmk 3 0 0) D z [.ref (z + aX 0 0 0), .int v1] (GG D z (X, Y)) (some (.int r)) (GG D z (X, Y)) := by
  unfold f_X11_owed at hf
  refine cc_of pn_X11 (le_ rfl) (ls := [(0, .ref (z + aX 0 0 0)), (1, .int v1)]) rfl ?_
  intro p e s m args below meth c E
  refine j_aload_n E 0 rfl dX11_owed_0 ?_
  refine j_iload_n E 1 rfl dX11_owed_1 ?_
  obtain ⟨_, h1, hf⟩ := bn1_e hf
  refine j_invV [] [] E (c_X11_needGrower h1) ml_X11_187 mv_X11_needGrower rfl ⟨le_ rfl, le_ rfl⟩ (rcX ok0 cf_X11 ent0) rfl rfl (le_ rfl) ⟨le_ rfl, le_ rfl⟩ dX11_owed_2 ?_
  refine j_aload_n E 0 rfl dX11_owed_5 ?_
  refine j_get (f := 1) E ok0 cf_X11 fl_X11_19 (lt_ rfl) rfl ent0 rfl dX11_owed_6 ?_
  refine j_iload_n E 1 rfl dX11_owed_9 ?_
  obtain ⟨r1, h2, hf⟩ := bn1_e hf
  refine j_invV [] [.int r1] E (c_X0_unpaidTo jl1 h2) ml_X11_196 mv_X0_unpaidTo rfl ⟨le_ rfl, le_ rfl⟩ (rcX (okb10 jl1) cf_X0 ent10) rfl rfl (le_ rfl) ⟨le_ rfl, le_ rfl⟩ dX11_owed_10 ?_
  cases hf
  exact j_iret E rfl (le_ rfl) (le_ rfl) dX11_owed_13
def f_X11_paidTo (X : XT) (v1 : Int32) : Option Int32 :=
  bn1 (f_X11_needGrower X v1) (fun _ => bn1 (f_X3_paymentsTo X 1 v1) (fun r1 => some r1))
set_option maxRecDepth 20000 in
theorem c_X11_paidTo {l : Launch} {D : DD} {z : Nat} {Y : YT} {X : XT} {v1 : Int32} {r : Int32} (hf : f_X11_paidTo X v1 = some r) : CC l yX11_paidTo cX11_paidTo 2 (some .int) (rmk 2 0 0) D z [.ref (z + aX 0 0 0), .int v1] (GG D z (X, Y)) (some (.int r)) (GG D z (X, Y)) := by
  unfold f_X11_paidTo at hf
  refine cc_of pn_X11 (le_ rfl) (ls := [(0, .ref (z + aX 0 0 0)), (1, .int v1)]) rfl ?_
  intro p e s m args below meth c E
  refine j_aload_n E 0 rfl dX11_paidTo_0 ?_
  refine j_iload_n E 1 rfl dX11_paidTo_1 ?_
  obtain ⟨_, h1, hf⟩ := bn1_e hf
  refine j_invV [] [] E (c_X11_needGrower h1) ml_X11_187 mv_X11_needGrower rfl ⟨le_ rfl, le_ rfl⟩ (rcX ok0 cf_X11 ent0) rfl rfl (le_ rfl) ⟨le_ rfl, le_ rfl⟩ dX11_paidTo_2 ?_
  refine j_aload_n E 0 rfl dX11_paidTo_5 ?_
  refine j_get (f := 1) E ok0 cf_X11 fl_X11_19 (lt_ rfl) rfl ent0 rfl dX11_paidTo_6 ?_
  refine j_getN (f := 2) E (okb10 jl1) cf_X0 fl_X11_104 (lt_ rfl) rfl ent10 rfl dX11_paidTo_9 ?_
  refine j_iload_n E 1 rfl dX11_paidTo_12 ?_
  obtain ⟨r1, h2, hf⟩ := bn1_e hf
  refine j_invV [] [.int r1] E (c_X3_paymentsTo jl1 h2) ml_X11_199 mv_X3_paymentsTo rfl ⟨le_ rfl, le_ rfl⟩ (rcX (okb20 jl1) cf_X3 ent20) rfl rfl (le_ rfl) ⟨le_ rfl, le_ rfl⟩ dX11_paidTo_13 ?_
  cases hf
  exact j_iret E rfl (le_ rfl) (le_ rfl) dX11_paidTo_16
def f_X11_varietiesOf (X : XT) (v1 : Int32) : Option Int32 :=
  bn1 (f_X11_needGrower X v1) (fun _ => bn1 (f_X0_countVarietiesFrom X 1 v1) (fun r1 => some r1))
set_option maxRecDepth 20000 in
theorem c_X11_varietiesOf {l : Launch} {D : DD} {z : Nat} {Y : YT} {X : XT} {v1 : Int32} {r : Int32} (hf : f_X11_varietiesOf X v1 = some r) : CC l yX11_varietiesOf cX11_varietiesOf 2 (some .int) (rmk 3 0 0) D z [.ref (z + aX 0 0 0), .int v1] (GG D z (X, Y)) (some (.int r)) (GG D z (X, Y)) := by
  unfold f_X11_varietiesOf at hf
  refine cc_of pn_X11 (le_ rfl) (ls := [(0, .ref (z + aX 0 0 0)), (1, .int v1)]) rfl ?_
  intro p e s m args below meth c E
  refine j_aload_n E 0 rfl dX11_varietiesOf_0 ?_
  refine j_iload_n E 1 rfl dX11_varietiesOf_1 ?_
  obtain ⟨_, h1, hf⟩ := bn1_e hf
  refine j_invV [] [] E (c_X11_needGrower h1) ml_X11_187 mv_X11_needGrower rfl ⟨le_ rfl, le_ rfl⟩ (rcX ok0 cf_X11 ent0) rfl rfl (le_ rfl) ⟨le_ rfl, le_ rfl⟩ dX11_varietiesOf_2 ?_
  refine j_aload_n E 0 rfl dX11_varietiesOf_5 ?_
  refine j_get (f := 1) E ok0 cf_X11 fl_X11_19 (lt_ rfl) rfl ent0 rfl dX11_varietiesOf_6 ?_
  refine j_iload_n E 1 rfl dX11_varietiesOf_9 ?_
  obtain ⟨r1, h2, hf⟩ := bn1_e hf
  refine j_invV [] [.int r1] E (c_X0_countVarietiesFrom jl1 h2) ml_X11_202 mv_X0_countVarietiesFrom rfl ⟨le_ rfl, le_ rfl⟩ (rcX (okb10 jl1) cf_X0 ent10) rfl rfl (le_ rfl) ⟨le_ rfl, le_ rfl⟩ dX11_varietiesOf_10 ?_
  cases hf
  exact j_iret E rfl (le_ rfl) (le_ rfl) dX11_varietiesOf_13
def f_X11_greatestGrower (X : XT) : Option Int32 :=
  bn1 (f_X0_heaviestGrower X 1) (fun r1 => some r1)
set_option maxRecDepth 20000 in
theorem c_X11_greatestGrower {l : Launch} {D : DD} {z : Nat} {Y : YT} {X : XT} {r : Int32} (hf : f_X11_greatestGrower X = some r) : CC l yX11_greatestGrower cX11_greatestGrower 1 (some .int) (rmk 3 0 0) D z [.ref (z + aX 0 0 0)] (GG D z (X, Y)) (some (.int r)) (GG D z (X, Y)) := by
  unfold f_X11_greatestGrower at hf
  refine cc_of pn_X11 (le_ rfl) (ls := [(0, .ref (z + aX 0 0 0))]) rfl ?_
  intro p e s m args below meth c E
  refine j_aload_n E 0 rfl dX11_greatestGrower_0 ?_
  refine j_get (f := 1) E ok0 cf_X11 fl_X11_19 (lt_ rfl) rfl ent0 rfl dX11_greatestGrower_1 ?_
  obtain ⟨r1, h1, hf⟩ := bn1_e hf
  refine j_invV [] [.int r1] E (c_X0_heaviestGrower jl1 h1) ml_X11_205 mv_X0_heaviestGrower rfl ⟨le_ rfl, le_ rfl⟩ (rcX (okb10 jl1) cf_X0 ent10) rfl rfl (le_ rfl) ⟨le_ rfl, le_ rfl⟩ dX11_greatestGrower_4 ?_
  cases hf
  exact j_iret E rfl (le_ rfl) (le_ rfl) dX11_greatestGrower_7
def f_X11_needPlot (X : XT) (v1 : Int32) : Option Unit :=
  bn1 (f_X5_hasPlot X 1 v1) (fun r1 => if r1 = 0 then (none) else (some ()))
set_option maxRecDepth 20000 in
theorem c_X11_needPlot {l : Launch} {D : DD} {z : Nat} {Y : YT} {X : XT} {v1 : Int32} (hf : f_X11_needPlot X v1 = some ()) : CC l yX11_needPlot cX11_needPlot 2 none (rmk 2 0 0) D z [.ref (z + aX 0 0 0), .int v1] (GG D z (X, Y)) none (GG D z (X, Y)) := by
  unfold f_X11_needPlot at hf
  refine cc_of pn_X11 (le_ rfl) (ls := [(0, .ref (z + aX 0 0 0)), (1, .int v1)]) rfl ?_
  intro p e s m args below meth c E
  refine j_aload_n E 0 rfl dX11_needPlot_0 ?_
  refine j_get (f := 1) E ok0 cf_X11 fl_X11_19 (lt_ rfl) rfl ent0 rfl dX11_needPlot_1 ?_
  refine j_getN (f := 1) E (okb10 jl1) cf_X0 fl_X11_131 (lt_ rfl) rfl ent10 rfl dX11_needPlot_4 ?_
  refine j_iload_n E 1 rfl dX11_needPlot_7 ?_
  obtain ⟨r1, h1, hf⟩ := bn1_e hf
  refine j_invV [] [.int r1] E (c_X5_hasPlot jl1 h1) ml_X11_468 mv_X5_hasPlot rfl ⟨le_ rfl, le_ rfl⟩ (rcX (okb15 jl1) cf_X5 ent15) rfl rfl (le_ rfl) ⟨le_ rfl, le_ rfl⟩ dX11_needPlot_8 ?_
  refine j_if_ne E 25 (by decide) dX11_needPlot_11 (fun c1 => ?_) (fun c1 => ?_)
  · rw [if_neg c1] at hf
    exact j_vret E (le_ rfl) (le_ rfl) dX11_needPlot_25
  · rw [if_pos c1] at hf
    exact none_e hf
def f_X11_yieldLimit (X : XT) (v1 : Int32) : Option Int32 :=
  bn1 (f_X11_needPlot X v1) (fun _ => bn1 (f_X5_limitOf X 1 v1) (fun r1 => some r1))
set_option maxRecDepth 20000 in
theorem c_X11_yieldLimit {l : Launch} {D : DD} {z : Nat} {Y : YT} {X : XT} {v1 : Int32} {r : Int32} (hf : f_X11_yieldLimit X v1 = some r) : CC l yX11_yieldLimit cX11_yieldLimit 2 (some .int) (rmk 3 0 0) D z [.ref (z + aX 0 0 0), .int v1] (GG D z (X, Y)) (some (.int r)) (GG D z (X, Y)) := by
  unfold f_X11_yieldLimit at hf
  refine cc_of pn_X11 (le_ rfl) (ls := [(0, .ref (z + aX 0 0 0)), (1, .int v1)]) rfl ?_
  intro p e s m args below meth c E
  refine j_aload_n E 0 rfl dX11_yieldLimit_0 ?_
  refine j_iload_n E 1 rfl dX11_yieldLimit_1 ?_
  obtain ⟨_, h1, hf⟩ := bn1_e hf
  refine j_invV [] [] E (c_X11_needPlot h1) ml_X11_208 mv_X11_needPlot rfl ⟨le_ rfl, le_ rfl⟩ (rcX ok0 cf_X11 ent0) rfl rfl (le_ rfl) ⟨le_ rfl, le_ rfl⟩ dX11_yieldLimit_2 ?_
  refine j_aload_n E 0 rfl dX11_yieldLimit_5 ?_
  refine j_get (f := 1) E ok0 cf_X11 fl_X11_19 (lt_ rfl) rfl ent0 rfl dX11_yieldLimit_6 ?_
  refine j_getN (f := 1) E (okb10 jl1) cf_X0 fl_X11_131 (lt_ rfl) rfl ent10 rfl dX11_yieldLimit_9 ?_
  refine j_iload_n E 1 rfl dX11_yieldLimit_12 ?_
  obtain ⟨r1, h2, hf⟩ := bn1_e hf
  refine j_invV [] [.int r1] E (c_X5_limitOf jl1 h2) ml_X11_211 mv_X5_limitOf rfl ⟨le_ rfl, le_ rfl⟩ (rcX (okb15 jl1) cf_X5 ent15) rfl rfl (le_ rfl) ⟨le_ rfl, le_ rfl⟩ dX11_yieldLimit_13 ?_
  cases hf
  exact j_iret E rfl (le_ rfl) (le_ rfl) dX11_yieldLimit_16
def f_X11_harvested (X : XT) (v1 : Int32) : Option Int32 :=
  bn1 (f_X11_needPlot X v1) (fun _ => bn1 (f_X3_weightFromPlot X 1 v1) (fun r1 => some r1))
set_option maxRecDepth 20000 in
theorem c_X11_harvested {l : Launch} {D : DD} {z : Nat} {Y : YT} {X : XT} {v1 : Int32} {r : Int32} (hf : f_X11_harvested X v1 = some r) : CC l yX11_harvested cX11_harvested 2 (some .int) (rmk 3 0 0) D z [.ref (z + aX 0 0 0), .int v1] (GG D z (X, Y)) (some (.int r)) (GG D z (X, Y)) := by
  unfold f_X11_harvested at hf
  refine cc_of pn_X11 (le_ rfl) (ls := [(0, .ref (z + aX 0 0 0)), (1, .int v1)]) rfl ?_
  intro p e s m args below meth c E
  refine j_aload_n E 0 rfl dX11_harvested_0 ?_
  refine j_iload_n E 1 rfl dX11_harvested_1 ?_
  obtain ⟨_, h1, hf⟩ := bn1_e hf
  refine j_invV [] [] E (c_X11_needPlot h1) ml_X11_208 mv_X11_needPlot rfl ⟨le_ rfl, le_ rfl⟩ (rcX ok0 cf_X11 ent0) rfl rfl (le_ rfl) ⟨le_ rfl, le_ rfl⟩ dX11_harvested_2 ?_
  refine j_aload_n E 0 rfl dX11_harvested_5 ?_
  refine j_get (f := 1) E ok0 cf_X11 fl_X11_19 (lt_ rfl) rfl ent0 rfl dX11_harvested_6 ?_
  refine j_getN (f := 2) E (okb10 jl1) cf_X0 fl_X11_104 (lt_ rfl) rfl ent10 rfl dX11_harvested_9 ?_
  refine j_iload_n E 1 rfl dX11_harvested_12 ?_
  obtain ⟨r1, h2, hf⟩ := bn1_e hf
  refine j_invV [] [.int r1] E (c_X3_weightFromPlot jl1 h2) ml_X11_214 mv_X3_weightFromPlot rfl ⟨le_ rfl, le_ rfl⟩ (rcX (okb20 jl1) cf_X3 ent20) rfl rfl (le_ rfl) ⟨le_ rfl, le_ rfl⟩ dX11_harvested_13 ?_
  cases hf
  exact j_iret E rfl (le_ rfl) (le_ rfl) dX11_harvested_16
def f_X11_yieldLeft (X : XT) (v1 : Int32) : Option Int32 :=
  bn1 (f_X11_needPlot X v1) (fun _ => bn1 (f_X0_greatestWithinLimit X 1 v1) (fun r1 => some r1))
set_option maxRecDepth 20000 in
theorem c_X11_yieldLeft {l : Launch} {D : DD} {z : Nat} {Y : YT} {X : XT} {v1 : Int32} {r : Int32} (hf : f_X11_yieldLeft X v1 = some r) : CC l yX11_yieldLeft cX11_yieldLeft 2 (some .int) (rmk 3 0 0) D z [.ref (z + aX 0 0 0), .int v1] (GG D z (X, Y)) (some (.int r)) (GG D z (X, Y)) := by
  unfold f_X11_yieldLeft at hf
  refine cc_of pn_X11 (le_ rfl) (ls := [(0, .ref (z + aX 0 0 0)), (1, .int v1)]) rfl ?_
  intro p e s m args below meth c E
  refine j_aload_n E 0 rfl dX11_yieldLeft_0 ?_
  refine j_iload_n E 1 rfl dX11_yieldLeft_1 ?_
  obtain ⟨_, h1, hf⟩ := bn1_e hf
  refine j_invV [] [] E (c_X11_needPlot h1) ml_X11_208 mv_X11_needPlot rfl ⟨le_ rfl, le_ rfl⟩ (rcX ok0 cf_X11 ent0) rfl rfl (le_ rfl) ⟨le_ rfl, le_ rfl⟩ dX11_yieldLeft_2 ?_
  refine j_aload_n E 0 rfl dX11_yieldLeft_5 ?_
  refine j_get (f := 1) E ok0 cf_X11 fl_X11_19 (lt_ rfl) rfl ent0 rfl dX11_yieldLeft_6 ?_
  refine j_iload_n E 1 rfl dX11_yieldLeft_9 ?_
  obtain ⟨r1, h2, hf⟩ := bn1_e hf
  refine j_invV [] [.int r1] E (c_X0_greatestWithinLimit jl1 h2) ml_X11_217 mv_X0_greatestWithinLimit rfl ⟨le_ rfl, le_ rfl⟩ (rcX (okb10 jl1) cf_X0 ent10) rfl rfl (le_ rfl) ⟨le_ rfl, le_ rfl⟩ dX11_yieldLeft_10 ?_
  cases hf
  exact j_iret E rfl (le_ rfl) (le_ rfl) dX11_yieldLeft_13
def f_X11_knownLoad (X : XT) (v1 : Int32) : Option Nat :=
  if v1 < 0 then (none) else (if v1 < (X 20 1 0 1) then (gd (¬ (v1 < 0 ∨ 20 ≤ v1.toNatClampNeg)) (some v1.toNatClampNeg)) else (none))
set_option maxRecDepth 20000 in
theorem c_X11_knownLoad {l : Launch} {D : DD} {z : Nat} {Y : YT} {X : XT} {v1 : Int32} {r : Nat} (hf : f_X11_knownLoad X v1 = some r) : CC l yX11_knownLoad cX11_knownLoad 2 (some (.object "WineCooperative$Load")) (rmk 1 0 0) D z [.ref (z + aX 0 0 0), .int v1] (GG D z (X, Y)) (some (.ref (z + aX 22 1 r))) (GG D z (X, Y)) := by
  unfold f_X11_knownLoad at hf
  refine cc_of pn_X11 (le_ rfl) (ls := [(0, .ref (z + aX 0 0 0)), (1, .int v1)]) rfl ?_
  intro p e s m args below meth c E
  refine j_iload_n E 1 rfl dX11_knownLoad_0 ?_
  refine j_if_lt E 18 (by decide) dX11_knownLoad_1 (fun c1 => ?_) (fun c1 => ?_)
  · rw [if_pos c1] at hf
    exact none_e hf
  · rw [if_neg c1] at hf
    refine j_iload_n E 1 rfl dX11_knownLoad_4 ?_
    refine j_aload_n E 0 rfl dX11_knownLoad_5 ?_
    refine j_get (f := 1) E ok0 cf_X11 fl_X11_19 (lt_ rfl) rfl ent0 rfl dX11_knownLoad_6 ?_
    refine j_getN (f := 2) E (okb10 jl1) cf_X0 fl_X11_104 (lt_ rfl) rfl ent10 rfl dX11_knownLoad_9 ?_
    refine j_getN (f := 1) E (okb20 jl1) cf_X3 fl_X11_108 (lt_ rfl) rfl ent20 rfl dX11_knownLoad_12 ?_
    refine j_icmp_lt E 29 (by decide) dX11_knownLoad_15 (fun c2 => ?_) (fun c2 => ?_)
    · rw [if_pos c2] at hf
      refine j_aload_n E 0 rfl dX11_knownLoad_29 ?_
      refine j_get (f := 1) E ok0 cf_X11 fl_X11_19 (lt_ rfl) rfl ent0 rfl dX11_knownLoad_30 ?_
      refine j_getN (f := 2) E (okb10 jl1) cf_X0 fl_X11_104 (lt_ rfl) rfl ent10 rfl dX11_knownLoad_33 ?_
      refine j_getN (f := 0) E (okb20 jl1) cf_X3 fl_X11_444 (lt_ rfl) rfl ent20 rfl dX11_knownLoad_36 ?_
      refine j_iload_n E 1 rfl dX11_knownLoad_39 ?_
      obtain ⟨g1, hf⟩ := gd_e hf
      refine j_aald (t := 4) E (okb21 jl1) ent21 rfl g1 dX11_knownLoad_40 ?_
      cases hf
      exact j_aret E (le_ rfl) (le_ rfl) dX11_knownLoad_41
    · rw [if_neg c2] at hf
      exact none_e hf
def f_X11_plotOfLoad (X : XT) (v1 : Int32) : Option Int32 :=
  bn1 (f_X11_knownLoad X v1) (fun r1 => gd (r1 < 20) (some (X 22 1 r1 0)))
set_option maxRecDepth 20000 in
theorem c_X11_plotOfLoad {l : Launch} {D : DD} {z : Nat} {Y : YT} {X : XT} {v1 : Int32} {r : Int32} (hf : f_X11_plotOfLoad X v1 = some r) : CC l yX11_plotOfLoad cX11_plotOfLoad 2 (some .int) (rmk 2 0 0) D z [.ref (z + aX 0 0 0), .int v1] (GG D z (X, Y)) (some (.int r)) (GG D z (X, Y)) := by
  unfold f_X11_plotOfLoad at hf
  refine cc_of pn_X11 (le_ rfl) (ls := [(0, .ref (z + aX 0 0 0)), (1, .int v1)]) rfl ?_
  intro p e s m args below meth c E
  refine j_aload_n E 0 rfl dX11_plotOfLoad_0 ?_
  refine j_iload_n E 1 rfl dX11_plotOfLoad_1 ?_
  obtain ⟨r1, h1, hf⟩ := bn1_e hf
  obtain ⟨g1, hf⟩ := gd_e hf
  refine j_invV [] [.ref (z + aX 22 1 r1)] E (c_X11_knownLoad h1) ml_X11_220 mv_X11_knownLoad rfl ⟨le_ rfl, le_ rfl⟩ (rcX ok0 cf_X11 ent0) rfl rfl (le_ rfl) ⟨le_ rfl, le_ rfl⟩ dX11_plotOfLoad_2 ?_
  refine j_getN (f := 0) E (okb22 jl1 g1) cf_X6 fl_X11_224 (lt_ rfl) rfl ent22 rfl dX11_plotOfLoad_5 ?_
  cases hf
  exact j_iret E rfl (le_ rfl) (le_ rfl) dX11_plotOfLoad_8
def f_X11_classOfLoad (X : XT) (v1 : Int32) : Option Int32 :=
  bn1 (f_X11_knownLoad X v1) (fun r1 => gd (r1 < 20) (some (X 22 1 r1 5)))
set_option maxRecDepth 20000 in
theorem c_X11_classOfLoad {l : Launch} {D : DD} {z : Nat} {Y : YT} {X : XT} {v1 : Int32} {r : Int32} (hf : f_X11_classOfLoad X v1 = some r) : CC l yX11_classOfLoad cX11_classOfLoad 2 (some .int) (rmk 2 0 0) D z [.ref (z + aX 0 0 0), .int v1] (GG D z (X, Y)) (some (.int r)) (GG D z (X, Y)) := by
  unfold f_X11_classOfLoad at hf
  refine cc_of pn_X11 (le_ rfl) (ls := [(0, .ref (z + aX 0 0 0)), (1, .int v1)]) rfl ?_
  intro p e s m args below meth c E
  refine j_aload_n E 0 rfl dX11_classOfLoad_0 ?_
  refine j_iload_n E 1 rfl dX11_classOfLoad_1 ?_
  obtain ⟨r1, h1, hf⟩ := bn1_e hf
  obtain ⟨g1, hf⟩ := gd_e hf
  refine j_invV [] [.ref (z + aX 22 1 r1)] E (c_X11_knownLoad h1) ml_X11_220 mv_X11_knownLoad rfl ⟨le_ rfl, le_ rfl⟩ (rcX ok0 cf_X11 ent0) rfl rfl (le_ rfl) ⟨le_ rfl, le_ rfl⟩ dX11_classOfLoad_2 ?_
  refine j_getN (f := 5) E (okb22 jl1 g1) cf_X6 fl_X11_229 (lt_ rfl) rfl ent22 rfl dX11_classOfLoad_5 ?_
  cases hf
  exact j_iret E rfl (le_ rfl) (le_ rfl) dX11_classOfLoad_8
def f_X11_tankOfLoad (X : XT) (v1 : Int32) : Option Int32 :=
  bn1 (f_X11_knownLoad X v1) (fun r1 => gd (r1 < 20) (some (X 22 1 r1 6)))
set_option maxRecDepth 20000 in
theorem c_X11_tankOfLoad {l : Launch} {D : DD} {z : Nat} {Y : YT} {X : XT} {v1 : Int32} {r : Int32} (hf : f_X11_tankOfLoad X v1 = some r) : CC l yX11_tankOfLoad cX11_tankOfLoad 2 (some .int) (rmk 2 0 0) D z [.ref (z + aX 0 0 0), .int v1] (GG D z (X, Y)) (some (.int r)) (GG D z (X, Y)) := by
  unfold f_X11_tankOfLoad at hf
  refine cc_of pn_X11 (le_ rfl) (ls := [(0, .ref (z + aX 0 0 0)), (1, .int v1)]) rfl ?_
  intro p e s m args below meth c E
  refine j_aload_n E 0 rfl dX11_tankOfLoad_0 ?_
  refine j_iload_n E 1 rfl dX11_tankOfLoad_1 ?_
  obtain ⟨r1, h1, hf⟩ := bn1_e hf
  obtain ⟨g1, hf⟩ := gd_e hf
  refine j_invV [] [.ref (z + aX 22 1 r1)] E (c_X11_knownLoad h1) ml_X11_220 mv_X11_knownLoad rfl ⟨le_ rfl, le_ rfl⟩ (rcX ok0 cf_X11 ent0) rfl rfl (le_ rfl) ⟨le_ rfl, le_ rfl⟩ dX11_tankOfLoad_2 ?_
  refine j_getN (f := 6) E (okb22 jl1 g1) cf_X6 fl_X11_232 (lt_ rfl) rfl ent22 rfl dX11_tankOfLoad_5 ?_
  cases hf
  exact j_iret E rfl (le_ rfl) (le_ rfl) dX11_tankOfLoad_8
def f_X11_valueOf (X : XT) (v1 : Int32) : Option Int32 :=
  bn1 (f_X11_knownLoad X v1) (fun r1 => gd (r1 < 20) (bn1 (f_X0_centsOf X 1 1 r1) (fun r2 => some r2)))
set_option maxRecDepth 20000 in
theorem c_X11_valueOf {l : Launch} {D : DD} {z : Nat} {Y : YT} {X : XT} {v1 : Int32} {r : Int32} (hf : f_X11_valueOf X v1 = some r) : CC l yX11_valueOf cX11_valueOf 2 (some .int) (rmk 3 0 0) D z [.ref (z + aX 0 0 0), .int v1] (GG D z (X, Y)) (some (.int r)) (GG D z (X, Y)) := by
  unfold f_X11_valueOf at hf
  refine cc_of pn_X11 (le_ rfl) (ls := [(0, .ref (z + aX 0 0 0)), (1, .int v1)]) rfl ?_
  intro p e s m args below meth c E
  refine j_aload_n E 0 rfl dX11_valueOf_0 ?_
  refine j_get (f := 1) E ok0 cf_X11 fl_X11_19 (lt_ rfl) rfl ent0 rfl dX11_valueOf_1 ?_
  refine j_aload_n E 0 rfl dX11_valueOf_4 ?_
  refine j_iload_n E 1 rfl dX11_valueOf_5 ?_
  obtain ⟨r1, h1, hf⟩ := bn1_e hf
  obtain ⟨g1, hf⟩ := gd_e hf
  refine j_invV [.ref (z + aX 10 1 0)] [.ref (z + aX 22 1 r1), .ref (z + aX 10 1 0)] E (c_X11_knownLoad h1) ml_X11_220 mv_X11_knownLoad rfl ⟨le_ rfl, le_ rfl⟩ (rcX ok0 cf_X11 ent0) rfl rfl (le_ rfl) ⟨le_ rfl, le_ rfl⟩ dX11_valueOf_6 ?_
  obtain ⟨r2, h2, hf⟩ := bn1_e hf
  refine j_invV [] [.int r2] E (c_X0_centsOf jl1 jl1 g1 h2) ml_X11_235 mv_X0_centsOf rfl ⟨le_ rfl, le_ rfl⟩ (rcX (okb10 jl1) cf_X0 ent10) rfl rfl (le_ rfl) ⟨le_ rfl, le_ rfl⟩ dX11_valueOf_9 ?_
  cases hf
  exact j_iret E rfl (le_ rfl) (le_ rfl) dX11_valueOf_12
def f_X11_isPaid (X : XT) (v1 : Int32) : Option Int32 :=
  bn1 (f_X11_knownLoad X v1) (fun r1 => gd (r1 < 20) (gd ((X 22 1 r1 7) &&& 1 = (X 22 1 r1 7)) (some (X 22 1 r1 7))))
set_option maxRecDepth 20000 in
theorem c_X11_isPaid {l : Launch} {D : DD} {z : Nat} {Y : YT} {X : XT} {v1 : Int32} {r : Int32} (hf : f_X11_isPaid X v1 = some r) : CC l yX11_isPaid cX11_isPaid 2 (some .boolean) (rmk 2 0 0) D z [.ref (z + aX 0 0 0), .int v1] (GG D z (X, Y)) (some (.int r)) (GG D z (X, Y)) := by
  unfold f_X11_isPaid at hf
  refine cc_of pn_X11 (le_ rfl) (ls := [(0, .ref (z + aX 0 0 0)), (1, .int v1)]) rfl ?_
  intro p e s m args below meth c E
  refine j_aload_n E 0 rfl dX11_isPaid_0 ?_
  refine j_iload_n E 1 rfl dX11_isPaid_1 ?_
  obtain ⟨r1, h1, hf⟩ := bn1_e hf
  obtain ⟨g1, hf⟩ := gd_e hf
  refine j_invV [] [.ref (z + aX 22 1 r1)] E (c_X11_knownLoad h1) ml_X11_220 mv_X11_knownLoad rfl ⟨le_ rfl, le_ rfl⟩ (rcX ok0 cf_X11 ent0) rfl rfl (le_ rfl) ⟨le_ rfl, le_ rfl⟩ dX11_isPaid_2 ?_
  refine j_getN (f := 7) E (okb22 jl1 g1) cf_X6 fl_X11_239 (lt_ rfl) rfl ent22 rfl dX11_isPaid_5 ?_
  obtain ⟨g2, hf⟩ := gd_e hf
  cases hf
  exact j_iret E (nz_ g2) (le_ rfl) (le_ rfl) dX11_isPaid_8
def f_X11_isLowered (X : XT) (v1 : Int32) : Option Int32 :=
  bn1 (f_X11_knownLoad X v1) (fun r1 => gd (r1 < 20) (bn1 (f_X1_gradeOfSugar X 1 (X 22 1 r1 4)) (fun r2 => if (X 22 1 r1 5) = r2 then (some 0) else (some 1))))
set_option maxRecDepth 20000 in
theorem c_X11_isLowered {l : Launch} {D : DD} {z : Nat} {Y : YT} {X : XT} {v1 : Int32} {r : Int32} (hf : f_X11_isLowered X v1 = some r) : CC l yX11_isLowered cX11_isLowered 3 (some .boolean) (rmk 2 0 0) D z [.ref (z + aX 0 0 0), .int v1] (GG D z (X, Y)) (some (.int r)) (GG D z (X, Y)) := by
  unfold f_X11_isLowered at hf
  refine cc_of pn_X11 (le_ rfl) (ls := [(0, .ref (z + aX 0 0 0)), (1, .int v1)]) rfl ?_
  intro p e s m args below meth c E
  refine j_aload_n E 0 rfl dX11_isLowered_0 ?_
  refine j_iload_n E 1 rfl dX11_isLowered_1 ?_
  obtain ⟨r1, h1, hf⟩ := bn1_e hf
  obtain ⟨g1, hf⟩ := gd_e hf
  refine j_invV [] [.ref (z + aX 22 1 r1)] E (c_X11_knownLoad h1) ml_X11_220 mv_X11_knownLoad rfl ⟨le_ rfl, le_ rfl⟩ (rcX ok0 cf_X11 ent0) rfl rfl (le_ rfl) ⟨le_ rfl, le_ rfl⟩ dX11_isLowered_2 ?_
  refine j_astore_n (ls' := [(2, .ref (z + aX 22 1 r1)), (0, .ref (z + aX 0 0 0)), (1, .int v1)]) E (lt_ rfl) rfl dX11_isLowered_5 ?_
  refine j_aload_n E 0 rfl dX11_isLowered_6 ?_
  refine j_getN (f := 5) E (okb22 jl1 g1) cf_X6 fl_X11_229 (lt_ rfl) rfl ent22 rfl dX11_isLowered_7 ?_
  refine j_aload_n E 1 rfl dX11_isLowered_10 ?_
  refine j_get (f := 1) E ok0 cf_X11 fl_X11_19 (lt_ rfl) rfl ent0 rfl dX11_isLowered_11 ?_
  refine j_getN (f := 0) E (okb10 jl1) cf_X0 fl_X11_119 (lt_ rfl) rfl ent10 rfl dX11_isLowered_14 ?_
  refine j_aload_n E 0 rfl dX11_isLowered_17 ?_
  refine j_getN (f := 4) E (okb22 jl1 g1) cf_X6 fl_X11_243 (lt_ rfl) rfl ent22 rfl dX11_isLowered_18 ?_
  obtain ⟨r2, h2, hf⟩ := bn1_e hf
  refine j_invV [.int (X 22 1 r1 5)] [.int r2, .int (X 22 1 r1 5)] E (c_X1_gradeOfSugar jl1 h2) ml_X11_155 mv_X1_gradeOfSugar rfl ⟨le_ rfl, le_ rfl⟩ (rcX (okb11 jl1) cf_X1 ent11) rfl rfl (le_ rfl) ⟨le_ rfl, le_ rfl⟩ dX11_isLowered_21 ?_
  refine j_icmp_eq E 31 (by decide) dX11_isLowered_24 (fun c1 => ?_) (fun c1 => ?_)
  · rw [if_pos c1] at hf
    refine j_iconst E 0 ic_0 dX11_isLowered_31 ?_
    cases hf
    exact j_iret E rfl (le_ rfl) (le_ rfl) dX11_isLowered_32
  · rw [if_neg c1] at hf
    refine j_iconst E 1 ic_1 dX11_isLowered_27 ?_
    refine j_goto E 32 (by decide) dX11_isLowered_28 ?_
    cases hf
    exact j_iret E rfl (le_ rfl) (le_ rfl) dX11_isLowered_32
def f_X11_knownTank (X : XT) (v1 : Int32) : Option Nat :=
  if v1 < 0 then (none) else (if v1 < (X 23 1 0 2) then (gd (¬ (v1 < 0 ∨ 5 ≤ v1.toNatClampNeg)) (some v1.toNatClampNeg)) else (none))
set_option maxRecDepth 20000 in
theorem c_X11_knownTank {l : Launch} {D : DD} {z : Nat} {Y : YT} {X : XT} {v1 : Int32} {r : Nat} (hf : f_X11_knownTank X v1 = some r) : CC l yX11_knownTank cX11_knownTank 2 (some (.object "WineCooperative$Tank")) (rmk 1 0 0) D z [.ref (z + aX 0 0 0), .int v1] (GG D z (X, Y)) (some (.ref (z + aX 26 1 r))) (GG D z (X, Y)) := by
  unfold f_X11_knownTank at hf
  refine cc_of pn_X11 (le_ rfl) (ls := [(0, .ref (z + aX 0 0 0)), (1, .int v1)]) rfl ?_
  intro p e s m args below meth c E
  refine j_iload_n E 1 rfl dX11_knownTank_0 ?_
  refine j_if_lt E 18 (by decide) dX11_knownTank_1 (fun c1 => ?_) (fun c1 => ?_)
  · rw [if_pos c1] at hf
    exact none_e hf
  · rw [if_neg c1] at hf
    refine j_iload_n E 1 rfl dX11_knownTank_4 ?_
    refine j_aload_n E 0 rfl dX11_knownTank_5 ?_
    refine j_get (f := 1) E ok0 cf_X11 fl_X11_19 (lt_ rfl) rfl ent0 rfl dX11_knownTank_6 ?_
    refine j_getN (f := 3) E (okb10 jl1) cf_X0 fl_X11_143 (lt_ rfl) rfl ent10 rfl dX11_knownTank_9 ?_
    refine j_getN (f := 2) E (okb23 jl1) cf_X2 fl_X11_411 (lt_ rfl) rfl ent23 rfl dX11_knownTank_12 ?_
    refine j_icmp_lt E 29 (by decide) dX11_knownTank_15 (fun c2 => ?_) (fun c2 => ?_)
    · rw [if_pos c2] at hf
      refine j_aload_n E 0 rfl dX11_knownTank_29 ?_
      refine j_get (f := 1) E ok0 cf_X11 fl_X11_19 (lt_ rfl) rfl ent0 rfl dX11_knownTank_30 ?_
      refine j_getN (f := 3) E (okb10 jl1) cf_X0 fl_X11_143 (lt_ rfl) rfl ent10 rfl dX11_knownTank_33 ?_
      refine j_getN (f := 0) E (okb23 jl1) cf_X2 fl_X11_418 (lt_ rfl) rfl ent23 rfl dX11_knownTank_36 ?_
      refine j_iload_n E 1 rfl dX11_knownTank_39 ?_
      obtain ⟨g1, hf⟩ := gd_e hf
      refine j_aald (t := 5) E (okb24 jl1) ent24 rfl g1 dX11_knownTank_40 ?_
      cases hf
      exact j_aret E (le_ rfl) (le_ rfl) dX11_knownTank_41
    · rw [if_neg c2] at hf
      exact none_e hf
def f_X11_content (X : XT) (v1 : Int32) : Option Int32 :=
  bn1 (f_X11_knownTank X v1) (fun r1 => gd (r1 < 5) (some (X 26 1 r1 1)))
set_option maxRecDepth 20000 in
theorem c_X11_content {l : Launch} {D : DD} {z : Nat} {Y : YT} {X : XT} {v1 : Int32} {r : Int32} (hf : f_X11_content X v1 = some r) : CC l yX11_content cX11_content 2 (some .int) (rmk 2 0 0) D z [.ref (z + aX 0 0 0), .int v1] (GG D z (X, Y)) (some (.int r)) (GG D z (X, Y)) := by
  unfold f_X11_content at hf
  refine cc_of pn_X11 (le_ rfl) (ls := [(0, .ref (z + aX 0 0 0)), (1, .int v1)]) rfl ?_
  intro p e s m args below meth c E
  refine j_aload_n E 0 rfl dX11_content_0 ?_
  refine j_iload_n E 1 rfl dX11_content_1 ?_
  obtain ⟨r1, h1, hf⟩ := bn1_e hf
  obtain ⟨g1, hf⟩ := gd_e hf
  refine j_invV [] [.ref (z + aX 26 1 r1)] E (c_X11_knownTank h1) ml_X11_246 mv_X11_knownTank rfl ⟨le_ rfl, le_ rfl⟩ (rcX ok0 cf_X11 ent0) rfl rfl (le_ rfl) ⟨le_ rfl, le_ rfl⟩ dX11_content_2 ?_
  refine j_getN (f := 1) E (okb26 jl1 g1) cf_X9 fl_X11_250 (lt_ rfl) rfl ent26 rfl dX11_content_5 ?_
  cases hf
  exact j_iret E rfl (le_ rfl) (le_ rfl) dX11_content_8
def f_X11_varietyIn (X : XT) (v1 : Int32) : Option Int32 :=
  bn1 (f_X11_knownTank X v1) (fun r1 => gd (r1 < 5) (some (X 26 1 r1 2)))
set_option maxRecDepth 20000 in
theorem c_X11_varietyIn {l : Launch} {D : DD} {z : Nat} {Y : YT} {X : XT} {v1 : Int32} {r : Int32} (hf : f_X11_varietyIn X v1 = some r) : CC l yX11_varietyIn cX11_varietyIn 2 (some .int) (rmk 2 0 0) D z [.ref (z + aX 0 0 0), .int v1] (GG D z (X, Y)) (some (.int r)) (GG D z (X, Y)) := by
  unfold f_X11_varietyIn at hf
  refine cc_of pn_X11 (le_ rfl) (ls := [(0, .ref (z + aX 0 0 0)), (1, .int v1)]) rfl ?_
  intro p e s m args below meth c E
  refine j_aload_n E 0 rfl dX11_varietyIn_0 ?_
  refine j_iload_n E 1 rfl dX11_varietyIn_1 ?_
  obtain ⟨r1, h1, hf⟩ := bn1_e hf
  obtain ⟨g1, hf⟩ := gd_e hf
  refine j_invV [] [.ref (z + aX 26 1 r1)] E (c_X11_knownTank h1) ml_X11_246 mv_X11_knownTank rfl ⟨le_ rfl, le_ rfl⟩ (rcX ok0 cf_X11 ent0) rfl rfl (le_ rfl) ⟨le_ rfl, le_ rfl⟩ dX11_varietyIn_2 ?_
  refine j_getN (f := 2) E (okb26 jl1 g1) cf_X9 fl_X11_255 (lt_ rfl) rfl ent26 rfl dX11_varietyIn_5 ?_
  cases hf
  exact j_iret E rfl (le_ rfl) (le_ rfl) dX11_varietyIn_8
def f_X11_meanSugar (X : XT) (v1 : Int32) : Option Int32 :=
  bn1 (f_X11_knownTank X v1) (fun r1 => gd (r1 < 5) (bn1 (f_X9_mean X 1 r1) (fun r2 => some r2)))
set_option maxRecDepth 20000 in
theorem c_X11_meanSugar {l : Launch} {D : DD} {z : Nat} {Y : YT} {X : XT} {v1 : Int32} {r : Int32} (hf : f_X11_meanSugar X v1 = some r) : CC l yX11_meanSugar cX11_meanSugar 2 (some .int) (rmk 2 0 0) D z [.ref (z + aX 0 0 0), .int v1] (GG D z (X, Y)) (some (.int r)) (GG D z (X, Y)) := by
  unfold f_X11_meanSugar at hf
  refine cc_of pn_X11 (le_ rfl) (ls := [(0, .ref (z + aX 0 0 0)), (1, .int v1)]) rfl ?_
  intro p e s m args below meth c E
  refine j_aload_n E 0 rfl dX11_meanSugar_0 ?_
  refine j_iload_n E 1 rfl dX11_meanSugar_1 ?_
  obtain ⟨r1, h1, hf⟩ := bn1_e hf
  obtain ⟨g1, hf⟩ := gd_e hf
  refine j_invV [] [.ref (z + aX 26 1 r1)] E (c_X11_knownTank h1) ml_X11_246 mv_X11_knownTank rfl ⟨le_ rfl, le_ rfl⟩ (rcX ok0 cf_X11 ent0) rfl rfl (le_ rfl) ⟨le_ rfl, le_ rfl⟩ dX11_meanSugar_2 ?_
  obtain ⟨r2, h2, hf⟩ := bn1_e hf
  refine j_invV [] [.int r2] E (c_X9_mean jl1 g1 h2) ml_X11_258 mv_X9_mean rfl ⟨le_ rfl, le_ rfl⟩ (rcX (okb26 jl1 g1) cf_X9 ent26) rfl rfl (le_ rfl) ⟨le_ rfl, le_ rfl⟩ dX11_meanSugar_5 ?_
  cases hf
  exact j_iret E rfl (le_ rfl) (le_ rfl) dX11_meanSugar_8
def f_X11_needWeight (v0 : Int32) : Option Unit :=
  if v0 < 1 then (none) else (if v0 ≤ 5000 then (some ()) else (none))
set_option maxRecDepth 20000 in
theorem c_X11_needWeight {l : Launch} {D : DD} {z : Nat} {P0 : Heap → Prop} {v0 : Int32} (hf : f_X11_needWeight v0 = some ()) : CC l yX11_needWeight cX11_needWeight 1 none (rmk 1 0 0) D z [.int v0] P0 none P0 := by
  unfold f_X11_needWeight at hf
  refine cc_of pn_X11 (le_ rfl) (ls := [(0, .int v0)]) rfl ?_
  intro p e s m args below meth c E
  refine j_iload_n E 0 rfl dX11_needWeight_0 ?_
  refine j_iconst E 1 ic_1 dX11_needWeight_1 ?_
  refine j_icmp_lt E 12 (by decide) dX11_needWeight_2 (fun c1 => ?_) (fun c1 => ?_)
  · rw [if_pos c1] at hf
    exact none_e hf
  · rw [if_neg c1] at hf
    refine j_iload_n E 0 rfl dX11_needWeight_5 ?_
    refine j_sipush E 5000 sp_5000 dX11_needWeight_6 ?_
    refine j_icmp_le E 23 (by decide) dX11_needWeight_9 (fun c2 => ?_) (fun c2 => ?_)
    · rw [if_pos c2] at hf
      exact j_vret E (le_ rfl) (le_ rfl) dX11_needWeight_23
    · rw [if_neg c2] at hf
      exact none_e hf
def f_X11_tankFor (X : XT) (v1 : Int32) (v2 : Int32) : Option Int32 :=
  bn1 (f_X11_needVariety X v1) (fun _ => bn1 (f_X11_needWeight v2) (fun _ => bn1 (f_X2_chooseTank X 1 v1 v2) (fun r1 => some r1)))
set_option maxRecDepth 20000 in
theorem c_X11_tankFor {l : Launch} {D : DD} {z : Nat} {Y : YT} {X : XT} {v1 : Int32} {v2 : Int32} {r : Int32} (hf : f_X11_tankFor X v1 v2 = some r) : CC l yX11_tankFor cX11_tankFor 3 (some .int) (rmk 3 0 0) D z [.ref (z + aX 0 0 0), .int v1, .int v2] (GG D z (X, Y)) (some (.int r)) (GG D z (X, Y)) := by
  unfold f_X11_tankFor at hf
  refine cc_of pn_X11 (le_ rfl) (ls := [(0, .ref (z + aX 0 0 0)), (1, .int v1), (2, .int v2)]) rfl ?_
  intro p e s m args below meth c E
  refine j_aload_n E 0 rfl dX11_tankFor_0 ?_
  refine j_iload_n E 1 rfl dX11_tankFor_1 ?_
  obtain ⟨_, h1, hf⟩ := bn1_e hf
  refine j_invV [] [] E (c_X11_needVariety h1) ml_X11_159 mv_X11_needVariety rfl ⟨le_ rfl, le_ rfl⟩ (rcX ok0 cf_X11 ent0) rfl rfl (le_ rfl) ⟨le_ rfl, le_ rfl⟩ dX11_tankFor_2 ?_
  refine j_iload_n E 2 rfl dX11_tankFor_5 ?_
  obtain ⟨_, h2, hf⟩ := bn1_e hf
  refine j_invS [] [] E (c_X11_needWeight h2) ml_X11_261 ms_X11_needWeight rfl ⟨le_ rfl, le_ rfl⟩ rfl rfl (le_ rfl) ⟨le_ rfl, le_ rfl⟩ dX11_tankFor_6 ?_
  refine j_aload_n E 0 rfl dX11_tankFor_9 ?_
  refine j_get (f := 1) E ok0 cf_X11 fl_X11_19 (lt_ rfl) rfl ent0 rfl dX11_tankFor_10 ?_
  refine j_getN (f := 3) E (okb10 jl1) cf_X0 fl_X11_143 (lt_ rfl) rfl ent10 rfl dX11_tankFor_13 ?_
  refine j_iload_n E 1 rfl dX11_tankFor_16 ?_
  refine j_iload_n E 2 rfl dX11_tankFor_17 ?_
  obtain ⟨r1, h3, hf⟩ := bn1_e hf
  refine j_invV [] [.int r1] E (c_X2_chooseTank jl1 h3) ml_X11_264 mv_X2_chooseTank rfl ⟨le_ rfl, le_ rfl⟩ (rcX (okb23 jl1) cf_X2 ent23) rfl rfl (le_ rfl) ⟨le_ rfl, le_ rfl⟩ dX11_tankFor_18 ?_
  cases hf
  exact j_iret E rfl (le_ rfl) (le_ rfl) dX11_tankFor_21
def f_X11_greatestLoad (X : XT) (v1 : Int32) : Option Int32 :=
  bn1 (f_X11_needVariety X v1) (fun _ => bn1 (f_X2_greatestWeightFor X 1 v1) (fun r1 => some r1))
set_option maxRecDepth 20000 in
theorem c_X11_greatestLoad {l : Launch} {D : DD} {z : Nat} {Y : YT} {X : XT} {v1 : Int32} {r : Int32} (hf : f_X11_greatestLoad X v1 = some r) : CC l yX11_greatestLoad cX11_greatestLoad 2 (some .int) (rmk 3 0 0) D z [.ref (z + aX 0 0 0), .int v1] (GG D z (X, Y)) (some (.int r)) (GG D z (X, Y)) := by
  unfold f_X11_greatestLoad at hf
  refine cc_of pn_X11 (le_ rfl) (ls := [(0, .ref (z + aX 0 0 0)), (1, .int v1)]) rfl ?_
  intro p e s m args below meth c E
  refine j_aload_n E 0 rfl dX11_greatestLoad_0 ?_
  refine j_iload_n E 1 rfl dX11_greatestLoad_1 ?_
  obtain ⟨_, h1, hf⟩ := bn1_e hf
  refine j_invV [] [] E (c_X11_needVariety h1) ml_X11_159 mv_X11_needVariety rfl ⟨le_ rfl, le_ rfl⟩ (rcX ok0 cf_X11 ent0) rfl rfl (le_ rfl) ⟨le_ rfl, le_ rfl⟩ dX11_greatestLoad_2 ?_
  refine j_aload_n E 0 rfl dX11_greatestLoad_5 ?_
  refine j_get (f := 1) E ok0 cf_X11 fl_X11_19 (lt_ rfl) rfl ent0 rfl dX11_greatestLoad_6 ?_
  refine j_getN (f := 3) E (okb10 jl1) cf_X0 fl_X11_143 (lt_ rfl) rfl ent10 rfl dX11_greatestLoad_9 ?_
  refine j_iload_n E 1 rfl dX11_greatestLoad_12 ?_
  obtain ⟨r1, h2, hf⟩ := bn1_e hf
  refine j_invV [] [.int r1] E (c_X2_greatestWeightFor jl1 h2) ml_X11_267 mv_X2_greatestWeightFor rfl ⟨le_ rfl, le_ rfl⟩ (rcX (okb23 jl1) cf_X2 ent23) rfl rfl (le_ rfl) ⟨le_ rfl, le_ rfl⟩ dX11_greatestLoad_13 ?_
  cases hf
  exact j_iret E rfl (le_ rfl) (le_ rfl) dX11_greatestLoad_16
def f_X11_refusal (X : XT) (v1 : Int32) (v2 : Int32) (v3 : Int32) : Option Int32 :=
  bn1 (f_X11_needPlot X v1) (fun _ => bn1 (f_X11_needWeight v2) (fun _ => bn1 (f_X11_needSugar v3) (fun _ => bn1 (f_X0_reasonAgainst X 1 v1 v2 v3) (fun r1 => some r1))))
set_option maxRecDepth 20000 in
theorem c_X11_refusal {l : Launch} {D : DD} {z : Nat} {Y : YT} {X : XT} {v1 : Int32} {v2 : Int32} {v3 : Int32} {r : Int32} (hf : f_X11_refusal X v1 v2 v3 = some r) : CC l yX11_refusal cX11_refusal 4 (some .int) (rmk 4 0 0) D z [.ref (z + aX 0 0 0), .int v1, .int v2, .int v3] (GG D z (X, Y)) (some (.int r)) (GG D z (X, Y)) := by
  unfold f_X11_refusal at hf
  refine cc_of pn_X11 (le_ rfl) (ls := [(0, .ref (z + aX 0 0 0)), (1, .int v1), (2, .int v2), (3, .int v3)]) rfl ?_
  intro p e s m args below meth c E
  refine j_aload_n E 0 rfl dX11_refusal_0 ?_
  refine j_iload_n E 1 rfl dX11_refusal_1 ?_
  obtain ⟨_, h1, hf⟩ := bn1_e hf
  refine j_invV [] [] E (c_X11_needPlot h1) ml_X11_208 mv_X11_needPlot rfl ⟨le_ rfl, le_ rfl⟩ (rcX ok0 cf_X11 ent0) rfl rfl (le_ rfl) ⟨le_ rfl, le_ rfl⟩ dX11_refusal_2 ?_
  refine j_iload_n E 2 rfl dX11_refusal_5 ?_
  obtain ⟨_, h2, hf⟩ := bn1_e hf
  refine j_invS [] [] E (c_X11_needWeight h2) ml_X11_261 ms_X11_needWeight rfl ⟨le_ rfl, le_ rfl⟩ rfl rfl (le_ rfl) ⟨le_ rfl, le_ rfl⟩ dX11_refusal_6 ?_
  refine j_iload_n E 3 rfl dX11_refusal_9 ?_
  obtain ⟨_, h3, hf⟩ := bn1_e hf
  refine j_invS [] [] E (c_X11_needSugar h3) ml_X11_152 ms_X11_needSugar rfl ⟨le_ rfl, le_ rfl⟩ rfl rfl (le_ rfl) ⟨le_ rfl, le_ rfl⟩ dX11_refusal_10 ?_
  refine j_aload_n E 0 rfl dX11_refusal_13 ?_
  refine j_get (f := 1) E ok0 cf_X11 fl_X11_19 (lt_ rfl) rfl ent0 rfl dX11_refusal_14 ?_
  refine j_iload_n E 1 rfl dX11_refusal_17 ?_
  refine j_iload_n E 2 rfl dX11_refusal_18 ?_
  refine j_iload_n E 3 rfl dX11_refusal_19 ?_
  obtain ⟨r1, h4, hf⟩ := bn1_e hf
  refine j_invV [] [.int r1] E (c_X0_reasonAgainst jl1 h4) ml_X11_270 mv_X0_reasonAgainst rfl ⟨le_ rfl, le_ rfl⟩ (rcX (okb10 jl1) cf_X0 ent10) rfl rfl (le_ rfl) ⟨le_ rfl, le_ rfl⟩ dX11_refusal_20 ?_
  cases hf
  exact j_iret E rfl (le_ rfl) (le_ rfl) dX11_refusal_23
def f_X11_valueIfDelivered (X : XT) (v1 : Int32) (v2 : Int32) (v3 : Int32) : Option Int32 :=
  bn1 (f_X11_needPlot X v1) (fun _ => bn1 (f_X11_needWeight v2) (fun _ => bn1 (f_X11_needSugar v3) (fun _ => bn1 (f_X0_reasonAgainst X 1 v1 v2 v3) (fun r1 => if r1 = 0 then (bn1 (f_X5_varietyOn X 1 v1) (fun r2 => bn1 (f_X0_gradeFor X 1 v1 v2 v3) (fun r3 => bn1 (f_X1_centsFor X 1 r2 r3) (fun r4 => some (v2 * r4))))) else (some (-1))))))
set_option maxRecDepth 20000 in
theorem c_X11_valueIfDelivered {l : Launch} {D : DD} {z : Nat} {Y : YT} {X : XT} {v1 : Int32} {v2 : Int32} {v3 : Int32} {r : Int32} (hf : f_X11_valueIfDelivered X v1 v2 v3 = some r) : CC l yX11_valueIfDelivered cX11_valueIfDelivered 4 (some .int) (rmk 4 0 0) D z [.ref (z + aX 0 0 0), .int v1, .int v2, .int v3] (GG D z (X, Y)) (some (.int r)) (GG D z (X, Y)) := by
  unfold f_X11_valueIfDelivered at hf
  refine cc_of pn_X11 (le_ rfl) (ls := [(0, .ref (z + aX 0 0 0)), (1, .int v1), (2, .int v2), (3, .int v3)]) rfl ?_
  intro p e s m args below meth c E
  refine j_aload_n E 0 rfl dX11_valueIfDelivered_0 ?_
  refine j_iload_n E 1 rfl dX11_valueIfDelivered_1 ?_
  obtain ⟨_, h1, hf⟩ := bn1_e hf
  refine j_invV [] [] E (c_X11_needPlot h1) ml_X11_208 mv_X11_needPlot rfl ⟨le_ rfl, le_ rfl⟩ (rcX ok0 cf_X11 ent0) rfl rfl (le_ rfl) ⟨le_ rfl, le_ rfl⟩ dX11_valueIfDelivered_2 ?_
  refine j_iload_n E 2 rfl dX11_valueIfDelivered_5 ?_
  obtain ⟨_, h2, hf⟩ := bn1_e hf
  refine j_invS [] [] E (c_X11_needWeight h2) ml_X11_261 ms_X11_needWeight rfl ⟨le_ rfl, le_ rfl⟩ rfl rfl (le_ rfl) ⟨le_ rfl, le_ rfl⟩ dX11_valueIfDelivered_6 ?_
  refine j_iload_n E 3 rfl dX11_valueIfDelivered_9 ?_
  obtain ⟨_, h3, hf⟩ := bn1_e hf
  refine j_invS [] [] E (c_X11_needSugar h3) ml_X11_152 ms_X11_needSugar rfl ⟨le_ rfl, le_ rfl⟩ rfl rfl (le_ rfl) ⟨le_ rfl, le_ rfl⟩ dX11_valueIfDelivered_10 ?_
  refine j_aload_n E 0 rfl dX11_valueIfDelivered_13 ?_
  refine j_get (f := 1) E ok0 cf_X11 fl_X11_19 (lt_ rfl) rfl ent0 rfl dX11_valueIfDelivered_14 ?_
  refine j_iload_n E 1 rfl dX11_valueIfDelivered_17 ?_
  refine j_iload_n E 2 rfl dX11_valueIfDelivered_18 ?_
  refine j_iload_n E 3 rfl dX11_valueIfDelivered_19 ?_
  obtain ⟨r1, h4, hf⟩ := bn1_e hf
  refine j_invV [] [.int r1] E (c_X0_reasonAgainst jl1 h4) ml_X11_270 mv_X0_reasonAgainst rfl ⟨le_ rfl, le_ rfl⟩ (rcX (okb10 jl1) cf_X0 ent10) rfl rfl (le_ rfl) ⟨le_ rfl, le_ rfl⟩ dX11_valueIfDelivered_20 ?_
  refine j_if_eq E 28 (by decide) dX11_valueIfDelivered_23 (fun c1 => ?_) (fun c1 => ?_)
  · rw [if_pos c1] at hf
    refine j_iload_n E 2 rfl dX11_valueIfDelivered_28 ?_
    refine j_aload_n E 0 rfl dX11_valueIfDelivered_29 ?_
    refine j_get (f := 1) E ok0 cf_X11 fl_X11_19 (lt_ rfl) rfl ent0 rfl dX11_valueIfDelivered_30 ?_
    refine j_getN (f := 0) E (okb10 jl1) cf_X0 fl_X11_119 (lt_ rfl) rfl ent10 rfl dX11_valueIfDelivered_33 ?_
    refine j_aload_n E 0 rfl dX11_valueIfDelivered_36 ?_
    refine j_get (f := 1) E ok0 cf_X11 fl_X11_19 (lt_ rfl) rfl ent0 rfl dX11_valueIfDelivered_37 ?_
    refine j_getN (f := 1) E (okb10 jl1) cf_X0 fl_X11_131 (lt_ rfl) rfl ent10 rfl dX11_valueIfDelivered_40 ?_
    refine j_iload_n E 1 rfl dX11_valueIfDelivered_43 ?_
    obtain ⟨r2, h5, hf⟩ := bn1_e hf
    refine j_invV [.ref (z + aX 11 1 0), .int v2] [.int r2, .ref (z + aX 11 1 0), .int v2] E (c_X5_varietyOn jl1 h5) ml_X11_274 mv_X5_varietyOn rfl ⟨le_ rfl, le_ rfl⟩ (rcX (okb15 jl1) cf_X5 ent15) rfl rfl (le_ rfl) ⟨le_ rfl, le_ rfl⟩ dX11_valueIfDelivered_44 ?_
    refine j_aload_n E 0 rfl dX11_valueIfDelivered_47 ?_
    refine j_get (f := 1) E ok0 cf_X11 fl_X11_19 (lt_ rfl) rfl ent0 rfl dX11_valueIfDelivered_48 ?_
    refine j_iload_n E 1 rfl dX11_valueIfDelivered_51 ?_
    refine j_iload_n E 2 rfl dX11_valueIfDelivered_52 ?_
    refine j_iload_n E 3 rfl dX11_valueIfDelivered_53 ?_
    obtain ⟨r3, h6, hf⟩ := bn1_e hf
    refine j_invV [.int r2, .ref (z + aX 11 1 0), .int v2] [.int r3, .int r2, .ref (z + aX 11 1 0), .int v2] E (c_X0_gradeFor jl1 h6) ml_X11_277 mv_X0_gradeFor rfl ⟨le_ rfl, le_ rfl⟩ (rcX (okb10 jl1) cf_X0 ent10) rfl rfl (le_ rfl) ⟨le_ rfl, le_ rfl⟩ dX11_valueIfDelivered_54 ?_
    obtain ⟨r4, h7, hf⟩ := bn1_e hf
    refine j_invV [.int v2] [.int r4, .int v2] E (c_X1_centsFor jl1 h7) ml_X11_165 mv_X1_centsFor rfl ⟨le_ rfl, le_ rfl⟩ (rcX (okb11 jl1) cf_X1 ent11) rfl rfl (le_ rfl) ⟨le_ rfl, le_ rfl⟩ dX11_valueIfDelivered_57 ?_
    refine j_imul E dX11_valueIfDelivered_60 ?_
    cases hf
    exact j_iret E rfl (le_ rfl) (le_ rfl) dX11_valueIfDelivered_61
  · rw [if_neg c1] at hf
    refine j_iconst E (-1) ic_m1 dX11_valueIfDelivered_26 ?_
    cases hf
    exact j_iret E rfl (le_ rfl) (le_ rfl) dX11_valueIfDelivered_27
def f_X11_knownLot (X : XT) (v1 : Int32) : Option Nat :=
  if v1 < 0 then (none) else (if v1 < (X 23 1 0 3) then (gd (¬ (v1 < 0 ∨ 12 ≤ v1.toNatClampNeg)) (some v1.toNatClampNeg)) else (none))
set_option maxRecDepth 20000 in
theorem c_X11_knownLot {l : Launch} {D : DD} {z : Nat} {Y : YT} {X : XT} {v1 : Int32} {r : Nat} (hf : f_X11_knownLot X v1 = some r) : CC l yX11_knownLot cX11_knownLot 2 (some (.object "WineCooperative$Lot")) (rmk 1 0 0) D z [.ref (z + aX 0 0 0), .int v1] (GG D z (X, Y)) (some (.ref (z + aX 27 1 r))) (GG D z (X, Y)) := by
  unfold f_X11_knownLot at hf
  refine cc_of pn_X11 (le_ rfl) (ls := [(0, .ref (z + aX 0 0 0)), (1, .int v1)]) rfl ?_
  intro p e s m args below meth c E
  refine j_iload_n E 1 rfl dX11_knownLot_0 ?_
  refine j_if_lt E 18 (by decide) dX11_knownLot_1 (fun c1 => ?_) (fun c1 => ?_)
  · rw [if_pos c1] at hf
    exact none_e hf
  · rw [if_neg c1] at hf
    refine j_iload_n E 1 rfl dX11_knownLot_4 ?_
    refine j_aload_n E 0 rfl dX11_knownLot_5 ?_
    refine j_get (f := 1) E ok0 cf_X11 fl_X11_19 (lt_ rfl) rfl ent0 rfl dX11_knownLot_6 ?_
    refine j_getN (f := 3) E (okb10 jl1) cf_X0 fl_X11_143 (lt_ rfl) rfl ent10 rfl dX11_knownLot_9 ?_
    refine j_getN (f := 3) E (okb23 jl1) cf_X2 fl_X11_147 (lt_ rfl) rfl ent23 rfl dX11_knownLot_12 ?_
    refine j_icmp_lt E 29 (by decide) dX11_knownLot_15 (fun c2 => ?_) (fun c2 => ?_)
    · rw [if_pos c2] at hf
      refine j_aload_n E 0 rfl dX11_knownLot_29 ?_
      refine j_get (f := 1) E ok0 cf_X11 fl_X11_19 (lt_ rfl) rfl ent0 rfl dX11_knownLot_30 ?_
      refine j_getN (f := 3) E (okb10 jl1) cf_X0 fl_X11_143 (lt_ rfl) rfl ent10 rfl dX11_knownLot_33 ?_
      refine j_getN (f := 1) E (okb23 jl1) cf_X2 fl_X11_452 (lt_ rfl) rfl ent23 rfl dX11_knownLot_36 ?_
      refine j_iload_n E 1 rfl dX11_knownLot_39 ?_
      obtain ⟨g1, hf⟩ := gd_e hf
      refine j_aald (t := 6) E (okb25 jl1) ent25 rfl g1 dX11_knownLot_40 ?_
      cases hf
      exact j_aret E (le_ rfl) (le_ rfl) dX11_knownLot_41
    · rw [if_neg c2] at hf
      exact none_e hf
def f_X11_lotVariety (X : XT) (v1 : Int32) : Option Int32 :=
  bn1 (f_X11_knownLot X v1) (fun r1 => gd (r1 < 12) (some (X 27 1 r1 0)))
set_option maxRecDepth 20000 in
theorem c_X11_lotVariety {l : Launch} {D : DD} {z : Nat} {Y : YT} {X : XT} {v1 : Int32} {r : Int32} (hf : f_X11_lotVariety X v1 = some r) : CC l yX11_lotVariety cX11_lotVariety 2 (some .int) (rmk 2 0 0) D z [.ref (z + aX 0 0 0), .int v1] (GG D z (X, Y)) (some (.int r)) (GG D z (X, Y)) := by
  unfold f_X11_lotVariety at hf
  refine cc_of pn_X11 (le_ rfl) (ls := [(0, .ref (z + aX 0 0 0)), (1, .int v1)]) rfl ?_
  intro p e s m args below meth c E
  refine j_aload_n E 0 rfl dX11_lotVariety_0 ?_
  refine j_iload_n E 1 rfl dX11_lotVariety_1 ?_
  obtain ⟨r1, h1, hf⟩ := bn1_e hf
  obtain ⟨g1, hf⟩ := gd_e hf
  refine j_invV [] [.ref (z + aX 27 1 r1)] E (c_X11_knownLot h1) ml_X11_280 mv_X11_knownLot rfl ⟨le_ rfl, le_ rfl⟩ (rcX ok0 cf_X11 ent0) rfl rfl (le_ rfl) ⟨le_ rfl, le_ rfl⟩ dX11_lotVariety_2 ?_
  refine j_getN (f := 0) E (okb27 jl1 g1) cf_X7 fl_X11_284 (lt_ rfl) rfl ent27 rfl dX11_lotVariety_5 ?_
  cases hf
  exact j_iret E rfl (le_ rfl) (le_ rfl) dX11_lotVariety_8
def f_X11_lotSugar (X : XT) (v1 : Int32) : Option Int32 :=
  bn1 (f_X11_knownLot X v1) (fun r1 => gd (r1 < 12) (some (X 27 1 r1 1)))
set_option maxRecDepth 20000 in
theorem c_X11_lotSugar {l : Launch} {D : DD} {z : Nat} {Y : YT} {X : XT} {v1 : Int32} {r : Int32} (hf : f_X11_lotSugar X v1 = some r) : CC l yX11_lotSugar cX11_lotSugar 2 (some .int) (rmk 2 0 0) D z [.ref (z + aX 0 0 0), .int v1] (GG D z (X, Y)) (some (.int r)) (GG D z (X, Y)) := by
  unfold f_X11_lotSugar at hf
  refine cc_of pn_X11 (le_ rfl) (ls := [(0, .ref (z + aX 0 0 0)), (1, .int v1)]) rfl ?_
  intro p e s m args below meth c E
  refine j_aload_n E 0 rfl dX11_lotSugar_0 ?_
  refine j_iload_n E 1 rfl dX11_lotSugar_1 ?_
  obtain ⟨r1, h1, hf⟩ := bn1_e hf
  obtain ⟨g1, hf⟩ := gd_e hf
  refine j_invV [] [.ref (z + aX 27 1 r1)] E (c_X11_knownLot h1) ml_X11_280 mv_X11_knownLot rfl ⟨le_ rfl, le_ rfl⟩ (rcX ok0 cf_X11 ent0) rfl rfl (le_ rfl) ⟨le_ rfl, le_ rfl⟩ dX11_lotSugar_2 ?_
  refine j_getN (f := 1) E (okb27 jl1 g1) cf_X7 fl_X11_287 (lt_ rfl) rfl ent27 rfl dX11_lotSugar_5 ?_
  cases hf
  exact j_iret E rfl (le_ rfl) (le_ rfl) dX11_lotSugar_8
def f_X11_unsold (X : XT) (v1 : Int32) : Option Int32 :=
  bn1 (f_X11_knownLot X v1) (fun r1 => gd (r1 < 12) (some (X 27 1 r1 3)))
set_option maxRecDepth 20000 in
theorem c_X11_unsold {l : Launch} {D : DD} {z : Nat} {Y : YT} {X : XT} {v1 : Int32} {r : Int32} (hf : f_X11_unsold X v1 = some r) : CC l yX11_unsold cX11_unsold 2 (some .int) (rmk 2 0 0) D z [.ref (z + aX 0 0 0), .int v1] (GG D z (X, Y)) (some (.int r)) (GG D z (X, Y)) := by
  unfold f_X11_unsold at hf
  refine cc_of pn_X11 (le_ rfl) (ls := [(0, .ref (z + aX 0 0 0)), (1, .int v1)]) rfl ?_
  intro p e s m args below meth c E
  refine j_aload_n E 0 rfl dX11_unsold_0 ?_
  refine j_iload_n E 1 rfl dX11_unsold_1 ?_
  obtain ⟨r1, h1, hf⟩ := bn1_e hf
  obtain ⟨g1, hf⟩ := gd_e hf
  refine j_invV [] [.ref (z + aX 27 1 r1)] E (c_X11_knownLot h1) ml_X11_280 mv_X11_knownLot rfl ⟨le_ rfl, le_ rfl⟩ (rcX ok0 cf_X11 ent0) rfl rfl (le_ rfl) ⟨le_ rfl, le_ rfl⟩ dX11_unsold_2 ?_
  refine j_getN (f := 3) E (okb27 jl1 g1) cf_X7 fl_X11_288 (lt_ rfl) rfl ent27 rfl dX11_unsold_5 ?_
  cases hf
  exact j_iret E rfl (le_ rfl) (le_ rfl) dX11_unsold_8
def f_X11_sweetestLot (X : XT) : Option Int32 :=
  bn1 (f_X2_sweetestUnsold X 1) (fun r1 => some r1)
set_option maxRecDepth 20000 in
theorem c_X11_sweetestLot {l : Launch} {D : DD} {z : Nat} {Y : YT} {X : XT} {r : Int32} (hf : f_X11_sweetestLot X = some r) : CC l yX11_sweetestLot cX11_sweetestLot 1 (some .int) (rmk 2 0 0) D z [.ref (z + aX 0 0 0)] (GG D z (X, Y)) (some (.int r)) (GG D z (X, Y)) := by
  unfold f_X11_sweetestLot at hf
  refine cc_of pn_X11 (le_ rfl) (ls := [(0, .ref (z + aX 0 0 0))]) rfl ?_
  intro p e s m args below meth c E
  refine j_aload_n E 0 rfl dX11_sweetestLot_0 ?_
  refine j_get (f := 1) E ok0 cf_X11 fl_X11_19 (lt_ rfl) rfl ent0 rfl dX11_sweetestLot_1 ?_
  refine j_getN (f := 3) E (okb10 jl1) cf_X0 fl_X11_143 (lt_ rfl) rfl ent10 rfl dX11_sweetestLot_4 ?_
  obtain ⟨r1, h1, hf⟩ := bn1_e hf
  refine j_invV [] [.int r1] E (c_X2_sweetestUnsold jl1 h1) ml_X11_291 mv_X2_sweetestUnsold rfl ⟨le_ rfl, le_ rfl⟩ (rcX (okb23 jl1) cf_X2 ent23) rfl rfl (le_ rfl) ⟨le_ rfl, le_ rfl⟩ dX11_sweetestLot_7 ?_
  cases hf
  exact j_iret E rfl (le_ rfl) (le_ rfl) dX11_sweetestLot_10
def f_X11_bottlesOf (X : XT) (v1 : Int32) : Option Int32 :=
  bn1 (f_X11_needVariety X v1) (fun _ => bn1 (f_X2_stockOf X 1 v1) (fun r1 => some r1))
set_option maxRecDepth 20000 in
theorem c_X11_bottlesOf {l : Launch} {D : DD} {z : Nat} {Y : YT} {X : XT} {v1 : Int32} {r : Int32} (hf : f_X11_bottlesOf X v1 = some r) : CC l yX11_bottlesOf cX11_bottlesOf 2 (some .int) (rmk 3 0 0) D z [.ref (z + aX 0 0 0), .int v1] (GG D z (X, Y)) (some (.int r)) (GG D z (X, Y)) := by
  unfold f_X11_bottlesOf at hf
  refine cc_of pn_X11 (le_ rfl) (ls := [(0, .ref (z + aX 0 0 0)), (1, .int v1)]) rfl ?_
  intro p e s m args below meth c E
  refine j_aload_n E 0 rfl dX11_bottlesOf_0 ?_
  refine j_iload_n E 1 rfl dX11_bottlesOf_1 ?_
  obtain ⟨_, h1, hf⟩ := bn1_e hf
  refine j_invV [] [] E (c_X11_needVariety h1) ml_X11_159 mv_X11_needVariety rfl ⟨le_ rfl, le_ rfl⟩ (rcX ok0 cf_X11 ent0) rfl rfl (le_ rfl) ⟨le_ rfl, le_ rfl⟩ dX11_bottlesOf_2 ?_
  refine j_aload_n E 0 rfl dX11_bottlesOf_5 ?_
  refine j_get (f := 1) E ok0 cf_X11 fl_X11_19 (lt_ rfl) rfl ent0 rfl dX11_bottlesOf_6 ?_
  refine j_getN (f := 3) E (okb10 jl1) cf_X0 fl_X11_143 (lt_ rfl) rfl ent10 rfl dX11_bottlesOf_9 ?_
  refine j_iload_n E 1 rfl dX11_bottlesOf_12 ?_
  obtain ⟨r1, h2, hf⟩ := bn1_e hf
  refine j_invV [] [.int r1] E (c_X2_stockOf jl1 h2) ml_X11_294 mv_X2_stockOf rfl ⟨le_ rfl, le_ rfl⟩ (rcX (okb23 jl1) cf_X2 ent23) rfl rfl (le_ rfl) ⟨le_ rfl, le_ rfl⟩ dX11_bottlesOf_13 ?_
  cases hf
  exact j_iret E rfl (le_ rfl) (le_ rfl) dX11_bottlesOf_16
def f_X11_missingCash (X : XT) : Option Int32 :=
  bn1 (f_X0_unpaidToAll X 1) (fun r1 => some (if 0 < (r1 - (X 10 1 0 6)) then (r1 - (X 10 1 0 6)) else 0))
set_option maxRecDepth 20000 in
theorem c_X11_missingCash {l : Launch} {D : DD} {z : Nat} {Y : YT} {X : XT} {r : Int32} (hf : f_X11_missingCash X = some r) : CC l yX11_missingCash cX11_missingCash 1 (some .int) (rmk 4 0 0) D z [.ref (z + aX 0 0 0)] (GG D z (X, Y)) (some (.int r)) (GG D z (X, Y)) := by
  unfold f_X11_missingCash at hf
  refine cc_of pn_X11 (le_ rfl) (ls := [(0, .ref (z + aX 0 0 0))]) rfl ?_
  intro p e s m args below meth c E
  refine j_iconst E 0 ic_0 dX11_missingCash_0 ?_
  refine j_aload_n E 0 rfl dX11_missingCash_1 ?_
  refine j_get (f := 1) E ok0 cf_X11 fl_X11_19 (lt_ rfl) rfl ent0 rfl dX11_missingCash_2 ?_
  obtain ⟨r1, h1, hf⟩ := bn1_e hf
  refine j_invV [.int 0] [.int r1, .int 0] E (c_X0_unpaidToAll jl1 h1) ml_X11_297 mv_X0_unpaidToAll rfl ⟨le_ rfl, le_ rfl⟩ (rcX (okb10 jl1) cf_X0 ent10) rfl rfl (le_ rfl) ⟨le_ rfl, le_ rfl⟩ dX11_missingCash_5 ?_
  refine j_aload_n E 0 rfl dX11_missingCash_8 ?_
  refine j_get (f := 1) E ok0 cf_X11 fl_X11_19 (lt_ rfl) rfl ent0 rfl dX11_missingCash_9 ?_
  refine j_getN (f := 6) E (okb10 jl1) cf_X0 fl_X11_300 (lt_ rfl) rfl ent10 rfl dX11_missingCash_12 ?_
  refine j_isub E dX11_missingCash_15 ?_
  refine j_max [] E ml_X11_303 st_Lib_Math_max_name in_J9 cd_Lib_Math_max_name (le_ rfl) (le_ rfl) (le_ rfl) (le_ rfl) dX11_missingCash_16 ?_
  cases hf
  exact j_iret E rfl (le_ rfl) (le_ rfl) dX11_missingCash_19
def f_X11_cash (X : XT) : Option Int32 :=
  some (X 10 1 0 6)
set_option maxRecDepth 20000 in
theorem c_X11_cash {l : Launch} {D : DD} {z : Nat} {Y : YT} {X : XT} {r : Int32} (hf : f_X11_cash X = some r) : CC l yX11_cash cX11_cash 1 (some .int) (rmk 1 0 0) D z [.ref (z + aX 0 0 0)] (GG D z (X, Y)) (some (.int r)) (GG D z (X, Y)) := by
  unfold f_X11_cash at hf
  refine cc_of pn_X11 (le_ rfl) (ls := [(0, .ref (z + aX 0 0 0))]) rfl ?_
  intro p e s m args below meth c E
  refine j_aload_n E 0 rfl dX11_cash_0 ?_
  refine j_get (f := 1) E ok0 cf_X11 fl_X11_19 (lt_ rfl) rfl ent0 rfl dX11_cash_1 ?_
  refine j_getN (f := 6) E (okb10 jl1) cf_X0 fl_X11_300 (lt_ rfl) rfl ent10 rfl dX11_cash_4 ?_
  cases hf
  exact j_iret E rfl (le_ rfl) (le_ rfl) dX11_cash_7
def f_X11_owedToAll (X : XT) : Option Int32 :=
  bn1 (f_X0_unpaidToAll X 1) (fun r1 => some r1)
set_option maxRecDepth 20000 in
theorem c_X11_owedToAll {l : Launch} {D : DD} {z : Nat} {Y : YT} {X : XT} {r : Int32} (hf : f_X11_owedToAll X = some r) : CC l yX11_owedToAll cX11_owedToAll 1 (some .int) (rmk 4 0 0) D z [.ref (z + aX 0 0 0)] (GG D z (X, Y)) (some (.int r)) (GG D z (X, Y)) := by
  unfold f_X11_owedToAll at hf
  refine cc_of pn_X11 (le_ rfl) (ls := [(0, .ref (z + aX 0 0 0))]) rfl ?_
  intro p e s m args below meth c E
  refine j_aload_n E 0 rfl dX11_owedToAll_0 ?_
  refine j_get (f := 1) E ok0 cf_X11 fl_X11_19 (lt_ rfl) rfl ent0 rfl dX11_owedToAll_1 ?_
  obtain ⟨r1, h1, hf⟩ := bn1_e hf
  refine j_invV [] [.int r1] E (c_X0_unpaidToAll jl1 h1) ml_X11_297 mv_X0_unpaidToAll rfl ⟨le_ rfl, le_ rfl⟩ (rcX (okb10 jl1) cf_X0 ent10) rfl rfl (le_ rfl) ⟨le_ rfl, le_ rfl⟩ dX11_owedToAll_4 ?_
  cases hf
  exact j_iret E rfl (le_ rfl) (le_ rfl) dX11_owedToAll_7
def f_X11_payableGrowers (X : XT) : Option Int32 :=
  bn1 (f_X0_countPayable X 1) (fun r1 => some r1)
set_option maxRecDepth 20000 in
theorem c_X11_payableGrowers {l : Launch} {D : DD} {z : Nat} {Y : YT} {X : XT} {r : Int32} (hf : f_X11_payableGrowers X = some r) : CC l yX11_payableGrowers cX11_payableGrowers 1 (some .int) (rmk 4 0 0) D z [.ref (z + aX 0 0 0)] (GG D z (X, Y)) (some (.int r)) (GG D z (X, Y)) := by
  unfold f_X11_payableGrowers at hf
  refine cc_of pn_X11 (le_ rfl) (ls := [(0, .ref (z + aX 0 0 0))]) rfl ?_
  intro p e s m args below meth c E
  refine j_aload_n E 0 rfl dX11_payableGrowers_0 ?_
  refine j_get (f := 1) E ok0 cf_X11 fl_X11_19 (lt_ rfl) rfl ent0 rfl dX11_payableGrowers_1 ?_
  obtain ⟨r1, h1, hf⟩ := bn1_e hf
  refine j_invV [] [.int r1] E (c_X0_countPayable jl1 h1) ml_X11_308 mv_X0_countPayable rfl ⟨le_ rfl, le_ rfl⟩ (rcX (okb10 jl1) cf_X0 ent10) rfl rfl (le_ rfl) ⟨le_ rfl, le_ rfl⟩ dX11_payableGrowers_4 ?_
  cases hf
  exact j_iret E rfl (le_ rfl) (le_ rfl) dX11_payableGrowers_7
def f_X11_bottleDifference (X : XT) : Option Int32 :=
  bn1 (f_X3_totalWeight X 1) (fun r1 => bn1 (f_X2_totalContent X 1) (fun r2 => bn1 (f_X2_totalBottled X 1) (fun r3 => some ((r1 - r2) - r3))))
set_option maxRecDepth 20000 in
theorem c_X11_bottleDifference {l : Launch} {D : DD} {z : Nat} {Y : YT} {X : XT} {r : Int32} (hf : f_X11_bottleDifference X = some r) : CC l yX11_bottleDifference cX11_bottleDifference 1 (some .int) (rmk 2 0 0) D z [.ref (z + aX 0 0 0)] (GG D z (X, Y)) (some (.int r)) (GG D z (X, Y)) := by
  unfold f_X11_bottleDifference at hf
  refine cc_of pn_X11 (le_ rfl) (ls := [(0, .ref (z + aX 0 0 0))]) rfl ?_
  intro p e s m args below meth c E
  refine j_aload_n E 0 rfl dX11_bottleDifference_0 ?_
  refine j_get (f := 1) E ok0 cf_X11 fl_X11_19 (lt_ rfl) rfl ent0 rfl dX11_bottleDifference_1 ?_
  refine j_getN (f := 2) E (okb10 jl1) cf_X0 fl_X11_104 (lt_ rfl) rfl ent10 rfl dX11_bottleDifference_4 ?_
  obtain ⟨r1, h1, hf⟩ := bn1_e hf
  refine j_invV [] [.int r1] E (c_X3_totalWeight jl1 h1) ml_X11_311 mv_X3_totalWeight rfl ⟨le_ rfl, le_ rfl⟩ (rcX (okb20 jl1) cf_X3 ent20) rfl rfl (le_ rfl) ⟨le_ rfl, le_ rfl⟩ dX11_bottleDifference_7 ?_
  refine j_aload_n E 0 rfl dX11_bottleDifference_10 ?_
  refine j_get (f := 1) E ok0 cf_X11 fl_X11_19 (lt_ rfl) rfl ent0 rfl dX11_bottleDifference_11 ?_
  refine j_getN (f := 3) E (okb10 jl1) cf_X0 fl_X11_143 (lt_ rfl) rfl ent10 rfl dX11_bottleDifference_14 ?_
  obtain ⟨r2, h2, hf⟩ := bn1_e hf
  refine j_invV [.int r1] [.int r2, .int r1] E (c_X2_totalContent jl1 h2) ml_X11_314 mv_X2_totalContent rfl ⟨le_ rfl, le_ rfl⟩ (rcX (okb23 jl1) cf_X2 ent23) rfl rfl (le_ rfl) ⟨le_ rfl, le_ rfl⟩ dX11_bottleDifference_17 ?_
  refine j_isub E dX11_bottleDifference_20 ?_
  refine j_aload_n E 0 rfl dX11_bottleDifference_21 ?_
  refine j_get (f := 1) E ok0 cf_X11 fl_X11_19 (lt_ rfl) rfl ent0 rfl dX11_bottleDifference_22 ?_
  refine j_getN (f := 3) E (okb10 jl1) cf_X0 fl_X11_143 (lt_ rfl) rfl ent10 rfl dX11_bottleDifference_25 ?_
  obtain ⟨r3, h3, hf⟩ := bn1_e hf
  refine j_invV [.int (r1 - r2)] [.int r3, .int (r1 - r2)] E (c_X2_totalBottled jl1 h3) ml_X11_317 mv_X2_totalBottled rfl ⟨le_ rfl, le_ rfl⟩ (rcX (okb23 jl1) cf_X2 ent23) rfl rfl (le_ rfl) ⟨le_ rfl, le_ rfl⟩ dX11_bottleDifference_28 ?_
  refine j_isub E dX11_bottleDifference_31 ?_
  cases hf
  exact j_iret E rfl (le_ rfl) (le_ rfl) dX11_bottleDifference_32
def f_X11_cashDifference (X : XT) : Option Int32 :=
  bn1 (f_X3_totalPayments X 1) (fun r1 => some ((((X 10 1 0 4) + (X 10 1 0 5)) - r1) - (X 10 1 0 6)))
set_option maxRecDepth 20000 in
theorem c_X11_cashDifference {l : Launch} {D : DD} {z : Nat} {Y : YT} {X : XT} {r : Int32} (hf : f_X11_cashDifference X = some r) : CC l yX11_cashDifference cX11_cashDifference 1 (some .int) (rmk 2 0 0) D z [.ref (z + aX 0 0 0)] (GG D z (X, Y)) (some (.int r)) (GG D z (X, Y)) := by
  unfold f_X11_cashDifference at hf
  refine cc_of pn_X11 (le_ rfl) (ls := [(0, .ref (z + aX 0 0 0))]) rfl ?_
  intro p e s m args below meth c E
  refine j_aload_n E 0 rfl dX11_cashDifference_0 ?_
  refine j_get (f := 1) E ok0 cf_X11 fl_X11_19 (lt_ rfl) rfl ent0 rfl dX11_cashDifference_1 ?_
  refine j_getN (f := 4) E (okb10 jl1) cf_X0 fl_X11_320 (lt_ rfl) rfl ent10 rfl dX11_cashDifference_4 ?_
  refine j_aload_n E 0 rfl dX11_cashDifference_7 ?_
  refine j_get (f := 1) E ok0 cf_X11 fl_X11_19 (lt_ rfl) rfl ent0 rfl dX11_cashDifference_8 ?_
  refine j_getN (f := 5) E (okb10 jl1) cf_X0 fl_X11_323 (lt_ rfl) rfl ent10 rfl dX11_cashDifference_11 ?_
  refine j_iadd E dX11_cashDifference_14 ?_
  refine j_aload_n E 0 rfl dX11_cashDifference_15 ?_
  refine j_get (f := 1) E ok0 cf_X11 fl_X11_19 (lt_ rfl) rfl ent0 rfl dX11_cashDifference_16 ?_
  refine j_getN (f := 2) E (okb10 jl1) cf_X0 fl_X11_104 (lt_ rfl) rfl ent10 rfl dX11_cashDifference_19 ?_
  obtain ⟨r1, h1, hf⟩ := bn1_e hf
  refine j_invV [.int ((X 10 1 0 4) + (X 10 1 0 5))] [.int r1, .int ((X 10 1 0 4) + (X 10 1 0 5))] E (c_X3_totalPayments jl1 h1) ml_X11_326 mv_X3_totalPayments rfl ⟨le_ rfl, le_ rfl⟩ (rcX (okb20 jl1) cf_X3 ent20) rfl rfl (le_ rfl) ⟨le_ rfl, le_ rfl⟩ dX11_cashDifference_22 ?_
  refine j_isub E dX11_cashDifference_25 ?_
  refine j_aload_n E 0 rfl dX11_cashDifference_26 ?_
  refine j_get (f := 1) E ok0 cf_X11 fl_X11_19 (lt_ rfl) rfl ent0 rfl dX11_cashDifference_27 ?_
  refine j_getN (f := 6) E (okb10 jl1) cf_X0 fl_X11_300 (lt_ rfl) rfl ent10 rfl dX11_cashDifference_30 ?_
  refine j_isub E dX11_cashDifference_33 ?_
  cases hf
  exact j_iret E rfl (le_ rfl) (le_ rfl) dX11_cashDifference_34
def f_X11_fullness (X : XT) : Option UInt32 :=
  bn1 (f_X2_totalCapacity X 1) (fun r1 => if r1 ≤ 0 then (some FP.fconst0) else (bn1 (f_X2_totalContent X 1) (fun r2 => gd ((FP.fdiv (FP.i2f r2) (FP.i2f r1)) &&& 0x7fffffff ≤ 0x7f800000) (some (FP.fdiv (FP.i2f r2) (FP.i2f r1))))))
set_option maxRecDepth 20000 in
theorem c_X11_fullness {l : Launch} {D : DD} {z : Nat} {Y : YT} {X : XT} {r : UInt32} (hf : f_X11_fullness X = some r) : CC l yX11_fullness cX11_fullness 2 (some .float) (rmk 2 0 0) D z [.ref (z + aX 0 0 0)] (GG D z (X, Y)) (some (.float r)) (GG D z (X, Y)) := by
  unfold f_X11_fullness at hf
  refine cc_of pn_X11 (le_ rfl) (ls := [(0, .ref (z + aX 0 0 0))]) rfl ?_
  intro p e s m args below meth c E
  refine j_aload_n E 0 rfl dX11_fullness_0 ?_
  refine j_get (f := 1) E ok0 cf_X11 fl_X11_19 (lt_ rfl) rfl ent0 rfl dX11_fullness_1 ?_
  refine j_getN (f := 3) E (okb10 jl1) cf_X0 fl_X11_143 (lt_ rfl) rfl ent10 rfl dX11_fullness_4 ?_
  obtain ⟨r1, h1, hf⟩ := bn1_e hf
  refine j_invV [] [.int r1] E (c_X2_totalCapacity jl1 h1) ml_X11_329 mv_X2_totalCapacity rfl ⟨le_ rfl, le_ rfl⟩ (rcX (okb23 jl1) cf_X2 ent23) rfl rfl (le_ rfl) ⟨le_ rfl, le_ rfl⟩ dX11_fullness_7 ?_
  refine j_istore_n (ls' := [(1, .int r1), (0, .ref (z + aX 0 0 0))]) E (lt_ rfl) rfl dX11_fullness_10 ?_
  refine j_iload_n E 0 rfl dX11_fullness_11 ?_
  refine j_if_le E 32 (by decide) dX11_fullness_12 (fun c1 => ?_) (fun c1 => ?_)
  · rw [if_pos c1] at hf
    refine j_fconst0 E dX11_fullness_32 ?_
    cases hf
    exact j_fret E (le_ rfl) (le_ rfl) dX11_fullness_33
  · rw [if_neg c1] at hf
    refine j_aload_n E 1 rfl dX11_fullness_15 ?_
    refine j_get (f := 1) E ok0 cf_X11 fl_X11_19 (lt_ rfl) rfl ent0 rfl dX11_fullness_16 ?_
    refine j_getN (f := 3) E (okb10 jl1) cf_X0 fl_X11_143 (lt_ rfl) rfl ent10 rfl dX11_fullness_19 ?_
    obtain ⟨r2, h2, hf⟩ := bn1_e hf
    refine j_invV [] [.int r2] E (c_X2_totalContent jl1 h2) ml_X11_314 mv_X2_totalContent rfl ⟨le_ rfl, le_ rfl⟩ (rcX (okb23 jl1) cf_X2 ent23) rfl rfl (le_ rfl) ⟨le_ rfl, le_ rfl⟩ dX11_fullness_22 ?_
    refine j_i2f E dX11_fullness_25 ?_
    refine j_iload_n E 0 rfl dX11_fullness_26 ?_
    refine j_i2f E dX11_fullness_27 ?_
    obtain ⟨g1, hf⟩ := gd_e hf
    refine j_fdiv E g1 dX11_fullness_28 ?_
    refine j_goto E 33 (by decide) dX11_fullness_29 ?_
    cases hf
    exact j_fret E (le_ rfl) (le_ rfl) dX11_fullness_33
def f_X11_averageSugar (X : XT) : Option UInt64 :=
  bn1 (f_X3_totalWeight X 1) (fun r1 => if r1 ≤ 0 then (some FP.dconst0) else (bn1 (f_X3_totalSugar X 1) (fun r2 => gd ((FP.ddiv (FP.i2d r2) (FP.i2d r1)) &&& 0x7fffffffffffffff ≤ 0x7ff0000000000000) (some (FP.ddiv (FP.i2d r2) (FP.i2d r1))))))
set_option maxRecDepth 20000 in
theorem c_X11_averageSugar {l : Launch} {D : DD} {z : Nat} {Y : YT} {X : XT} {r : UInt64} (hf : f_X11_averageSugar X = some r) : CC l yX11_averageSugar cX11_averageSugar 2 (some .double) (rmk 2 0 0) D z [.ref (z + aX 0 0 0)] (GG D z (X, Y)) (some (.double r)) (GG D z (X, Y)) := by
  unfold f_X11_averageSugar at hf
  refine cc_of pn_X11 (le_ rfl) (ls := [(0, .ref (z + aX 0 0 0))]) rfl ?_
  intro p e s m args below meth c E
  refine j_aload_n E 0 rfl dX11_averageSugar_0 ?_
  refine j_get (f := 1) E ok0 cf_X11 fl_X11_19 (lt_ rfl) rfl ent0 rfl dX11_averageSugar_1 ?_
  refine j_getN (f := 2) E (okb10 jl1) cf_X0 fl_X11_104 (lt_ rfl) rfl ent10 rfl dX11_averageSugar_4 ?_
  obtain ⟨r1, h1, hf⟩ := bn1_e hf
  refine j_invV [] [.int r1] E (c_X3_totalWeight jl1 h1) ml_X11_311 mv_X3_totalWeight rfl ⟨le_ rfl, le_ rfl⟩ (rcX (okb20 jl1) cf_X3 ent20) rfl rfl (le_ rfl) ⟨le_ rfl, le_ rfl⟩ dX11_averageSugar_7 ?_
  refine j_istore_n (ls' := [(1, .int r1), (0, .ref (z + aX 0 0 0))]) E (lt_ rfl) rfl dX11_averageSugar_10 ?_
  refine j_iload_n E 0 rfl dX11_averageSugar_11 ?_
  refine j_if_le E 32 (by decide) dX11_averageSugar_12 (fun c1 => ?_) (fun c1 => ?_)
  · rw [if_pos c1] at hf
    refine j_dconst0 E dX11_averageSugar_32 ?_
    cases hf
    exact j_dret E (le_ rfl) (le_ rfl) dX11_averageSugar_33
  · rw [if_neg c1] at hf
    refine j_aload_n E 1 rfl dX11_averageSugar_15 ?_
    refine j_get (f := 1) E ok0 cf_X11 fl_X11_19 (lt_ rfl) rfl ent0 rfl dX11_averageSugar_16 ?_
    refine j_getN (f := 2) E (okb10 jl1) cf_X0 fl_X11_104 (lt_ rfl) rfl ent10 rfl dX11_averageSugar_19 ?_
    obtain ⟨r2, h2, hf⟩ := bn1_e hf
    refine j_invV [] [.int r2] E (c_X3_totalSugar jl1 h2) ml_X11_332 mv_X3_totalSugar rfl ⟨le_ rfl, le_ rfl⟩ (rcX (okb20 jl1) cf_X3 ent20) rfl rfl (le_ rfl) ⟨le_ rfl, le_ rfl⟩ dX11_averageSugar_22 ?_
    refine j_i2d E dX11_averageSugar_25 ?_
    refine j_iload_n E 0 rfl dX11_averageSugar_26 ?_
    refine j_i2d E dX11_averageSugar_27 ?_
    obtain ⟨g1, hf⟩ := gd_e hf
    refine j_ddiv E g1 dX11_averageSugar_28 ?_
    refine j_goto E 33 (by decide) dX11_averageSugar_29 ?_
    cases hf
    exact j_dret E (le_ rfl) (le_ rfl) dX11_averageSugar_33
def f_X11_deliver (X : XT) (v1 : Int32) (v2 : Int32) (v3 : Int32) : Option (Int32 × XT) :=
  bn1 (f_X11_needPlot X v1) (fun _ => bn1 (f_X11_needWeight v2) (fun _ => bn1 (f_X11_needSugar v3) (fun _ => bn1 (f_X0_reasonAgainst X 1 v1 v2 v3) (fun r1 => if r1 = 0 then (bn1 (f_X4_note X 1) (fun X1 => bn2 (f_X0_accept X1 1 v1 v2 v3) (fun r2 X2 => some (r2, X2)))) else (none)))))
set_option maxRecDepth 20000 in
theorem c_X11_deliver {l : Launch} {D : DD} {z : Nat} {Y : YT} {X : XT} {v1 : Int32} {v2 : Int32} {v3 : Int32} {r : Int32} {X' : XT} (hf : f_X11_deliver X v1 v2 v3 = some (r, X')) : CC l yX11_deliver cX11_deliver 4 (some .int) (rmk 5 0 0) D z [.ref (z + aX 0 0 0), .int v1, .int v2, .int v3] (GG D z (X, Y)) (some (.int r)) (GG D z (X', Y)) := by
  unfold f_X11_deliver at hf
  refine cc_of pn_X11 (le_ rfl) (ls := [(0, .ref (z + aX 0 0 0)), (1, .int v1), (2, .int v2), (3, .int v3)]) rfl ?_
  intro p e s m args below meth c E
  refine j_aload_n E 0 rfl dX11_deliver_0 ?_
  refine j_iload_n E 1 rfl dX11_deliver_1 ?_
  obtain ⟨_, h1, hf⟩ := bn1_e hf
  refine j_invV [] [] E (c_X11_needPlot h1) ml_X11_208 mv_X11_needPlot rfl ⟨le_ rfl, le_ rfl⟩ (rcX ok0 cf_X11 ent0) rfl rfl (le_ rfl) ⟨le_ rfl, le_ rfl⟩ dX11_deliver_2 ?_
  refine j_iload_n E 2 rfl dX11_deliver_5 ?_
  obtain ⟨_, h2, hf⟩ := bn1_e hf
  refine j_invS [] [] E (c_X11_needWeight h2) ml_X11_261 ms_X11_needWeight rfl ⟨le_ rfl, le_ rfl⟩ rfl rfl (le_ rfl) ⟨le_ rfl, le_ rfl⟩ dX11_deliver_6 ?_
  refine j_iload_n E 3 rfl dX11_deliver_9 ?_
  obtain ⟨_, h3, hf⟩ := bn1_e hf
  refine j_invS [] [] E (c_X11_needSugar h3) ml_X11_152 ms_X11_needSugar rfl ⟨le_ rfl, le_ rfl⟩ rfl rfl (le_ rfl) ⟨le_ rfl, le_ rfl⟩ dX11_deliver_10 ?_
  refine j_aload_n E 0 rfl dX11_deliver_13 ?_
  refine j_get (f := 1) E ok0 cf_X11 fl_X11_19 (lt_ rfl) rfl ent0 rfl dX11_deliver_14 ?_
  refine j_iload_n E 1 rfl dX11_deliver_17 ?_
  refine j_iload_n E 2 rfl dX11_deliver_18 ?_
  refine j_iload_n E 3 rfl dX11_deliver_19 ?_
  obtain ⟨r1, h4, hf⟩ := bn1_e hf
  refine j_invV [] [.int r1] E (c_X0_reasonAgainst jl1 h4) ml_X11_270 mv_X0_reasonAgainst rfl ⟨le_ rfl, le_ rfl⟩ (rcX (okb10 jl1) cf_X0 ent10) rfl rfl (le_ rfl) ⟨le_ rfl, le_ rfl⟩ dX11_deliver_20 ?_
  refine j_if_eq E 37 (by decide) dX11_deliver_23 (fun c1 => ?_) (fun c1 => ?_)
  · rw [if_pos c1] at hf
    refine j_aload_n E 0 rfl dX11_deliver_37 ?_
    refine j_get (f := 2) E ok0 cf_X11 fl_X11_26 (lt_ rfl) rfl ent0 rfl dX11_deliver_38 ?_
    refine j_aload_n E 0 rfl dX11_deliver_41 ?_
    refine j_get (f := 1) E ok0 cf_X11 fl_X11_19 (lt_ rfl) rfl ent0 rfl dX11_deliver_42 ?_
    obtain ⟨X1, h5, hf⟩ := bn1_e hf
    refine j_invV [] [] E (c_X4_note jl1 h5) ml_X11_101 mv_X4_note rfl ⟨le_ rfl, le_ rfl⟩ (rcX ok4 cf_X4 ent4) rfl rfl (le_ rfl) ⟨le_ rfl, le_ rfl⟩ dX11_deliver_45 ?_
    refine j_aload_n E 0 rfl dX11_deliver_48 ?_
    refine j_get (f := 1) E ok0 cf_X11 fl_X11_19 (lt_ rfl) rfl ent0 rfl dX11_deliver_49 ?_
    refine j_iload_n E 1 rfl dX11_deliver_52 ?_
    refine j_iload_n E 2 rfl dX11_deliver_53 ?_
    refine j_iload_n E 3 rfl dX11_deliver_54 ?_
    obtain ⟨r2, X2, h6, hf⟩ := bn2_e hf
    refine j_invV [] [.int r2] E (c_X0_accept jl1 h6) ml_X11_337 mv_X0_accept rfl ⟨le_ rfl, le_ rfl⟩ (rcX (okb10 jl1) cf_X0 ent10) rfl rfl (le_ rfl) ⟨le_ rfl, le_ rfl⟩ dX11_deliver_55 ?_
    cases hf
    exact j_iret E rfl (le_ rfl) (le_ rfl) dX11_deliver_58
  · rw [if_neg c1] at hf
    exact none_e hf
def f_X11_setPrice (X : XT) (v1 : Int32) (v2 : Int32) (v3 : Int32) : Option (Int32 × XT) :=
  bn1 (f_X11_needVariety X v1) (fun _ => bn1 (f_X11_needClass X v2) (fun _ => if v3 < 0 then (none) else (if v3 ≤ 999 then (bn1 (f_X4_note X 1) (fun X1 => bn1 (f_X1_centsFor X1 1 v1 v2) (fun r1 => bn1 (f_X1_putPrice X1 1 v1 v2 v3) (fun X2 => some (r1, X2))))) else (none))))
set_option maxRecDepth 20000 in
theorem c_X11_setPrice {l : Launch} {D : DD} {z : Nat} {Y : YT} {X : XT} {v1 : Int32} {v2 : Int32} {v3 : Int32} {r : Int32} {X' : XT} (hf : f_X11_setPrice X v1 v2 v3 = some (r, X')) : CC l yX11_setPrice cX11_setPrice 5 (some .int) (rmk 5 0 0) D z [.ref (z + aX 0 0 0), .int v1, .int v2, .int v3] (GG D z (X, Y)) (some (.int r)) (GG D z (X', Y)) := by
  unfold f_X11_setPrice at hf
  refine cc_of pn_X11 (le_ rfl) (ls := [(0, .ref (z + aX 0 0 0)), (1, .int v1), (2, .int v2), (3, .int v3)]) rfl ?_
  intro p e s m args below meth c E
  refine j_aload_n E 0 rfl dX11_setPrice_0 ?_
  refine j_iload_n E 1 rfl dX11_setPrice_1 ?_
  obtain ⟨_, h1, hf⟩ := bn1_e hf
  refine j_invV [] [] E (c_X11_needVariety h1) ml_X11_159 mv_X11_needVariety rfl ⟨le_ rfl, le_ rfl⟩ (rcX ok0 cf_X11 ent0) rfl rfl (le_ rfl) ⟨le_ rfl, le_ rfl⟩ dX11_setPrice_2 ?_
  refine j_aload_n E 0 rfl dX11_setPrice_5 ?_
  refine j_iload_n E 2 rfl dX11_setPrice_6 ?_
  obtain ⟨_, h2, hf⟩ := bn1_e hf
  refine j_invV [] [] E (c_X11_needClass h2) ml_X11_162 mv_X11_needClass rfl ⟨le_ rfl, le_ rfl⟩ (rcX ok0 cf_X11 ent0) rfl rfl (le_ rfl) ⟨le_ rfl, le_ rfl⟩ dX11_setPrice_7 ?_
  refine j_iload_n E 3 rfl dX11_setPrice_10 ?_
  refine j_if_lt E 21 (by decide) dX11_setPrice_11 (fun c1 => ?_) (fun c1 => ?_)
  · rw [if_pos c1] at hf
    exact none_e hf
  · rw [if_neg c1] at hf
    refine j_iload_n E 3 rfl dX11_setPrice_14 ?_
    refine j_sipush E 999 sp_999 dX11_setPrice_15 ?_
    refine j_icmp_le E 32 (by decide) dX11_setPrice_18 (fun c2 => ?_) (fun c2 => ?_)
    · rw [if_pos c2] at hf
      refine j_aload_n E 0 rfl dX11_setPrice_32 ?_
      refine j_get (f := 2) E ok0 cf_X11 fl_X11_26 (lt_ rfl) rfl ent0 rfl dX11_setPrice_33 ?_
      refine j_aload_n E 0 rfl dX11_setPrice_36 ?_
      refine j_get (f := 1) E ok0 cf_X11 fl_X11_19 (lt_ rfl) rfl ent0 rfl dX11_setPrice_37 ?_
      obtain ⟨X1, h3, hf⟩ := bn1_e hf
      refine j_invV [] [] E (c_X4_note jl1 h3) ml_X11_101 mv_X4_note rfl ⟨le_ rfl, le_ rfl⟩ (rcX ok4 cf_X4 ent4) rfl rfl (le_ rfl) ⟨le_ rfl, le_ rfl⟩ dX11_setPrice_40 ?_
      refine j_aload_n E 0 rfl dX11_setPrice_43 ?_
      refine j_get (f := 1) E ok0 cf_X11 fl_X11_19 (lt_ rfl) rfl ent0 rfl dX11_setPrice_44 ?_
      refine j_getN (f := 0) E (okb10 jl1) cf_X0 fl_X11_119 (lt_ rfl) rfl ent10 rfl dX11_setPrice_47 ?_
      refine j_iload_n E 1 rfl dX11_setPrice_50 ?_
      refine j_iload_n E 2 rfl dX11_setPrice_51 ?_
      obtain ⟨r1, h4, hf⟩ := bn1_e hf
      refine j_invV [] [.int r1] E (c_X1_centsFor jl1 h4) ml_X11_165 mv_X1_centsFor rfl ⟨le_ rfl, le_ rfl⟩ (rcX (okb11 jl1) cf_X1 ent11) rfl rfl (le_ rfl) ⟨le_ rfl, le_ rfl⟩ dX11_setPrice_52 ?_
      refine j_istore (ls' := [(4, .int r1), (0, .ref (z + aX 0 0 0)), (1, .int v1), (2, .int v2), (3, .int v3)]) E (lt_ rfl) rfl dX11_setPrice_55 ?_
      refine j_aload_n E 1 rfl dX11_setPrice_57 ?_
      refine j_get (f := 1) E ok0 cf_X11 fl_X11_19 (lt_ rfl) rfl ent0 rfl dX11_setPrice_58 ?_
      refine j_getN (f := 0) E (okb10 jl1) cf_X0 fl_X11_119 (lt_ rfl) rfl ent10 rfl dX11_setPrice_61 ?_
      refine j_iload_n E 2 rfl dX11_setPrice_64 ?_
      refine j_iload_n E 3 rfl dX11_setPrice_65 ?_
      refine j_iload_n E 4 rfl dX11_setPrice_66 ?_
      obtain ⟨X2, h5, hf⟩ := bn1_e hf
      refine j_invV [] [] E (c_X1_putPrice jl1 h5) ml_X11_342 mv_X1_putPrice rfl ⟨le_ rfl, le_ rfl⟩ (rcX (okb11 jl1) cf_X1 ent11) rfl rfl (le_ rfl) ⟨le_ rfl, le_ rfl⟩ dX11_setPrice_67 ?_
      refine j_iload E 0 rfl dX11_setPrice_70 ?_
      cases hf
      exact j_iret E rfl (le_ rfl) (le_ rfl) dX11_setPrice_72
    · rw [if_neg c2] at hf
      exact none_e hf
def f_X11_needBottles (v0 : Int32) : Option Unit :=
  if v0 < 1 then (none) else (if v0 ≤ 20000 then (some ()) else (none))
set_option maxRecDepth 20000 in
theorem c_X11_needBottles {l : Launch} {D : DD} {z : Nat} {P0 : Heap → Prop} {v0 : Int32} (hf : f_X11_needBottles v0 = some ()) : CC l yX11_needBottles cX11_needBottles 1 none (rmk 1 0 0) D z [.int v0] P0 none P0 := by
  unfold f_X11_needBottles at hf
  refine cc_of pn_X11 (le_ rfl) (ls := [(0, .int v0)]) rfl ?_
  intro p e s m args below meth c E
  refine j_iload_n E 0 rfl dX11_needBottles_0 ?_
  refine j_iconst E 1 ic_1 dX11_needBottles_1 ?_
  refine j_icmp_lt E 12 (by decide) dX11_needBottles_2 (fun c1 => ?_) (fun c1 => ?_)
  · rw [if_pos c1] at hf
    exact none_e hf
  · rw [if_neg c1] at hf
    refine j_iload_n E 0 rfl dX11_needBottles_5 ?_
    refine j_sipush E 20000 sp_20000 dX11_needBottles_6 ?_
    refine j_icmp_le E 23 (by decide) dX11_needBottles_9 (fun c2 => ?_) (fun c2 => ?_)
    · rw [if_pos c2] at hf
      exact j_vret E (le_ rfl) (le_ rfl) dX11_needBottles_23
    · rw [if_neg c2] at hf
      exact none_e hf
def f_X11_bottle (X : XT) (v1 : Int32) (v2 : Int32) : Option (Int32 × XT) :=
  bn1 (f_X11_knownTank X v1) (fun r1 => gd (r1 < 5) (bn1 (f_X11_needBottles v2) (fun _ => bn1 (f_X2_canFillLot X 1 1 r1 v2) (fun r2 => if r2 = 0 then (none) else (bn1 (f_X4_note X 1) (fun X1 => bn2 (f_X2_fillLot X1 1 1 r1 v2) (fun r3 X2 => some (r3, X2))))))))
set_option maxRecDepth 20000 in
theorem c_X11_bottle {l : Launch} {D : DD} {z : Nat} {Y : YT} {X : XT} {v1 : Int32} {v2 : Int32} {r : Int32} {X' : XT} (hf : f_X11_bottle X v1 v2 = some (r, X')) : CC l yX11_bottle cX11_bottle 4 (some .int) (rmk 5 0 0) D z [.ref (z + aX 0 0 0), .int v1, .int v2] (GG D z (X, Y)) (some (.int r)) (GG D z (X', Y)) := by
  unfold f_X11_bottle at hf
  refine cc_of pn_X11 (le_ rfl) (ls := [(0, .ref (z + aX 0 0 0)), (1, .int v1), (2, .int v2)]) rfl ?_
  intro p e s m args below meth c E
  refine j_aload_n E 0 rfl dX11_bottle_0 ?_
  refine j_iload_n E 1 rfl dX11_bottle_1 ?_
  obtain ⟨r1, h1, hf⟩ := bn1_e hf
  obtain ⟨g1, hf⟩ := gd_e hf
  refine j_invV [] [.ref (z + aX 26 1 r1)] E (c_X11_knownTank h1) ml_X11_246 mv_X11_knownTank rfl ⟨le_ rfl, le_ rfl⟩ (rcX ok0 cf_X11 ent0) rfl rfl (le_ rfl) ⟨le_ rfl, le_ rfl⟩ dX11_bottle_2 ?_
  refine j_astore_n (ls' := [(3, .ref (z + aX 26 1 r1)), (0, .ref (z + aX 0 0 0)), (1, .int v1), (2, .int v2)]) E (lt_ rfl) rfl dX11_bottle_5 ?_
  refine j_iload_n E 3 rfl dX11_bottle_6 ?_
  obtain ⟨_, h2, hf⟩ := bn1_e hf
  refine j_invS [] [] E (c_X11_needBottles h2) ml_X11_346 ms_X11_needBottles rfl ⟨le_ rfl, le_ rfl⟩ rfl rfl (le_ rfl) ⟨le_ rfl, le_ rfl⟩ dX11_bottle_7 ?_
  refine j_aload_n E 1 rfl dX11_bottle_10 ?_
  refine j_get (f := 1) E ok0 cf_X11 fl_X11_19 (lt_ rfl) rfl ent0 rfl dX11_bottle_11 ?_
  refine j_getN (f := 3) E (okb10 jl1) cf_X0 fl_X11_143 (lt_ rfl) rfl ent10 rfl dX11_bottle_14 ?_
  refine j_aload_n E 0 rfl dX11_bottle_17 ?_
  refine j_iload_n E 3 rfl dX11_bottle_18 ?_
  obtain ⟨r2, h3, hf⟩ := bn1_e hf
  refine j_invV [] [.int r2] E (c_X2_canFillLot jl1 jl1 g1 h3) ml_X11_349 mv_X2_canFillLot rfl ⟨le_ rfl, le_ rfl⟩ (rcX (okb23 jl1) cf_X2 ent23) rfl rfl (le_ rfl) ⟨le_ rfl, le_ rfl⟩ dX11_bottle_19 ?_
  refine j_if_ne E 36 (by decide) dX11_bottle_22 (fun c1 => ?_) (fun c1 => ?_)
  · rw [if_neg c1] at hf
    refine j_aload_n E 1 rfl dX11_bottle_36 ?_
    refine j_get (f := 2) E ok0 cf_X11 fl_X11_26 (lt_ rfl) rfl ent0 rfl dX11_bottle_37 ?_
    refine j_aload_n E 1 rfl dX11_bottle_40 ?_
    refine j_get (f := 1) E ok0 cf_X11 fl_X11_19 (lt_ rfl) rfl ent0 rfl dX11_bottle_41 ?_
    obtain ⟨X1, h4, hf⟩ := bn1_e hf
    refine j_invV [] [] E (c_X4_note jl1 h4) ml_X11_101 mv_X4_note rfl ⟨le_ rfl, le_ rfl⟩ (rcX ok4 cf_X4 ent4) rfl rfl (le_ rfl) ⟨le_ rfl, le_ rfl⟩ dX11_bottle_44 ?_
    refine j_aload_n E 1 rfl dX11_bottle_47 ?_
    refine j_get (f := 1) E ok0 cf_X11 fl_X11_19 (lt_ rfl) rfl ent0 rfl dX11_bottle_48 ?_
    refine j_getN (f := 3) E (okb10 jl1) cf_X0 fl_X11_143 (lt_ rfl) rfl ent10 rfl dX11_bottle_51 ?_
    refine j_aload_n E 0 rfl dX11_bottle_54 ?_
    refine j_iload_n E 3 rfl dX11_bottle_55 ?_
    obtain ⟨r3, X2, h5, hf⟩ := bn2_e hf
    refine j_invV [] [.int r3] E (c_X2_fillLot jl1 jl1 g1 h5) ml_X11_355 mv_X2_fillLot rfl ⟨le_ rfl, le_ rfl⟩ (rcX (okb23 jl1) cf_X2 ent23) rfl rfl (le_ rfl) ⟨le_ rfl, le_ rfl⟩ dX11_bottle_56 ?_
    cases hf
    exact j_iret E rfl (le_ rfl) (le_ rfl) dX11_bottle_59
  · rw [if_pos c1] at hf
    exact none_e hf
def f_X11_sell (X : XT) (v1 : Int32) (v2 : Int32) (v3 : Int32) : Option (Int32 × XT) :=
  bn1 (f_X11_knownLot X v1) (fun r1 => gd (r1 < 12) (bn1 (f_X11_needBottles v2) (fun _ => if v3 < 1 then (none) else (if v3 ≤ 9999 then (bn1 (f_X0_canTrade X 1 1 r1 v2 v3) (fun r2 => if r2 = 0 then (none) else (bn1 (f_X4_note X 1) (fun X1 => bn1 (f_X0_trade X1 1 1 r1 v2 v3) (fun X2 => some ((X2 10 1 0 6), X2)))))) else (none)))))
set_option maxRecDepth 20000 in
theorem c_X11_sell {l : Launch} {D : DD} {z : Nat} {Y : YT} {X : XT} {v1 : Int32} {v2 : Int32} {v3 : Int32} {r : Int32} {X' : XT} (hf : f_X11_sell X v1 v2 v3 = some (r, X')) : CC l yX11_sell cX11_sell 5 (some .int) (rmk 5 0 0) D z [.ref (z + aX 0 0 0), .int v1, .int v2, .int v3] (GG D z (X, Y)) (some (.int r)) (GG D z (X', Y)) := by
  unfold f_X11_sell at hf
  refine cc_of pn_X11 (le_ rfl) (ls := [(0, .ref (z + aX 0 0 0)), (1, .int v1), (2, .int v2), (3, .int v3)]) rfl ?_
  intro p e s m args below meth c E
  refine j_aload_n E 0 rfl dX11_sell_0 ?_
  refine j_iload_n E 1 rfl dX11_sell_1 ?_
  obtain ⟨r1, h1, hf⟩ := bn1_e hf
  obtain ⟨g1, hf⟩ := gd_e hf
  refine j_invV [] [.ref (z + aX 27 1 r1)] E (c_X11_knownLot h1) ml_X11_280 mv_X11_knownLot rfl ⟨le_ rfl, le_ rfl⟩ (rcX ok0 cf_X11 ent0) rfl rfl (le_ rfl) ⟨le_ rfl, le_ rfl⟩ dX11_sell_2 ?_
  refine j_astore (ls' := [(4, .ref (z + aX 27 1 r1)), (0, .ref (z + aX 0 0 0)), (1, .int v1), (2, .int v2), (3, .int v3)]) E (lt_ rfl) rfl dX11_sell_5 ?_
  refine j_iload_n E 3 rfl dX11_sell_7 ?_
  obtain ⟨_, h2, hf⟩ := bn1_e hf
  refine j_invS [] [] E (c_X11_needBottles h2) ml_X11_346 ms_X11_needBottles rfl ⟨le_ rfl, le_ rfl⟩ rfl rfl (le_ rfl) ⟨le_ rfl, le_ rfl⟩ dX11_sell_8 ?_
  refine j_iload_n E 4 rfl dX11_sell_11 ?_
  refine j_iconst E 1 ic_1 dX11_sell_12 ?_
  refine j_icmp_lt E 23 (by decide) dX11_sell_13 (fun c1 => ?_) (fun c1 => ?_)
  · rw [if_pos c1] at hf
    exact none_e hf
  · rw [if_neg c1] at hf
    refine j_iload_n E 4 rfl dX11_sell_16 ?_
    refine j_sipush E 9999 sp_9999 dX11_sell_17 ?_
    refine j_icmp_le E 34 (by decide) dX11_sell_20 (fun c2 => ?_) (fun c2 => ?_)
    · rw [if_pos c2] at hf
      refine j_aload_n E 1 rfl dX11_sell_34 ?_
      refine j_get (f := 1) E ok0 cf_X11 fl_X11_19 (lt_ rfl) rfl ent0 rfl dX11_sell_35 ?_
      refine j_aload E 0 rfl dX11_sell_38 ?_
      refine j_iload_n E 3 rfl dX11_sell_40 ?_
      refine j_iload_n E 4 rfl dX11_sell_41 ?_
      obtain ⟨r2, h3, hf⟩ := bn1_e hf
      refine j_invV [] [.int r2] E (c_X0_canTrade jl1 jl1 g1 h3) ml_X11_361 mv_X0_canTrade rfl ⟨le_ rfl, le_ rfl⟩ (rcX (okb10 jl1) cf_X0 ent10) rfl rfl (le_ rfl) ⟨le_ rfl, le_ rfl⟩ dX11_sell_42 ?_
      refine j_if_ne E 59 (by decide) dX11_sell_45 (fun c3 => ?_) (fun c3 => ?_)
      · rw [if_neg c3] at hf
        refine j_aload_n E 1 rfl dX11_sell_59 ?_
        refine j_get (f := 2) E ok0 cf_X11 fl_X11_26 (lt_ rfl) rfl ent0 rfl dX11_sell_60 ?_
        refine j_aload_n E 1 rfl dX11_sell_63 ?_
        refine j_get (f := 1) E ok0 cf_X11 fl_X11_19 (lt_ rfl) rfl ent0 rfl dX11_sell_64 ?_
        obtain ⟨X1, h4, hf⟩ := bn1_e hf
        refine j_invV [] [] E (c_X4_note jl1 h4) ml_X11_101 mv_X4_note rfl ⟨le_ rfl, le_ rfl⟩ (rcX ok4 cf_X4 ent4) rfl rfl (le_ rfl) ⟨le_ rfl, le_ rfl⟩ dX11_sell_67 ?_
        refine j_aload_n E 1 rfl dX11_sell_70 ?_
        refine j_get (f := 1) E ok0 cf_X11 fl_X11_19 (lt_ rfl) rfl ent0 rfl dX11_sell_71 ?_
        refine j_aload E 0 rfl dX11_sell_74 ?_
        refine j_iload_n E 3 rfl dX11_sell_76 ?_
        refine j_iload_n E 4 rfl dX11_sell_77 ?_
        obtain ⟨X2, h5, hf⟩ := bn1_e hf
        refine j_invV [] [] E (c_X0_trade jl1 jl1 g1 h5) ml_X11_367 mv_X0_trade rfl ⟨le_ rfl, le_ rfl⟩ (rcX (okb10 jl1) cf_X0 ent10) rfl rfl (le_ rfl) ⟨le_ rfl, le_ rfl⟩ dX11_sell_78 ?_
        refine j_aload_n E 1 rfl dX11_sell_81 ?_
        refine j_get (f := 1) E ok0 cf_X11 fl_X11_19 (lt_ rfl) rfl ent0 rfl dX11_sell_82 ?_
        refine j_getN (f := 6) E (okb10 jl1) cf_X0 fl_X11_300 (lt_ rfl) rfl ent10 rfl dX11_sell_85 ?_
        cases hf
        exact j_iret E rfl (le_ rfl) (le_ rfl) dX11_sell_88
      · rw [if_pos c3] at hf
        exact none_e hf
    · rw [if_neg c2] at hf
      exact none_e hf
def f_X11_payLoad (X : XT) (v1 : Int32) : Option (Int32 × XT) :=
  bn1 (f_X11_knownLoad X v1) (fun r1 => gd (r1 < 20) (bn1 (f_X0_centsOf X 1 1 r1) (fun r2 => if (X 22 1 r1 7) = 0 then (if r2 ≤ (X 10 1 0 6) then (bn1 (f_X4_note X 1) (fun X1 => bn2 (f_X0_settle X1 1 1 r1 r2) (fun r3 X2 => some (r3, X2)))) else (none)) else (none))))
set_option maxRecDepth 20000 in
theorem c_X11_payLoad {l : Launch} {D : DD} {z : Nat} {Y : YT} {X : XT} {v1 : Int32} {r : Int32} {X' : XT} (hf : f_X11_payLoad X v1 = some (r, X')) : CC l yX11_payLoad cX11_payLoad 4 (some .int) (rmk 5 0 0) D z [.ref (z + aX 0 0 0), .int v1] (GG D z (X, Y)) (some (.int r)) (GG D z (X', Y)) := by
  unfold f_X11_payLoad at hf
  refine cc_of pn_X11 (le_ rfl) (ls := [(0, .ref (z + aX 0 0 0)), (1, .int v1)]) rfl ?_
  intro p e s m args below meth c E
  refine j_aload_n E 0 rfl dX11_payLoad_0 ?_
  refine j_iload_n E 1 rfl dX11_payLoad_1 ?_
  obtain ⟨r1, h1, hf⟩ := bn1_e hf
  obtain ⟨g1, hf⟩ := gd_e hf
  refine j_invV [] [.ref (z + aX 22 1 r1)] E (c_X11_knownLoad h1) ml_X11_220 mv_X11_knownLoad rfl ⟨le_ rfl, le_ rfl⟩ (rcX ok0 cf_X11 ent0) rfl rfl (le_ rfl) ⟨le_ rfl, le_ rfl⟩ dX11_payLoad_2 ?_
  refine j_astore_n (ls' := [(2, .ref (z + aX 22 1 r1)), (0, .ref (z + aX 0 0 0)), (1, .int v1)]) E (lt_ rfl) rfl dX11_payLoad_5 ?_
  refine j_aload_n E 1 rfl dX11_payLoad_6 ?_
  refine j_get (f := 1) E ok0 cf_X11 fl_X11_19 (lt_ rfl) rfl ent0 rfl dX11_payLoad_7 ?_
  refine j_aload_n E 0 rfl dX11_payLoad_10 ?_
  obtain ⟨r2, h2, hf⟩ := bn1_e hf
  refine j_invV [] [.int r2] E (c_X0_centsOf jl1 jl1 g1 h2) ml_X11_235 mv_X0_centsOf rfl ⟨le_ rfl, le_ rfl⟩ (rcX (okb10 jl1) cf_X0 ent10) rfl rfl (le_ rfl) ⟨le_ rfl, le_ rfl⟩ dX11_payLoad_11 ?_
  refine j_istore_n (ls' := [(3, .int r2), (2, .ref (z + aX 22 1 r1)), (0, .ref (z + aX 0 0 0)), (1, .int v1)]) E (lt_ rfl) rfl dX11_payLoad_14 ?_
  refine j_aload_n E 1 rfl dX11_payLoad_15 ?_
  refine j_getN (f := 7) E (okb22 jl1 g1) cf_X6 fl_X11_239 (lt_ rfl) rfl ent22 rfl dX11_payLoad_16 ?_
  refine j_if_ne E 33 (by decide) dX11_payLoad_19 (fun c1 => ?_) (fun c1 => ?_)
  · rw [if_neg c1] at hf
    exact none_e hf
  · rw [if_pos c1] at hf
    refine j_iload_n E 0 rfl dX11_payLoad_22 ?_
    refine j_aload_n E 2 rfl dX11_payLoad_23 ?_
    refine j_get (f := 1) E ok0 cf_X11 fl_X11_19 (lt_ rfl) rfl ent0 rfl dX11_payLoad_24 ?_
    refine j_getN (f := 6) E (okb10 jl1) cf_X0 fl_X11_300 (lt_ rfl) rfl ent10 rfl dX11_payLoad_27 ?_
    refine j_icmp_le E 44 (by decide) dX11_payLoad_30 (fun c2 => ?_) (fun c2 => ?_)
    · rw [if_pos c2] at hf
      refine j_aload_n E 2 rfl dX11_payLoad_44 ?_
      refine j_get (f := 2) E ok0 cf_X11 fl_X11_26 (lt_ rfl) rfl ent0 rfl dX11_payLoad_45 ?_
      refine j_aload_n E 2 rfl dX11_payLoad_48 ?_
      refine j_get (f := 1) E ok0 cf_X11 fl_X11_19 (lt_ rfl) rfl ent0 rfl dX11_payLoad_49 ?_
      obtain ⟨X1, h3, hf⟩ := bn1_e hf
      refine j_invV [] [] E (c_X4_note jl1 h3) ml_X11_101 mv_X4_note rfl ⟨le_ rfl, le_ rfl⟩ (rcX ok4 cf_X4 ent4) rfl rfl (le_ rfl) ⟨le_ rfl, le_ rfl⟩ dX11_payLoad_52 ?_
      refine j_aload_n E 2 rfl dX11_payLoad_55 ?_
      refine j_get (f := 1) E ok0 cf_X11 fl_X11_19 (lt_ rfl) rfl ent0 rfl dX11_payLoad_56 ?_
      refine j_aload_n E 1 rfl dX11_payLoad_59 ?_
      refine j_iload_n E 0 rfl dX11_payLoad_60 ?_
      obtain ⟨r3, X2, h4, hf⟩ := bn2_e hf
      refine j_invV [] [.int r3] E (c_X0_settle jl1 jl1 g1 h4) ml_X11_373 mv_X0_settle rfl ⟨le_ rfl, le_ rfl⟩ (rcX (okb10 jl1) cf_X0 ent10) rfl rfl (le_ rfl) ⟨le_ rfl, le_ rfl⟩ dX11_payLoad_61 ?_
      cases hf
      exact j_iret E rfl (le_ rfl) (le_ rfl) dX11_payLoad_64
    · rw [if_neg c2] at hf
      exact none_e hf
def f_X11_payGrower (X : XT) (v1 : Int32) : Option (Int32 × XT) :=
  bn1 (f_X11_needGrower X v1) (fun _ => bn1 (f_X0_canSettleAll X 1 v1) (fun r1 => if r1 = 0 then (none) else (bn1 (f_X4_note X 1) (fun X1 => bn2 (f_X0_settleAll X1 1 v1) (fun r2 X2 => some (r2, X2))))))
set_option maxRecDepth 20000 in
theorem c_X11_payGrower {l : Launch} {D : DD} {z : Nat} {Y : YT} {X : XT} {v1 : Int32} {r : Int32} {X' : XT} (hf : f_X11_payGrower X v1 = some (r, X')) : CC l yX11_payGrower cX11_payGrower 2 (some .int) (rmk 5 0 0) D z [.ref (z + aX 0 0 0), .int v1] (GG D z (X, Y)) (some (.int r)) (GG D z (X', Y)) := by
  unfold f_X11_payGrower at hf
  refine cc_of pn_X11 (le_ rfl) (ls := [(0, .ref (z + aX 0 0 0)), (1, .int v1)]) rfl ?_
  intro p e s m args below meth c E
  refine j_aload_n E 0 rfl dX11_payGrower_0 ?_
  refine j_iload_n E 1 rfl dX11_payGrower_1 ?_
  obtain ⟨_, h1, hf⟩ := bn1_e hf
  refine j_invV [] [] E (c_X11_needGrower h1) ml_X11_187 mv_X11_needGrower rfl ⟨le_ rfl, le_ rfl⟩ (rcX ok0 cf_X11 ent0) rfl rfl (le_ rfl) ⟨le_ rfl, le_ rfl⟩ dX11_payGrower_2 ?_
  refine j_aload_n E 0 rfl dX11_payGrower_5 ?_
  refine j_get (f := 1) E ok0 cf_X11 fl_X11_19 (lt_ rfl) rfl ent0 rfl dX11_payGrower_6 ?_
  refine j_iload_n E 1 rfl dX11_payGrower_9 ?_
  obtain ⟨r1, h2, hf⟩ := bn1_e hf
  refine j_invV [] [.int r1] E (c_X0_canSettleAll jl1 h2) ml_X11_377 mv_X0_canSettleAll rfl ⟨le_ rfl, le_ rfl⟩ (rcX (okb10 jl1) cf_X0 ent10) rfl rfl (le_ rfl) ⟨le_ rfl, le_ rfl⟩ dX11_payGrower_10 ?_
  refine j_if_ne E 27 (by decide) dX11_payGrower_13 (fun c1 => ?_) (fun c1 => ?_)
  · rw [if_neg c1] at hf
    refine j_aload_n E 0 rfl dX11_payGrower_27 ?_
    refine j_get (f := 2) E ok0 cf_X11 fl_X11_26 (lt_ rfl) rfl ent0 rfl dX11_payGrower_28 ?_
    refine j_aload_n E 0 rfl dX11_payGrower_31 ?_
    refine j_get (f := 1) E ok0 cf_X11 fl_X11_19 (lt_ rfl) rfl ent0 rfl dX11_payGrower_32 ?_
    obtain ⟨X1, h3, hf⟩ := bn1_e hf
    refine j_invV [] [] E (c_X4_note jl1 h3) ml_X11_101 mv_X4_note rfl ⟨le_ rfl, le_ rfl⟩ (rcX ok4 cf_X4 ent4) rfl rfl (le_ rfl) ⟨le_ rfl, le_ rfl⟩ dX11_payGrower_35 ?_
    refine j_aload_n E 0 rfl dX11_payGrower_38 ?_
    refine j_get (f := 1) E ok0 cf_X11 fl_X11_19 (lt_ rfl) rfl ent0 rfl dX11_payGrower_39 ?_
    refine j_iload_n E 1 rfl dX11_payGrower_42 ?_
    obtain ⟨r2, X2, h4, hf⟩ := bn2_e hf
    refine j_invV [] [.int r2] E (c_X0_settleAll jl1 h4) ml_X11_382 mv_X0_settleAll rfl ⟨le_ rfl, le_ rfl⟩ (rcX (okb10 jl1) cf_X0 ent10) rfl rfl (le_ rfl) ⟨le_ rfl, le_ rfl⟩ dX11_payGrower_43 ?_
    cases hf
    exact j_iret E rfl (le_ rfl) (le_ rfl) dX11_payGrower_46
  · rw [if_pos c1] at hf
    exact none_e hf
def f_X11_pump (X : XT) (v1 : Int32) (v2 : Int32) : Option (Int32 × XT) :=
  bn1 (f_X11_knownTank X v1) (fun r1 => gd (r1 < 5) (bn1 (f_X11_knownTank X v2) (fun r2 => gd (r2 < 5) (if v1 = v2 then (none) else (bn1 (f_X9_canMoveTo X 1 r1 1 r2) (fun r3 => if r3 = 0 then (none) else (bn1 (f_X4_note X 1) (fun X1 => bn1 (f_X9_moveTo X1 1 r1 1 r2) (fun X2 => some ((X2 26 1 r2 1), X2))))))))))
set_option maxRecDepth 20000 in
theorem c_X11_pump {l : Launch} {D : DD} {z : Nat} {Y : YT} {X : XT} {v1 : Int32} {v2 : Int32} {r : Int32} {X' : XT} (hf : f_X11_pump X v1 v2 = some (r, X')) : CC l yX11_pump cX11_pump 5 (some .int) (rmk 5 0 0) D z [.ref (z + aX 0 0 0), .int v1, .int v2] (GG D z (X, Y)) (some (.int r)) (GG D z (X', Y)) := by
  unfold f_X11_pump at hf
  refine cc_of pn_X11 (le_ rfl) (ls := [(0, .ref (z + aX 0 0 0)), (1, .int v1), (2, .int v2)]) rfl ?_
  intro p e s m args below meth c E
  refine j_aload_n E 0 rfl dX11_pump_0 ?_
  refine j_iload_n E 1 rfl dX11_pump_1 ?_
  obtain ⟨r1, h1, hf⟩ := bn1_e hf
  obtain ⟨g1, hf⟩ := gd_e hf
  refine j_invV [] [.ref (z + aX 26 1 r1)] E (c_X11_knownTank h1) ml_X11_246 mv_X11_knownTank rfl ⟨le_ rfl, le_ rfl⟩ (rcX ok0 cf_X11 ent0) rfl rfl (le_ rfl) ⟨le_ rfl, le_ rfl⟩ dX11_pump_2 ?_
  refine j_astore_n (ls' := [(3, .ref (z + aX 26 1 r1)), (0, .ref (z + aX 0 0 0)), (1, .int v1), (2, .int v2)]) E (lt_ rfl) rfl dX11_pump_5 ?_
  refine j_aload_n E 1 rfl dX11_pump_6 ?_
  refine j_iload_n E 3 rfl dX11_pump_7 ?_
  obtain ⟨r2, h2, hf⟩ := bn1_e hf
  obtain ⟨g2, hf⟩ := gd_e hf
  refine j_invV [] [.ref (z + aX 26 1 r2)] E (c_X11_knownTank h2) ml_X11_246 mv_X11_knownTank rfl ⟨le_ rfl, le_ rfl⟩ (rcX ok0 cf_X11 ent0) rfl rfl (le_ rfl) ⟨le_ rfl, le_ rfl⟩ dX11_pump_8 ?_
  refine j_astore (ls' := [(4, .ref (z + aX 26 1 r2)), (3, .ref (z + aX 26 1 r1)), (0, .ref (z + aX 0 0 0)), (1, .int v1), (2, .int v2)]) E (lt_ rfl) rfl dX11_pump_11 ?_
  refine j_iload_n E 3 rfl dX11_pump_13 ?_
  refine j_iload_n E 4 rfl dX11_pump_14 ?_
  refine j_icmp_ne E 29 (by decide) dX11_pump_15 (fun c1 => ?_) (fun c1 => ?_)
  · rw [if_neg c1] at hf
    refine j_aload_n E 1 rfl dX11_pump_29 ?_
    refine j_aload E 0 rfl dX11_pump_30 ?_
    obtain ⟨r3, h3, hf⟩ := bn1_e hf
    refine j_invV [] [.int r3] E (c_X9_canMoveTo jl1 g1 jl1 g2 h3) ml_X11_387 mv_X9_canMoveTo rfl ⟨le_ rfl, le_ rfl⟩ (rcX (okb26 jl1 g1) cf_X9 ent26) rfl rfl (le_ rfl) ⟨le_ rfl, le_ rfl⟩ dX11_pump_32 ?_
    refine j_if_ne E 49 (by decide) dX11_pump_35 (fun c2 => ?_) (fun c2 => ?_)
    · rw [if_neg c2] at hf
      refine j_aload_n E 2 rfl dX11_pump_49 ?_
      refine j_get (f := 2) E ok0 cf_X11 fl_X11_26 (lt_ rfl) rfl ent0 rfl dX11_pump_50 ?_
      refine j_aload_n E 2 rfl dX11_pump_53 ?_
      refine j_get (f := 1) E ok0 cf_X11 fl_X11_19 (lt_ rfl) rfl ent0 rfl dX11_pump_54 ?_
      obtain ⟨X1, h4, hf⟩ := bn1_e hf
      refine j_invV [] [] E (c_X4_note jl1 h4) ml_X11_101 mv_X4_note rfl ⟨le_ rfl, le_ rfl⟩ (rcX ok4 cf_X4 ent4) rfl rfl (le_ rfl) ⟨le_ rfl, le_ rfl⟩ dX11_pump_57 ?_
      refine j_aload_n E 1 rfl dX11_pump_60 ?_
      refine j_aload E 0 rfl dX11_pump_61 ?_
      obtain ⟨X2, h5, hf⟩ := bn1_e hf
      refine j_invV [] [] E (c_X9_moveTo jl1 g1 jl1 g2 h5) ml_X11_393 mv_X9_moveTo rfl ⟨le_ rfl, le_ rfl⟩ (rcX (okb26 jl1 g1) cf_X9 ent26) rfl rfl (le_ rfl) ⟨le_ rfl, le_ rfl⟩ dX11_pump_63 ?_
      refine j_aload E 0 rfl dX11_pump_66 ?_
      refine j_getN (f := 1) E (okb26 jl1 g2) cf_X9 fl_X11_250 (lt_ rfl) rfl ent26 rfl dX11_pump_68 ?_
      cases hf
      exact j_iret E rfl (le_ rfl) (le_ rfl) dX11_pump_71
    · rw [if_pos c2] at hf
      exact none_e hf
  · rw [if_pos c1] at hf
    exact none_e hf
def f_X11_undo (X : XT) : Option (Int32 × XT) :=
  if (X 4 0 0 2) = 0 then (none) else (bn1 (f_X4_bringBack X 1) (fun X1 => some ((X1 4 0 0 2), X1)))
set_option maxRecDepth 20000 in
theorem c_X11_undo {l : Launch} {D : DD} {z : Nat} {Y : YT} {X : XT} {r : Int32} {X' : XT} (hf : f_X11_undo X = some (r, X')) : CC l yX11_undo cX11_undo 1 (some .int) (rmk 5 0 0) D z [.ref (z + aX 0 0 0)] (GG D z (X, Y)) (some (.int r)) (GG D z (X', Y)) := by
  unfold f_X11_undo at hf
  refine cc_of pn_X11 (le_ rfl) (ls := [(0, .ref (z + aX 0 0 0))]) rfl ?_
  intro p e s m args below meth c E
  refine j_aload_n E 0 rfl dX11_undo_0 ?_
  refine j_get (f := 2) E ok0 cf_X11 fl_X11_26 (lt_ rfl) rfl ent0 rfl dX11_undo_1 ?_
  refine j_getN (f := 2) E ok4 cf_X4 fl_X11_402 (lt_ rfl) rfl ent4 rfl dX11_undo_4 ?_
  refine j_if_ne E 21 (by decide) dX11_undo_7 (fun c1 => ?_) (fun c1 => ?_)
  · rw [if_neg c1] at hf
    refine j_aload_n E 0 rfl dX11_undo_21 ?_
    refine j_get (f := 2) E ok0 cf_X11 fl_X11_26 (lt_ rfl) rfl ent0 rfl dX11_undo_22 ?_
    refine j_aload_n E 0 rfl dX11_undo_25 ?_
    refine j_get (f := 1) E ok0 cf_X11 fl_X11_19 (lt_ rfl) rfl ent0 rfl dX11_undo_26 ?_
    obtain ⟨X1, h1, hf⟩ := bn1_e hf
    refine j_invV [] [] E (c_X4_bringBack jl1 h1) ml_X11_405 mv_X4_bringBack rfl ⟨le_ rfl, le_ rfl⟩ (rcX ok4 cf_X4 ent4) rfl rfl (le_ rfl) ⟨le_ rfl, le_ rfl⟩ dX11_undo_29 ?_
    refine j_aload_n E 0 rfl dX11_undo_32 ?_
    refine j_get (f := 2) E ok0 cf_X11 fl_X11_26 (lt_ rfl) rfl ent0 rfl dX11_undo_33 ?_
    refine j_getN (f := 2) E ok4 cf_X4 fl_X11_402 (lt_ rfl) rfl ent4 rfl dX11_undo_36 ?_
    cases hf
    exact j_iret E rfl (le_ rfl) (le_ rfl) dX11_undo_39
  · rw [if_pos c1] at hf
    exact none_e hf
