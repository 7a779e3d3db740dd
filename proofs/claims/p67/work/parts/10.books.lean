def f_X0_open (X : XT) (j : Nat) (v1 : Int32) : Option XT :=
  bnd (xs X 10 j 0 4 v1) (fun X1 => bnd (xs X1 10 j 0 5 0) (fun X2 => bnd (xs X2 10 j 0 6 v1) (fun X3 => some X3)))
set_option maxRecDepth 20000 in
theorem c_X0_open {l : Launch} {D : DD} {z : Nat} {Y : YT} {X : XT} {j : Nat} (hj : j < 10) {v1 : Int32} {X' : XT} (hf : f_X0_open X j v1 = some X') : CC l yX0_open cX0_open 2 none (rmk 1 0 0) D z [.ref (z + aX 10 j 0), .int v1] (GG D z (X, Y)) none (GG D z (X', Y)) := by
  unfold f_X0_open at hf
  refine cc_of pn_X0 (le_ rfl) (ls := [(0, .ref (z + aX 10 j 0)), (1, .int v1)]) rfl ?_
  intro p e s m args below meth c E
  refine j_aload_n E 0 rfl dX0_open_0 ?_
  refine j_iload_n E 1 rfl dX0_open_1 ?_
  obtain ⟨X1, hX1, hf⟩ := bnd_e hf
  refine j_put (f := 4) E (okb10 hj) cf_X0 fl_X0_65 (lt_ rfl) ⟨rfl, rfl⟩ (fit_i _) ent10 pe10_4 (lt_ rfl) hX1 dX0_open_2 ?_
  refine j_aload_n E 0 rfl dX0_open_5 ?_
  refine j_iconst E 0 ic_0 dX0_open_6 ?_
  obtain ⟨X2, hX2, hf⟩ := bnd_e hf
  refine j_put (f := 5) E (okb10 hj) cf_X0 fl_X0_68 (lt_ rfl) ⟨rfl, rfl⟩ (fit_i _) ent10 pe10_5 (lt_ rfl) hX2 dX0_open_7 ?_
  refine j_aload_n E 0 rfl dX0_open_10 ?_
  refine j_iload_n E 1 rfl dX0_open_11 ?_
  obtain ⟨X3, hX3, hf⟩ := bnd_e hf
  refine j_put (f := 6) E (okb10 hj) cf_X0 fl_X0_71 (lt_ rfl) ⟨rfl, rfl⟩ (fit_i _) ent10 pe10_6 (lt_ rfl) hX3 dX0_open_12 ?_
  cases hf
  exact j_vret E (le_ rfl) (le_ rfl) dX0_open_15
def f_X0_clear (X : XT) (j : Nat) : Option XT :=
  bnd (xs X 11 j 0 3 0) (fun X1 => bnd (xs X1 11 j 0 4 0) (fun X2 => bnd (xs X2 15 j 0 4 0) (fun X3 => bnd (xs X3 15 j 0 5 0) (fun X4 => bnd (xs X4 20 j 0 1 0) (fun X5 => bnd (xs X5 23 j 0 2 0) (fun X6 => bnd (xs X6 23 j 0 3 0) (fun X7 => bn1 (f_X0_open X7 j 0) (fun X8 => some X8))))))))
set_option maxRecDepth 20000 in
theorem c_X0_clear {l : Launch} {D : DD} {z : Nat} {Y : YT} {X : XT} {j : Nat} (hj : j < 10) {X' : XT} (hf : f_X0_clear X j = some X') : CC l yX0_clear cX0_clear 1 none (rmk 2 0 0) D z [.ref (z + aX 10 j 0)] (GG D z (X, Y)) none (GG D z (X', Y)) := by
  unfold f_X0_clear at hf
  refine cc_of pn_X0 (le_ rfl) (ls := [(0, .ref (z + aX 10 j 0))]) rfl ?_
  intro p e s m args below meth c E
  refine j_aload_n E 0 rfl dX0_clear_0 ?_
  refine j_get (f := 0) E (okb10 hj) cf_X0 fl_X0_12 (lt_ rfl) rfl ent10 rfl dX0_clear_1 ?_
  refine j_iconst E 0 ic_0 dX0_clear_4 ?_
  obtain ⟨X1, hX1, hf⟩ := bnd_e hf
  refine j_putN (f := 3) E (okb11 hj) cf_X1 fl_X0_39 (lt_ rfl) ⟨rfl, rfl⟩ (fit_i _) ent11 pe11_3 (lt_ rfl) hX1 dX0_clear_5 ?_
  refine j_aload_n E 0 rfl dX0_clear_8 ?_
  refine j_get (f := 0) E (okb10 hj) cf_X0 fl_X0_12 (lt_ rfl) rfl ent10 rfl dX0_clear_9 ?_
  refine j_iconst E 0 ic_0 dX0_clear_12 ?_
  obtain ⟨X2, hX2, hf⟩ := bnd_e hf
  refine j_putN (f := 4) E (okb11 hj) cf_X1 fl_X0_43 (lt_ rfl) ⟨rfl, rfl⟩ (fit_i _) ent11 pe11_4 (lt_ rfl) hX2 dX0_clear_13 ?_
  refine j_aload_n E 0 rfl dX0_clear_16 ?_
  refine j_get (f := 1) E (okb10 hj) cf_X0 fl_X0_21 (lt_ rfl) rfl ent10 rfl dX0_clear_17 ?_
  refine j_iconst E 0 ic_0 dX0_clear_20 ?_
  obtain ⟨X3, hX3, hf⟩ := bnd_e hf
  refine j_putN (f := 4) E (okb15 hj) cf_X5 fl_X0_46 (lt_ rfl) ⟨rfl, rfl⟩ (fit_i _) ent15 pe15_4 (lt_ rfl) hX3 dX0_clear_21 ?_
  refine j_aload_n E 0 rfl dX0_clear_24 ?_
  refine j_get (f := 1) E (okb10 hj) cf_X0 fl_X0_21 (lt_ rfl) rfl ent10 rfl dX0_clear_25 ?_
  refine j_iconst E 0 ic_0 dX0_clear_28 ?_
  obtain ⟨X4, hX4, hf⟩ := bnd_e hf
  refine j_putN (f := 5) E (okb15 hj) cf_X5 fl_X0_49 (lt_ rfl) ⟨rfl, rfl⟩ (fit_i _) ent15 pe15_5 (lt_ rfl) hX4 dX0_clear_29 ?_
  refine j_aload_n E 0 rfl dX0_clear_32 ?_
  refine j_get (f := 2) E (okb10 hj) cf_X0 fl_X0_28 (lt_ rfl) rfl ent10 rfl dX0_clear_33 ?_
  refine j_iconst E 0 ic_0 dX0_clear_36 ?_
  obtain ⟨X5, hX5, hf⟩ := bnd_e hf
  refine j_putN (f := 1) E (okb20 hj) cf_X3 fl_X0_52 (lt_ rfl) ⟨rfl, rfl⟩ (fit_i _) ent20 pe20_1 (lt_ rfl) hX5 dX0_clear_37 ?_
  refine j_aload_n E 0 rfl dX0_clear_40 ?_
  refine j_get (f := 3) E (okb10 hj) cf_X0 fl_X0_35 (lt_ rfl) rfl ent10 rfl dX0_clear_41 ?_
  refine j_iconst E 0 ic_0 dX0_clear_44 ?_
  obtain ⟨X6, hX6, hf⟩ := bnd_e hf
  refine j_putN (f := 2) E (okb23 hj) cf_X2 fl_X0_55 (lt_ rfl) ⟨rfl, rfl⟩ (fit_i _) ent23 pe23_2 (lt_ rfl) hX6 dX0_clear_45 ?_
  refine j_aload_n E 0 rfl dX0_clear_48 ?_
  refine j_get (f := 3) E (okb10 hj) cf_X0 fl_X0_35 (lt_ rfl) rfl ent10 rfl dX0_clear_49 ?_
  refine j_iconst E 0 ic_0 dX0_clear_52 ?_
  obtain ⟨X7, hX7, hf⟩ := bnd_e hf
  refine j_putN (f := 3) E (okb23 hj) cf_X2 fl_X0_58 (lt_ rfl) ⟨rfl, rfl⟩ (fit_i _) ent23 pe23_3 (lt_ rfl) hX7 dX0_clear_53 ?_
  refine j_aload_n E 0 rfl dX0_clear_56 ?_
  refine j_iconst E 0 ic_0 dX0_clear_57 ?_
  obtain ⟨X8, h1, hf⟩ := bn1_e hf
  refine j_invV [] [] E (c_X0_open hj h1) ml_X0_61 mv_X0_open rfl ⟨le_ rfl, le_ rfl⟩ (rcX (okb10 hj) cf_X0 ent10) rfl rfl (le_ rfl) ⟨le_ rfl, le_ rfl⟩ dX0_clear_58 ?_
  cases hf
  exact j_vret E (le_ rfl) (le_ rfl) dX0_clear_61
def f_X1_copyFrom (X : XT) (j j1 : Nat) : Option XT :=
  gd (¬ j1 = j) (bnd (xcp X 12 j1 j 4) (fun X1 => gd (¬ j1 = j) (bnd (xcp X1 13 j1 j 4) (fun X2 => gd (¬ j1 = j) (bnd (xcp X2 14 j1 j 16) (fun X3 => bnd (xs X3 11 j 0 3 (X3 11 j1 0 3)) (fun X4 => bnd (xs X4 11 j 0 4 (X4 11 j1 0 4)) (fun X5 => some X5))))))))
set_option maxRecDepth 20000 in
theorem c_X1_copyFrom {l : Launch} {D : DD} {z : Nat} {Y : YT} {X : XT} {j j1 : Nat} (hj : j < 10) (hj1 : j1 < 10) {X' : XT} (hf : f_X1_copyFrom X j j1 = some X') : CC l yX1_copyFrom cX1_copyFrom 2 none (rmk 2 0 0) D z [.ref (z + aX 11 j 0), .ref (z + aX 11 j1 0)] (GG D z (X, Y)) none (GG D z (X', Y)) := by
  unfold f_X1_copyFrom at hf
  refine cc_of pn_X1 (le_ rfl) (ls := [(0, .ref (z + aX 11 j 0)), (1, .ref (z + aX 11 j1 0))]) rfl ?_
  intro p e s m args below meth c E
  refine j_aload_n E 1 rfl dX1_copyFrom_0 ?_
  refine j_get (f := 0) E (okb11 hj1) cf_X1 fl_X1_9 (lt_ rfl) rfl ent11 rfl dX1_copyFrom_1 ?_
  refine j_iconst E 0 ic_0 dX1_copyFrom_4 ?_
  refine j_aload_n E 0 rfl dX1_copyFrom_5 ?_
  refine j_get (f := 0) E (okb11 hj) cf_X1 fl_X1_9 (lt_ rfl) rfl ent11 rfl dX1_copyFrom_6 ?_
  refine j_iconst E 0 ic_0 dX1_copyFrom_9 ?_
  refine j_iconst E 4 ic_4 dX1_copyFrom_10 ?_
  obtain ⟨g1, hf⟩ := gd_e hf
  obtain ⟨X1, hX1, hf⟩ := bnd_e hf
  refine j_acopy E (okb12 hj1) (okb12 hj) g1 (fun _ _ => ent12) tn_4 ⟨by decide, by decide⟩ ml_X1_21 na_arraycopyName st_arraycopyName in_J10 (le_ rfl) (le_ rfl) hX1 dX1_copyFrom_11 ?_
  refine j_aload_n E 1 rfl dX1_copyFrom_14 ?_
  refine j_get (f := 1) E (okb11 hj1) cf_X1 fl_X1_15 (lt_ rfl) rfl ent11 rfl dX1_copyFrom_15 ?_
  refine j_iconst E 0 ic_0 dX1_copyFrom_18 ?_
  refine j_aload_n E 0 rfl dX1_copyFrom_19 ?_
  refine j_get (f := 1) E (okb11 hj) cf_X1 fl_X1_15 (lt_ rfl) rfl ent11 rfl dX1_copyFrom_20 ?_
  refine j_iconst E 0 ic_0 dX1_copyFrom_23 ?_
  refine j_iconst E 4 ic_4 dX1_copyFrom_24 ?_
  obtain ⟨g2, hf⟩ := gd_e hf
  obtain ⟨X2, hX2, hf⟩ := bnd_e hf
  refine j_acopy E (okb13 hj1) (okb13 hj) g2 (fun _ _ => ent13) tn_4 ⟨by decide, by decide⟩ ml_X1_21 na_arraycopyName st_arraycopyName in_J10 (le_ rfl) (le_ rfl) hX2 dX1_copyFrom_25 ?_
  refine j_aload_n E 1 rfl dX1_copyFrom_28 ?_
  refine j_get (f := 2) E (okb11 hj1) cf_X1 fl_X1_18 (lt_ rfl) rfl ent11 rfl dX1_copyFrom_29 ?_
  refine j_iconst E 0 ic_0 dX1_copyFrom_32 ?_
  refine j_aload_n E 0 rfl dX1_copyFrom_33 ?_
  refine j_get (f := 2) E (okb11 hj) cf_X1 fl_X1_18 (lt_ rfl) rfl ent11 rfl dX1_copyFrom_34 ?_
  refine j_iconst E 0 ic_0 dX1_copyFrom_37 ?_
  refine j_bipush E 16 bp_16 dX1_copyFrom_38 ?_
  obtain ⟨g3, hf⟩ := gd_e hf
  obtain ⟨X3, hX3, hf⟩ := bnd_e hf
  refine j_acopy E (okb14 hj1) (okb14 hj) g3 (fun _ _ => ent14) tn_16 ⟨by decide, by decide⟩ ml_X1_21 na_arraycopyName st_arraycopyName in_J10 (le_ rfl) (le_ rfl) hX3 dX1_copyFrom_40 ?_
  refine j_aload_n E 0 rfl dX1_copyFrom_43 ?_
  refine j_aload_n E 1 rfl dX1_copyFrom_44 ?_
  refine j_get (f := 3) E (okb11 hj1) cf_X1 fl_X1_27 (lt_ rfl) rfl ent11 rfl dX1_copyFrom_45 ?_
  obtain ⟨X4, hX4, hf⟩ := bnd_e hf
  refine j_put (f := 3) E (okb11 hj) cf_X1 fl_X1_27 (lt_ rfl) ⟨rfl, rfl⟩ (fit_i _) ent11 pe11_3 (lt_ rfl) hX4 dX1_copyFrom_48 ?_
  refine j_aload_n E 0 rfl dX1_copyFrom_51 ?_
  refine j_aload_n E 1 rfl dX1_copyFrom_52 ?_
  refine j_get (f := 4) E (okb11 hj1) cf_X1 fl_X1_31 (lt_ rfl) rfl ent11 rfl dX1_copyFrom_53 ?_
  obtain ⟨X5, hX5, hf⟩ := bnd_e hf
  refine j_put (f := 4) E (okb11 hj) cf_X1 fl_X1_31 (lt_ rfl) ⟨rfl, rfl⟩ (fit_i _) ent11 pe11_4 (lt_ rfl) hX5 dX1_copyFrom_56 ?_
  cases hf
  exact j_vret E (le_ rfl) (le_ rfl) dX1_copyFrom_59
def f_X5_copyFrom (X : XT) (j j1 : Nat) : Option XT :=
  gd (¬ j1 = j) (bnd (xcp X 16 j1 j 6) (fun X1 => gd (¬ j1 = j) (bnd (xcp X1 17 j1 j 8) (fun X2 => gd (¬ j1 = j) (bnd (xcp X2 18 j1 j 8) (fun X3 => gd (¬ j1 = j) (bnd (xcp X3 19 j1 j 8) (fun X4 => bnd (xs X4 15 j 0 4 (X4 15 j1 0 4)) (fun X5 => bnd (xs X5 15 j 0 5 (X5 15 j1 0 5)) (fun X6 => some X6))))))))))
set_option maxRecDepth 20000 in
theorem c_X5_copyFrom {l : Launch} {D : DD} {z : Nat} {Y : YT} {X : XT} {j j1 : Nat} (hj : j < 10) (hj1 : j1 < 10) {X' : XT} (hf : f_X5_copyFrom X j j1 = some X') : CC l yX5_copyFrom cX5_copyFrom 2 none (rmk 2 0 0) D z [.ref (z + aX 15 j 0), .ref (z + aX 15 j1 0)] (GG D z (X, Y)) none (GG D z (X', Y)) := by
  unfold f_X5_copyFrom at hf
  refine cc_of pn_X5 (le_ rfl) (ls := [(0, .ref (z + aX 15 j 0)), (1, .ref (z + aX 15 j1 0))]) rfl ?_
  intro p e s m args below meth c E
  refine j_aload_n E 1 rfl dX5_copyFrom_0 ?_
  refine j_get (f := 0) E (okb15 hj1) cf_X5 fl_X5_9 (lt_ rfl) rfl ent15 rfl dX5_copyFrom_1 ?_
  refine j_iconst E 0 ic_0 dX5_copyFrom_4 ?_
  refine j_aload_n E 0 rfl dX5_copyFrom_5 ?_
  refine j_get (f := 0) E (okb15 hj) cf_X5 fl_X5_9 (lt_ rfl) rfl ent15 rfl dX5_copyFrom_6 ?_
  refine j_iconst E 0 ic_0 dX5_copyFrom_9 ?_
  refine j_bipush E 6 bp_6 dX5_copyFrom_10 ?_
  obtain ⟨g1, hf⟩ := gd_e hf
  obtain ⟨X1, hX1, hf⟩ := bnd_e hf
  refine j_acopy E (okb16 hj1) (okb16 hj) g1 (fun _ _ => ent16) tn_6 ⟨by decide, by decide⟩ ml_X5_24 na_arraycopyName st_arraycopyName in_J10 (le_ rfl) (le_ rfl) hX1 dX5_copyFrom_12 ?_
  refine j_aload_n E 1 rfl dX5_copyFrom_15 ?_
  refine j_get (f := 1) E (okb15 hj1) cf_X5 fl_X5_15 (lt_ rfl) rfl ent15 rfl dX5_copyFrom_16 ?_
  refine j_iconst E 0 ic_0 dX5_copyFrom_19 ?_
  refine j_aload_n E 0 rfl dX5_copyFrom_20 ?_
  refine j_get (f := 1) E (okb15 hj) cf_X5 fl_X5_15 (lt_ rfl) rfl ent15 rfl dX5_copyFrom_21 ?_
  refine j_iconst E 0 ic_0 dX5_copyFrom_24 ?_
  refine j_bipush E 8 bp_8 dX5_copyFrom_25 ?_
  obtain ⟨g2, hf⟩ := gd_e hf
  obtain ⟨X2, hX2, hf⟩ := bnd_e hf
  refine j_acopy E (okb17 hj1) (okb17 hj) g2 (fun _ _ => ent17) tn_8 ⟨by decide, by decide⟩ ml_X5_24 na_arraycopyName st_arraycopyName in_J10 (le_ rfl) (le_ rfl) hX2 dX5_copyFrom_27 ?_
  refine j_aload_n E 1 rfl dX5_copyFrom_30 ?_
  refine j_get (f := 2) E (okb15 hj1) cf_X5 fl_X5_18 (lt_ rfl) rfl ent15 rfl dX5_copyFrom_31 ?_
  refine j_iconst E 0 ic_0 dX5_copyFrom_34 ?_
  refine j_aload_n E 0 rfl dX5_copyFrom_35 ?_
  refine j_get (f := 2) E (okb15 hj) cf_X5 fl_X5_18 (lt_ rfl) rfl ent15 rfl dX5_copyFrom_36 ?_
  refine j_iconst E 0 ic_0 dX5_copyFrom_39 ?_
  refine j_bipush E 8 bp_8 dX5_copyFrom_40 ?_
  obtain ⟨g3, hf⟩ := gd_e hf
  obtain ⟨X3, hX3, hf⟩ := bnd_e hf
  refine j_acopy E (okb18 hj1) (okb18 hj) g3 (fun _ _ => ent18) tn_8 ⟨by decide, by decide⟩ ml_X5_24 na_arraycopyName st_arraycopyName in_J10 (le_ rfl) (le_ rfl) hX3 dX5_copyFrom_42 ?_
  refine j_aload_n E 1 rfl dX5_copyFrom_45 ?_
  refine j_get (f := 3) E (okb15 hj1) cf_X5 fl_X5_21 (lt_ rfl) rfl ent15 rfl dX5_copyFrom_46 ?_
  refine j_iconst E 0 ic_0 dX5_copyFrom_49 ?_
  refine j_aload_n E 0 rfl dX5_copyFrom_50 ?_
  refine j_get (f := 3) E (okb15 hj) cf_X5 fl_X5_21 (lt_ rfl) rfl ent15 rfl dX5_copyFrom_51 ?_
  refine j_iconst E 0 ic_0 dX5_copyFrom_54 ?_
  refine j_bipush E 8 bp_8 dX5_copyFrom_55 ?_
  obtain ⟨g4, hf⟩ := gd_e hf
  obtain ⟨X4, hX4, hf⟩ := bnd_e hf
  refine j_acopy E (okb19 hj1) (okb19 hj) g4 (fun _ _ => ent19) tn_8 ⟨by decide, by decide⟩ ml_X5_24 na_arraycopyName st_arraycopyName in_J10 (le_ rfl) (le_ rfl) hX4 dX5_copyFrom_57 ?_
  refine j_aload_n E 0 rfl dX5_copyFrom_60 ?_
  refine j_aload_n E 1 rfl dX5_copyFrom_61 ?_
  refine j_get (f := 4) E (okb15 hj1) cf_X5 fl_X5_30 (lt_ rfl) rfl ent15 rfl dX5_copyFrom_62 ?_
  obtain ⟨X5, hX5, hf⟩ := bnd_e hf
  refine j_put (f := 4) E (okb15 hj) cf_X5 fl_X5_30 (lt_ rfl) ⟨rfl, rfl⟩ (fit_i _) ent15 pe15_4 (lt_ rfl) hX5 dX5_copyFrom_65 ?_
  refine j_aload_n E 0 rfl dX5_copyFrom_68 ?_
  refine j_aload_n E 1 rfl dX5_copyFrom_69 ?_
  refine j_get (f := 5) E (okb15 hj1) cf_X5 fl_X5_34 (lt_ rfl) rfl ent15 rfl dX5_copyFrom_70 ?_
  obtain ⟨X6, hX6, hf⟩ := bnd_e hf
  refine j_put (f := 5) E (okb15 hj) cf_X5 fl_X5_34 (lt_ rfl) ⟨rfl, rfl⟩ (fit_i _) ent15 pe15_5 (lt_ rfl) hX6 dX5_copyFrom_73 ?_
  cases hf
  exact j_vret E (le_ rfl) (le_ rfl) dX5_copyFrom_76
def f_X6_copyFrom (X : XT) (j i j1 i1 : Nat) : Option XT :=
  bnd (xs X 22 j i 0 (X 22 j1 i1 0)) (fun X1 => bnd (xs X1 22 j i 1 (X1 22 j1 i1 1)) (fun X2 => bnd (xs X2 22 j i 2 (X2 22 j1 i1 2)) (fun X3 => bnd (xs X3 22 j i 3 (X3 22 j1 i1 3)) (fun X4 => bnd (xs X4 22 j i 4 (X4 22 j1 i1 4)) (fun X5 => bnd (xs X5 22 j i 5 (X5 22 j1 i1 5)) (fun X6 => bnd (xs X6 22 j i 6 (X6 22 j1 i1 6)) (fun X7 => gd ((X7 22 j1 i1 7) &&& 1 = (X7 22 j1 i1 7)) (bnd (xs X7 22 j i 7 (X7 22 j1 i1 7)) (fun X8 => bnd (xs X8 22 j i 8 (X8 22 j1 i1 8)) (fun X9 => some X9))))))))))
set_option maxRecDepth 20000 in
theorem c_X6_copyFrom {l : Launch} {D : DD} {z : Nat} {Y : YT} {X : XT} {j i j1 i1 : Nat} (hj : j < 10) (hi : i < 20) (hj1 : j1 < 10) (hi1 : i1 < 20) {X' : XT} (hf : f_X6_copyFrom X j i j1 i1 = some X') : CC l yX6_copyFrom cX6_copyFrom 2 none (rmk 1 0 0) D z [.ref (z + aX 22 j i), .ref (z + aX 22 j1 i1)] (GG D z (X, Y)) none (GG D z (X', Y)) := by
  unfold f_X6_copyFrom at hf
  refine cc_of pn_X6 (le_ rfl) (ls := [(0, .ref (z + aX 22 j i)), (1, .ref (z + aX 22 j1 i1))]) rfl ?_
  intro p e s m args below meth c E
  refine j_aload_n E 0 rfl dX6_copyFrom_0 ?_
  refine j_aload_n E 1 rfl dX6_copyFrom_1 ?_
  refine j_get (f := 0) E (okb22 hj1 hi1) cf_X6 fl_X6_7 (lt_ rfl) rfl ent22 rfl dX6_copyFrom_2 ?_
  obtain ⟨X1, hX1, hf⟩ := bnd_e hf
  refine j_put (f := 0) E (okb22 hj hi) cf_X6 fl_X6_7 (lt_ rfl) ⟨rfl, rfl⟩ (fit_i _) ent22 pe22_0 (lt_ rfl) hX1 dX6_copyFrom_5 ?_
  refine j_aload_n E 0 rfl dX6_copyFrom_8 ?_
  refine j_aload_n E 1 rfl dX6_copyFrom_9 ?_
  refine j_get (f := 1) E (okb22 hj1 hi1) cf_X6 fl_X6_13 (lt_ rfl) rfl ent22 rfl dX6_copyFrom_10 ?_
  obtain ⟨X2, hX2, hf⟩ := bnd_e hf
  refine j_put (f := 1) E (okb22 hj hi) cf_X6 fl_X6_13 (lt_ rfl) ⟨rfl, rfl⟩ (fit_i _) ent22 pe22_1 (lt_ rfl) hX2 dX6_copyFrom_13 ?_
  refine j_aload_n E 0 rfl dX6_copyFrom_16 ?_
  refine j_aload_n E 1 rfl dX6_copyFrom_17 ?_
  refine j_get (f := 2) E (okb22 hj1 hi1) cf_X6 fl_X6_16 (lt_ rfl) rfl ent22 rfl dX6_copyFrom_18 ?_
  obtain ⟨X3, hX3, hf⟩ := bnd_e hf
  refine j_put (f := 2) E (okb22 hj hi) cf_X6 fl_X6_16 (lt_ rfl) ⟨rfl, rfl⟩ (fit_i _) ent22 pe22_2 (lt_ rfl) hX3 dX6_copyFrom_21 ?_
  refine j_aload_n E 0 rfl dX6_copyFrom_24 ?_
  refine j_aload_n E 1 rfl dX6_copyFrom_25 ?_
  refine j_get (f := 3) E (okb22 hj1 hi1) cf_X6 fl_X6_19 (lt_ rfl) rfl ent22 rfl dX6_copyFrom_26 ?_
  obtain ⟨X4, hX4, hf⟩ := bnd_e hf
  refine j_put (f := 3) E (okb22 hj hi) cf_X6 fl_X6_19 (lt_ rfl) ⟨rfl, rfl⟩ (fit_i _) ent22 pe22_3 (lt_ rfl) hX4 dX6_copyFrom_29 ?_
  refine j_aload_n E 0 rfl dX6_copyFrom_32 ?_
  refine j_aload_n E 1 rfl dX6_copyFrom_33 ?_
  refine j_get (f := 4) E (okb22 hj1 hi1) cf_X6 fl_X6_22 (lt_ rfl) rfl ent22 rfl dX6_copyFrom_34 ?_
  obtain ⟨X5, hX5, hf⟩ := bnd_e hf
  refine j_put (f := 4) E (okb22 hj hi) cf_X6 fl_X6_22 (lt_ rfl) ⟨rfl, rfl⟩ (fit_i _) ent22 pe22_4 (lt_ rfl) hX5 dX6_copyFrom_37 ?_
  refine j_aload_n E 0 rfl dX6_copyFrom_40 ?_
  refine j_aload_n E 1 rfl dX6_copyFrom_41 ?_
  refine j_get (f := 5) E (okb22 hj1 hi1) cf_X6 fl_X6_25 (lt_ rfl) rfl ent22 rfl dX6_copyFrom_42 ?_
  obtain ⟨X6, hX6, hf⟩ := bnd_e hf
  refine j_put (f := 5) E (okb22 hj hi) cf_X6 fl_X6_25 (lt_ rfl) ⟨rfl, rfl⟩ (fit_i _) ent22 pe22_5 (lt_ rfl) hX6 dX6_copyFrom_45 ?_
  refine j_aload_n E 0 rfl dX6_copyFrom_48 ?_
  refine j_aload_n E 1 rfl dX6_copyFrom_49 ?_
  refine j_get (f := 6) E (okb22 hj1 hi1) cf_X6 fl_X6_28 (lt_ rfl) rfl ent22 rfl dX6_copyFrom_50 ?_
  obtain ⟨X7, hX7, hf⟩ := bnd_e hf
  refine j_put (f := 6) E (okb22 hj hi) cf_X6 fl_X6_28 (lt_ rfl) ⟨rfl, rfl⟩ (fit_i _) ent22 pe22_6 (lt_ rfl) hX7 dX6_copyFrom_53 ?_
  refine j_aload_n E 0 rfl dX6_copyFrom_56 ?_
  refine j_aload_n E 1 rfl dX6_copyFrom_57 ?_
  refine j_get (f := 7) E (okb22 hj1 hi1) cf_X6 fl_X6_31 (lt_ rfl) rfl ent22 rfl dX6_copyFrom_58 ?_
  obtain ⟨g1, hf⟩ := gd_e hf
  obtain ⟨X8, hX8, hf⟩ := bnd_e hf
  refine j_put (f := 7) E (okb22 hj hi) cf_X6 fl_X6_31 (lt_ rfl) ⟨rfl, rfl⟩ (fz_ g1) ent22 pe22_7 (lt_ rfl) hX8 dX6_copyFrom_61 ?_
  refine j_aload_n E 0 rfl dX6_copyFrom_64 ?_
  refine j_aload_n E 1 rfl dX6_copyFrom_65 ?_
  refine j_get (f := 8) E (okb22 hj1 hi1) cf_X6 fl_X6_35 (lt_ rfl) rfl ent22 rfl dX6_copyFrom_66 ?_
  obtain ⟨X9, hX9, hf⟩ := bnd_e hf
  refine j_put (f := 8) E (okb22 hj hi) cf_X6 fl_X6_35 (lt_ rfl) ⟨rfl, rfl⟩ (fit_i _) ent22 pe22_8 (lt_ rfl) hX9 dX6_copyFrom_69 ?_
  cases hf
  exact j_vret E (le_ rfl) (le_ rfl) dX6_copyFrom_72
def f_X3_copyFrom_2 (j j1 : Nat) : Nat → XT → Int32 → Option XT
  | 0, _, _ => none
  | n + 1, X, v2 => if 20 ≤ v2 then (bnd (xs X 20 j 0 1 (X 20 j1 0 1)) (fun X1 => some X1)) else (gd (¬ (v2 < 0 ∨ 20 ≤ v2.toNatClampNeg)) (gd (¬ (v2 < 0 ∨ 20 ≤ v2.toNatClampNeg)) (bn1 (f_X6_copyFrom X j (v2.toNatClampNeg) j1 (v2.toNatClampNeg)) (fun X2 => f_X3_copyFrom_2 j j1 n X2 (v2 + 1)))))
def f_X3_copyFrom (X : XT) (j j1 : Nat) : Option XT :=
  f_X3_copyFrom_2 j j1 2000 X 0
set_option maxRecDepth 20000 in
theorem b_X3_copyFrom_2 {p : Program} {l : Launch} {e : Env} {s : State} {m : MethodId} {args : Array Value} {below : List Frame} {meth : Method} {c : Code} {D : DD} {z : Nat} {Y : YT} {j j1 : Nat} (hj : j < 10) (hj1 : j1 < 10) (E : Cx p s m args meth c D z RX3 cX3_copyFrom 3 none) {X' : XT} : ∀ (n : Nat) (X : XT) (v2 : Int32) (hf : f_X3_copyFrom_2 j j1 n X v2 = some X'), J p l e (rmk 2 0 0) s m args below meth c D z (GG D z (X, Y)) 0 0 (MQ below (QC z none (GG D z (X', Y))) args s (rmk 2 0 0).cells (rmk 2 0 0).slots (Az z)) 3 2 [(0, .ref (z + aX 20 j 0)), (1, .ref (z + aX 20 j1 0)), (2, .int v2)] [] := by
  intro n
  induction n with
  | zero =>
    intro X v2 hf
    exact none_e hf
  | succ n ih =>
    intro X v2 hf
    rw [f_X3_copyFrom_2] at hf
    refine j_iload_n E 2 rfl dX3_copyFrom_2 ?_
    refine j_bipush E 20 bp_20 dX3_copyFrom_3 ?_
    refine j_icmp_ge E 29 (by decide) dX3_copyFrom_5 (fun c1 => ?_) (fun c1 => ?_)
    · rw [if_pos c1] at hf
      refine j_aload_n E 0 rfl dX3_copyFrom_29 ?_
      refine j_aload_n E 1 rfl dX3_copyFrom_30 ?_
      refine j_get (f := 1) E (okb20 hj1) cf_X3 fl_X3_22 (lt_ rfl) rfl ent20 rfl dX3_copyFrom_31 ?_
      obtain ⟨X1, hX1, hf⟩ := bnd_e hf
      refine j_put (f := 1) E (okb20 hj) cf_X3 fl_X3_22 (lt_ rfl) ⟨rfl, rfl⟩ (fit_i _) ent20 pe20_1 (lt_ rfl) hX1 dX3_copyFrom_34 ?_
      cases hf
      exact j_vret E (le_ rfl) (le_ rfl) dX3_copyFrom_37
    · rw [if_neg c1] at hf
      refine j_aload_n E 0 rfl dX3_copyFrom_8 ?_
      refine j_get (f := 0) E (okb20 hj) cf_X3 fl_X3_11 (lt_ rfl) rfl ent20 rfl dX3_copyFrom_9 ?_
      refine j_iload_n E 2 rfl dX3_copyFrom_12 ?_
      obtain ⟨g1, hf⟩ := gd_e hf
      refine j_aald (t := 4) E (okb21 hj) ent21 rfl g1 dX3_copyFrom_13 ?_
      refine j_aload_n E 1 rfl dX3_copyFrom_14 ?_
      refine j_get (f := 0) E (okb20 hj1) cf_X3 fl_X3_11 (lt_ rfl) rfl ent20 rfl dX3_copyFrom_15 ?_
      refine j_iload_n E 2 rfl dX3_copyFrom_18 ?_
      obtain ⟨g2, hf⟩ := gd_e hf
      refine j_aald (t := 4) E (okb21 hj1) ent21 rfl g2 dX3_copyFrom_19 ?_
      obtain ⟨X2, h1, hf⟩ := bn1_e hf
      refine j_invV [] [] E (c_X6_copyFrom hj (in_cl g1) hj1 (in_cl g2) h1) ml_X3_18 mv_X6_copyFrom rfl ⟨le_ rfl, le_ rfl⟩ (rcX (okb22 hj (in_cl g1)) cf_X6 ent22) rfl rfl (le_ rfl) ⟨le_ rfl, le_ rfl⟩ dX3_copyFrom_20 ?_
      refine j_iinc (ls' := [(2, .int (v2 + 1)), (0, .ref (z + aX 20 j 0)), (1, .ref (z + aX 20 j1 0))]) E 2 rfl (lt_ rfl) (v2 + 1) (congrArg (fun q => v2 + q) ic_1) rfl dX3_copyFrom_23 ?_
      refine j_goto E 2 (by decide) dX3_copyFrom_26 ?_
      refine j_sub [1, 2, 0] rfl ?_
      exact ih _ _ hf
set_option maxRecDepth 20000 in
theorem c_X3_copyFrom {l : Launch} {D : DD} {z : Nat} {Y : YT} {X : XT} {j j1 : Nat} (hj : j < 10) (hj1 : j1 < 10) {X' : XT} (hf : f_X3_copyFrom X j j1 = some X') : CC l yX3_copyFrom cX3_copyFrom 3 none (rmk 2 0 0) D z [.ref (z + aX 20 j 0), .ref (z + aX 20 j1 0)] (GG D z (X, Y)) none (GG D z (X', Y)) := by
  unfold f_X3_copyFrom at hf
  refine cc_of pn_X3 (le_ rfl) (ls := [(0, .ref (z + aX 20 j 0)), (1, .ref (z + aX 20 j1 0))]) rfl ?_
  intro p e s m args below meth c E
  refine j_iconst E 0 ic_0 dX3_copyFrom_0 ?_
  refine j_istore_n (ls' := [(2, .int 0), (0, .ref (z + aX 20 j 0)), (1, .ref (z + aX 20 j1 0))]) E (lt_ rfl) rfl dX3_copyFrom_1 ?_
  refine j_sub [1, 2, 0] rfl ?_
  exact b_X3_copyFrom_2 hj hj1 E 2000 _ _ hf
def f_X9_copyFrom (X : XT) (j i j1 i1 : Nat) : Option XT :=
  bnd (xs X 26 j i 0 (X 26 j1 i1 0)) (fun X1 => bnd (xs X1 26 j i 1 (X1 26 j1 i1 1)) (fun X2 => bnd (xs X2 26 j i 2 (X2 26 j1 i1 2)) (fun X3 => bnd (xs X3 26 j i 3 (X3 26 j1 i1 3)) (fun X4 => some X4))))
set_option maxRecDepth 20000 in
theorem c_X9_copyFrom {l : Launch} {D : DD} {z : Nat} {Y : YT} {X : XT} {j i j1 i1 : Nat} (hj : j < 10) (hi : i < 5) (hj1 : j1 < 10) (hi1 : i1 < 5) {X' : XT} (hf : f_X9_copyFrom X j i j1 i1 = some X') : CC l yX9_copyFrom cX9_copyFrom 2 none (rmk 1 0 0) D z [.ref (z + aX 26 j i), .ref (z + aX 26 j1 i1)] (GG D z (X, Y)) none (GG D z (X', Y)) := by
  unfold f_X9_copyFrom at hf
  refine cc_of pn_X9 (le_ rfl) (ls := [(0, .ref (z + aX 26 j i)), (1, .ref (z + aX 26 j1 i1))]) rfl ?_
  intro p e s m args below meth c E
  refine j_aload_n E 0 rfl dX9_copyFrom_0 ?_
  refine j_aload_n E 1 rfl dX9_copyFrom_1 ?_
  refine j_get (f := 0) E (okb26 hj1 hi1) cf_X9 fl_X9_15 (lt_ rfl) rfl ent26 rfl dX9_copyFrom_2 ?_
  obtain ⟨X1, hX1, hf⟩ := bnd_e hf
  refine j_put (f := 0) E (okb26 hj hi) cf_X9 fl_X9_15 (lt_ rfl) ⟨rfl, rfl⟩ (fit_i _) ent26 pe26_0 (lt_ rfl) hX1 dX9_copyFrom_5 ?_
  refine j_aload_n E 0 rfl dX9_copyFrom_8 ?_
  refine j_aload_n E 1 rfl dX9_copyFrom_9 ?_
  refine j_get (f := 1) E (okb26 hj1 hi1) cf_X9 fl_X9_18 (lt_ rfl) rfl ent26 rfl dX9_copyFrom_10 ?_
  obtain ⟨X2, hX2, hf⟩ := bnd_e hf
  refine j_put (f := 1) E (okb26 hj hi) cf_X9 fl_X9_18 (lt_ rfl) ⟨rfl, rfl⟩ (fit_i _) ent26 pe26_1 (lt_ rfl) hX2 dX9_copyFrom_13 ?_
  refine j_aload_n E 0 rfl dX9_copyFrom_16 ?_
  refine j_aload_n E 1 rfl dX9_copyFrom_17 ?_
  refine j_get (f := 2) E (okb26 hj1 hi1) cf_X9 fl_X9_9 (lt_ rfl) rfl ent26 rfl dX9_copyFrom_18 ?_
  obtain ⟨X3, hX3, hf⟩ := bnd_e hf
  refine j_put (f := 2) E (okb26 hj hi) cf_X9 fl_X9_9 (lt_ rfl) ⟨rfl, rfl⟩ (fit_i _) ent26 pe26_2 (lt_ rfl) hX3 dX9_copyFrom_21 ?_
  refine j_aload_n E 0 rfl dX9_copyFrom_24 ?_
  refine j_aload_n E 1 rfl dX9_copyFrom_25 ?_
  refine j_get (f := 3) E (okb26 hj1 hi1) cf_X9 fl_X9_21 (lt_ rfl) rfl ent26 rfl dX9_copyFrom_26 ?_
  obtain ⟨X4, hX4, hf⟩ := bnd_e hf
  refine j_put (f := 3) E (okb26 hj hi) cf_X9 fl_X9_21 (lt_ rfl) ⟨rfl, rfl⟩ (fit_i _) ent26 pe26_3 (lt_ rfl) hX4 dX9_copyFrom_29 ?_
  cases hf
  exact j_vret E (le_ rfl) (le_ rfl) dX9_copyFrom_32
def f_X7_copyFrom (X : XT) (j i j1 i1 : Nat) : Option XT :=
  bnd (xs X 27 j i 0 (X 27 j1 i1 0)) (fun X1 => bnd (xs X1 27 j i 1 (X1 27 j1 i1 1)) (fun X2 => bnd (xs X2 27 j i 2 (X2 27 j1 i1 2)) (fun X3 => bnd (xs X3 27 j i 3 (X3 27 j1 i1 3)) (fun X4 => some X4))))
set_option maxRecDepth 20000 in
theorem c_X7_copyFrom {l : Launch} {D : DD} {z : Nat} {Y : YT} {X : XT} {j i j1 i1 : Nat} (hj : j < 10) (hi : i < 12) (hj1 : j1 < 10) (hi1 : i1 < 12) {X' : XT} (hf : f_X7_copyFrom X j i j1 i1 = some X') : CC l yX7_copyFrom cX7_copyFrom 2 none (rmk 1 0 0) D z [.ref (z + aX 27 j i), .ref (z + aX 27 j1 i1)] (GG D z (X, Y)) none (GG D z (X', Y)) := by
  unfold f_X7_copyFrom at hf
  refine cc_of pn_X7 (le_ rfl) (ls := [(0, .ref (z + aX 27 j i)), (1, .ref (z + aX 27 j1 i1))]) rfl ?_
  intro p e s m args below meth c E
  refine j_aload_n E 0 rfl dX7_copyFrom_0 ?_
  refine j_aload_n E 1 rfl dX7_copyFrom_1 ?_
  refine j_get (f := 0) E (okb27 hj1 hi1) cf_X7 fl_X7_7 (lt_ rfl) rfl ent27 rfl dX7_copyFrom_2 ?_
  obtain ⟨X1, hX1, hf⟩ := bnd_e hf
  refine j_put (f := 0) E (okb27 hj hi) cf_X7 fl_X7_7 (lt_ rfl) ⟨rfl, rfl⟩ (fit_i _) ent27 pe27_0 (lt_ rfl) hX1 dX7_copyFrom_5 ?_
  refine j_aload_n E 0 rfl dX7_copyFrom_8 ?_
  refine j_aload_n E 1 rfl dX7_copyFrom_9 ?_
  refine j_get (f := 1) E (okb27 hj1 hi1) cf_X7 fl_X7_13 (lt_ rfl) rfl ent27 rfl dX7_copyFrom_10 ?_
  obtain ⟨X2, hX2, hf⟩ := bnd_e hf
  refine j_put (f := 1) E (okb27 hj hi) cf_X7 fl_X7_13 (lt_ rfl) ⟨rfl, rfl⟩ (fit_i _) ent27 pe27_1 (lt_ rfl) hX2 dX7_copyFrom_13 ?_
  refine j_aload_n E 0 rfl dX7_copyFrom_16 ?_
  refine j_aload_n E 1 rfl dX7_copyFrom_17 ?_
  refine j_get (f := 2) E (okb27 hj1 hi1) cf_X7 fl_X7_16 (lt_ rfl) rfl ent27 rfl dX7_copyFrom_18 ?_
  obtain ⟨X3, hX3, hf⟩ := bnd_e hf
  refine j_put (f := 2) E (okb27 hj hi) cf_X7 fl_X7_16 (lt_ rfl) ⟨rfl, rfl⟩ (fit_i _) ent27 pe27_2 (lt_ rfl) hX3 dX7_copyFrom_21 ?_
  refine j_aload_n E 0 rfl dX7_copyFrom_24 ?_
  refine j_aload_n E 1 rfl dX7_copyFrom_25 ?_
  refine j_get (f := 3) E (okb27 hj1 hi1) cf_X7 fl_X7_19 (lt_ rfl) rfl ent27 rfl dX7_copyFrom_26 ?_
  obtain ⟨X4, hX4, hf⟩ := bnd_e hf
  refine j_put (f := 3) E (okb27 hj hi) cf_X7 fl_X7_19 (lt_ rfl) ⟨rfl, rfl⟩ (fit_i _) ent27 pe27_3 (lt_ rfl) hX4 dX7_copyFrom_29 ?_
  cases hf
  exact j_vret E (le_ rfl) (le_ rfl) dX7_copyFrom_32
def f_X2_copyFrom_30 (j j1 : Nat) : Nat → XT → Int32 → Option XT
  | 0, _, _ => none
  | n + 1, X, v2 => if 12 ≤ v2 then (bnd (xs X 23 j 0 2 (X 23 j1 0 2)) (fun X1 => bnd (xs X1 23 j 0 3 (X1 23 j1 0 3)) (fun X2 => some X2))) else (gd (¬ (v2 < 0 ∨ 12 ≤ v2.toNatClampNeg)) (gd (¬ (v2 < 0 ∨ 12 ≤ v2.toNatClampNeg)) (bn1 (f_X7_copyFrom X j (v2.toNatClampNeg) j1 (v2.toNatClampNeg)) (fun X3 => f_X2_copyFrom_30 j j1 n X3 (v2 + 1)))))
def f_X2_copyFrom_2 (j j1 : Nat) : Nat → XT → Int32 → Option XT
  | 0, _, _ => none
  | n + 1, X, v2 => if 5 ≤ v2 then (f_X2_copyFrom_30 j j1 2000 X 0) else (gd (¬ (v2 < 0 ∨ 5 ≤ v2.toNatClampNeg)) (gd (¬ (v2 < 0 ∨ 5 ≤ v2.toNatClampNeg)) (bn1 (f_X9_copyFrom X j (v2.toNatClampNeg) j1 (v2.toNatClampNeg)) (fun X1 => f_X2_copyFrom_2 j j1 n X1 (v2 + 1)))))
def f_X2_copyFrom (X : XT) (j j1 : Nat) : Option XT :=
  f_X2_copyFrom_2 j j1 2000 X 0
set_option maxRecDepth 20000 in
theorem b_X2_copyFrom_30 {p : Program} {l : Launch} {e : Env} {s : State} {m : MethodId} {args : Array Value} {below : List Frame} {meth : Method} {c : Code} {D : DD} {z : Nat} {Y : YT} {j j1 : Nat} (hj : j < 10) (hj1 : j1 < 10) (E : Cx p s m args meth c D z RX2 cX2_copyFrom 3 none) {X' : XT} : ∀ (n : Nat) (X : XT) (v2 : Int32) (hf : f_X2_copyFrom_30 j j1 n X v2 = some X'), J p l e (rmk 2 0 0) s m args below meth c D z (GG D z (X, Y)) 0 0 (MQ below (QC z none (GG D z (X', Y))) args s (rmk 2 0 0).cells (rmk 2 0 0).slots (Az z)) 3 30 [(0, .ref (z + aX 23 j 0)), (1, .ref (z + aX 23 j1 0)), (2, .int v2)] [] := by
  intro n
  induction n with
  | zero =>
    intro X v2 hf
    exact none_e hf
  | succ n ih =>
    intro X v2 hf
    rw [f_X2_copyFrom_30] at hf
    refine j_iload_n E 2 rfl dX2_copyFrom_30 ?_
    refine j_bipush E 12 bp_12 dX2_copyFrom_31 ?_
    refine j_icmp_ge E 57 (by decide) dX2_copyFrom_33 (fun c1 => ?_) (fun c1 => ?_)
    · rw [if_pos c1] at hf
      refine j_aload_n E 0 rfl dX2_copyFrom_57 ?_
      refine j_aload_n E 1 rfl dX2_copyFrom_58 ?_
      refine j_get (f := 2) E (okb23 hj1) cf_X2 fl_X2_32 (lt_ rfl) rfl ent23 rfl dX2_copyFrom_59 ?_
      obtain ⟨X1, hX1, hf⟩ := bnd_e hf
      refine j_put (f := 2) E (okb23 hj) cf_X2 fl_X2_32 (lt_ rfl) ⟨rfl, rfl⟩ (fit_i _) ent23 pe23_2 (lt_ rfl) hX1 dX2_copyFrom_62 ?_
      refine j_aload_n E 0 rfl dX2_copyFrom_65 ?_
      refine j_aload_n E 1 rfl dX2_copyFrom_66 ?_
      refine j_get (f := 3) E (okb23 hj1) cf_X2 fl_X2_36 (lt_ rfl) rfl ent23 rfl dX2_copyFrom_67 ?_
      obtain ⟨X2, hX2, hf⟩ := bnd_e hf
      refine j_put (f := 3) E (okb23 hj) cf_X2 fl_X2_36 (lt_ rfl) ⟨rfl, rfl⟩ (fit_i _) ent23 pe23_3 (lt_ rfl) hX2 dX2_copyFrom_70 ?_
      cases hf
      exact j_vret E (le_ rfl) (le_ rfl) dX2_copyFrom_73
    · rw [if_neg c1] at hf
      refine j_aload_n E 0 rfl dX2_copyFrom_36 ?_
      refine j_get (f := 1) E (okb23 hj) cf_X2 fl_X2_19 (lt_ rfl) rfl ent23 rfl dX2_copyFrom_37 ?_
      refine j_iload_n E 2 rfl dX2_copyFrom_40 ?_
      obtain ⟨g1, hf⟩ := gd_e hf
      refine j_aald (t := 6) E (okb25 hj) ent25 rfl g1 dX2_copyFrom_41 ?_
      refine j_aload_n E 1 rfl dX2_copyFrom_42 ?_
      refine j_get (f := 1) E (okb23 hj1) cf_X2 fl_X2_19 (lt_ rfl) rfl ent23 rfl dX2_copyFrom_43 ?_
      refine j_iload_n E 2 rfl dX2_copyFrom_46 ?_
      obtain ⟨g2, hf⟩ := gd_e hf
      refine j_aald (t := 6) E (okb25 hj1) ent25 rfl g2 dX2_copyFrom_47 ?_
      obtain ⟨X3, h1, hf⟩ := bn1_e hf
      refine j_invV [] [] E (c_X7_copyFrom hj (in_cl g1) hj1 (in_cl g2) h1) ml_X2_29 mv_X7_copyFrom rfl ⟨le_ rfl, le_ rfl⟩ (rcX (okb27 hj (in_cl g1)) cf_X7 ent27) rfl rfl (le_ rfl) ⟨le_ rfl, le_ rfl⟩ dX2_copyFrom_48 ?_
      refine j_iinc (ls' := [(2, .int (v2 + 1)), (0, .ref (z + aX 23 j 0)), (1, .ref (z + aX 23 j1 0))]) E 2 rfl (lt_ rfl) (v2 + 1) (congrArg (fun q => v2 + q) ic_1) rfl dX2_copyFrom_51 ?_
      refine j_goto E 30 (by decide) dX2_copyFrom_54 ?_
      refine j_sub [1, 2, 0] rfl ?_
      exact ih _ _ hf
set_option maxRecDepth 20000 in
theorem b_X2_copyFrom_2 {p : Program} {l : Launch} {e : Env} {s : State} {m : MethodId} {args : Array Value} {below : List Frame} {meth : Method} {c : Code} {D : DD} {z : Nat} {Y : YT} {j j1 : Nat} (hj : j < 10) (hj1 : j1 < 10) (E : Cx p s m args meth c D z RX2 cX2_copyFrom 3 none) {X' : XT} : ∀ (n : Nat) (X : XT) (v2 : Int32) (hf : f_X2_copyFrom_2 j j1 n X v2 = some X'), J p l e (rmk 2 0 0) s m args below meth c D z (GG D z (X, Y)) 0 0 (MQ below (QC z none (GG D z (X', Y))) args s (rmk 2 0 0).cells (rmk 2 0 0).slots (Az z)) 3 2 [(0, .ref (z + aX 23 j 0)), (1, .ref (z + aX 23 j1 0)), (2, .int v2)] [] := by
  intro n
  induction n with
  | zero =>
    intro X v2 hf
    exact none_e hf
  | succ n ih =>
    intro X v2 hf
    rw [f_X2_copyFrom_2] at hf
    refine j_iload_n E 2 rfl dX2_copyFrom_2 ?_
    refine j_iconst E 5 ic_5 dX2_copyFrom_3 ?_
    refine j_icmp_ge E 28 (by decide) dX2_copyFrom_4 (fun c1 => ?_) (fun c1 => ?_)
    · rw [if_pos c1] at hf
      refine j_iconst E 0 ic_0 dX2_copyFrom_28 ?_
      refine j_istore_n (ls' := [(2, .int 0), (0, .ref (z + aX 23 j 0)), (1, .ref (z + aX 23 j1 0))]) E (lt_ rfl) rfl dX2_copyFrom_29 ?_
      refine j_sub [1, 2, 0] rfl ?_
      exact b_X2_copyFrom_30 hj hj1 E 2000 _ _ hf
    · rw [if_neg c1] at hf
      refine j_aload_n E 0 rfl dX2_copyFrom_7 ?_
      refine j_get (f := 0) E (okb23 hj) cf_X2 fl_X2_11 (lt_ rfl) rfl ent23 rfl dX2_copyFrom_8 ?_
      refine j_iload_n E 2 rfl dX2_copyFrom_11 ?_
      obtain ⟨g1, hf⟩ := gd_e hf
      refine j_aald (t := 5) E (okb24 hj) ent24 rfl g1 dX2_copyFrom_12 ?_
      refine j_aload_n E 1 rfl dX2_copyFrom_13 ?_
      refine j_get (f := 0) E (okb23 hj1) cf_X2 fl_X2_11 (lt_ rfl) rfl ent23 rfl dX2_copyFrom_14 ?_
      refine j_iload_n E 2 rfl dX2_copyFrom_17 ?_
      obtain ⟨g2, hf⟩ := gd_e hf
      refine j_aald (t := 5) E (okb24 hj1) ent24 rfl g2 dX2_copyFrom_18 ?_
      obtain ⟨X1, h1, hf⟩ := bn1_e hf
      refine j_invV [] [] E (c_X9_copyFrom hj (in_cl g1) hj1 (in_cl g2) h1) ml_X2_25 mv_X9_copyFrom rfl ⟨le_ rfl, le_ rfl⟩ (rcX (okb26 hj (in_cl g1)) cf_X9 ent26) rfl rfl (le_ rfl) ⟨le_ rfl, le_ rfl⟩ dX2_copyFrom_19 ?_
      refine j_iinc (ls' := [(2, .int (v2 + 1)), (0, .ref (z + aX 23 j 0)), (1, .ref (z + aX 23 j1 0))]) E 2 rfl (lt_ rfl) (v2 + 1) (congrArg (fun q => v2 + q) ic_1) rfl dX2_copyFrom_22 ?_
      refine j_goto E 2 (by decide) dX2_copyFrom_25 ?_
      refine j_sub [1, 2, 0] rfl ?_
      exact ih _ _ hf
set_option maxRecDepth 20000 in
theorem c_X2_copyFrom {l : Launch} {D : DD} {z : Nat} {Y : YT} {X : XT} {j j1 : Nat} (hj : j < 10) (hj1 : j1 < 10) {X' : XT} (hf : f_X2_copyFrom X j j1 = some X') : CC l yX2_copyFrom cX2_copyFrom 3 none (rmk 2 0 0) D z [.ref (z + aX 23 j 0), .ref (z + aX 23 j1 0)] (GG D z (X, Y)) none (GG D z (X', Y)) := by
  unfold f_X2_copyFrom at hf
  refine cc_of pn_X2 (le_ rfl) (ls := [(0, .ref (z + aX 23 j 0)), (1, .ref (z + aX 23 j1 0))]) rfl ?_
  intro p e s m args below meth c E
  refine j_iconst E 0 ic_0 dX2_copyFrom_0 ?_
  refine j_istore_n (ls' := [(2, .int 0), (0, .ref (z + aX 23 j 0)), (1, .ref (z + aX 23 j1 0))]) E (lt_ rfl) rfl dX2_copyFrom_1 ?_
  refine j_sub [1, 2, 0] rfl ?_
  exact b_X2_copyFrom_2 hj hj1 E 2000 _ _ hf
def f_X0_copyFrom (X : XT) (j j1 : Nat) : Option XT :=
  bn1 (f_X1_copyFrom X j j1) (fun X1 => bn1 (f_X5_copyFrom X1 j j1) (fun X2 => bn1 (f_X3_copyFrom X2 j j1) (fun X3 => bn1 (f_X2_copyFrom X3 j j1) (fun X4 => bnd (xs X4 10 j 0 4 (X4 10 j1 0 4)) (fun X5 => bnd (xs X5 10 j 0 5 (X5 10 j1 0 5)) (fun X6 => bnd (xs X6 10 j 0 6 (X6 10 j1 0 6)) (fun X7 => some X7)))))))
set_option maxRecDepth 20000 in
theorem c_X0_copyFrom {l : Launch} {D : DD} {z : Nat} {Y : YT} {X : XT} {j j1 : Nat} (hj : j < 10) (hj1 : j1 < 10) {X' : XT} (hf : f_X0_copyFrom X j j1 = some X') : CC l yX0_copyFrom cX0_copyFrom 2 none (rmk 3 0 0) D z [.ref (z + aX 10 j 0), .ref (z + aX 10 j1 0)] (GG D z (X, Y)) none (GG D z (X', Y)) := by
  unfold f_X0_copyFrom at hf
  refine cc_of pn_X0 (le_ rfl) (ls := [(0, .ref (z + aX 10 j 0)), (1, .ref (z + aX 10 j1 0))]) rfl ?_
  intro p e s m args below meth c E
  refine j_aload_n E 0 rfl dX0_copyFrom_0 ?_
  refine j_get (f := 0) E (okb10 hj) cf_X0 fl_X0_12 (lt_ rfl) rfl ent10 rfl dX0_copyFrom_1 ?_
  refine j_aload_n E 1 rfl dX0_copyFrom_4 ?_
  refine j_get (f := 0) E (okb10 hj1) cf_X0 fl_X0_12 (lt_ rfl) rfl ent10 rfl dX0_copyFrom_5 ?_
  obtain ⟨X1, h1, hf⟩ := bn1_e hf
  refine j_invV [] [] E (c_X1_copyFrom hj hj1 h1) ml_X0_74 mv_X1_copyFrom rfl ⟨le_ rfl, le_ rfl⟩ (rcX (okb11 hj) cf_X1 ent11) rfl rfl (le_ rfl) ⟨le_ rfl, le_ rfl⟩ dX0_copyFrom_8 ?_
  refine j_aload_n E 0 rfl dX0_copyFrom_11 ?_
  refine j_get (f := 1) E (okb10 hj) cf_X0 fl_X0_21 (lt_ rfl) rfl ent10 rfl dX0_copyFrom_12 ?_
  refine j_aload_n E 1 rfl dX0_copyFrom_15 ?_
  refine j_get (f := 1) E (okb10 hj1) cf_X0 fl_X0_21 (lt_ rfl) rfl ent10 rfl dX0_copyFrom_16 ?_
  obtain ⟨X2, h2, hf⟩ := bn1_e hf
  refine j_invV [] [] E (c_X5_copyFrom hj hj1 h2) ml_X0_78 mv_X5_copyFrom rfl ⟨le_ rfl, le_ rfl⟩ (rcX (okb15 hj) cf_X5 ent15) rfl rfl (le_ rfl) ⟨le_ rfl, le_ rfl⟩ dX0_copyFrom_19 ?_
  refine j_aload_n E 0 rfl dX0_copyFrom_22 ?_
  refine j_get (f := 2) E (okb10 hj) cf_X0 fl_X0_28 (lt_ rfl) rfl ent10 rfl dX0_copyFrom_23 ?_
  refine j_aload_n E 1 rfl dX0_copyFrom_26 ?_
  refine j_get (f := 2) E (okb10 hj1) cf_X0 fl_X0_28 (lt_ rfl) rfl ent10 rfl dX0_copyFrom_27 ?_
  obtain ⟨X3, h3, hf⟩ := bn1_e hf
  refine j_invV [] [] E (c_X3_copyFrom hj hj1 h3) ml_X0_81 mv_X3_copyFrom rfl ⟨le_ rfl, le_ rfl⟩ (rcX (okb20 hj) cf_X3 ent20) rfl rfl (le_ rfl) ⟨le_ rfl, le_ rfl⟩ dX0_copyFrom_30 ?_
  refine j_aload_n E 0 rfl dX0_copyFrom_33 ?_
  refine j_get (f := 3) E (okb10 hj) cf_X0 fl_X0_35 (lt_ rfl) rfl ent10 rfl dX0_copyFrom_34 ?_
  refine j_aload_n E 1 rfl dX0_copyFrom_37 ?_
  refine j_get (f := 3) E (okb10 hj1) cf_X0 fl_X0_35 (lt_ rfl) rfl ent10 rfl dX0_copyFrom_38 ?_
  obtain ⟨X4, h4, hf⟩ := bn1_e hf
  refine j_invV [] [] E (c_X2_copyFrom hj hj1 h4) ml_X0_84 mv_X2_copyFrom rfl ⟨le_ rfl, le_ rfl⟩ (rcX (okb23 hj) cf_X2 ent23) rfl rfl (le_ rfl) ⟨le_ rfl, le_ rfl⟩ dX0_copyFrom_41 ?_
  refine j_aload_n E 0 rfl dX0_copyFrom_44 ?_
  refine j_aload_n E 1 rfl dX0_copyFrom_45 ?_
  refine j_get (f := 4) E (okb10 hj1) cf_X0 fl_X0_65 (lt_ rfl) rfl ent10 rfl dX0_copyFrom_46 ?_
  obtain ⟨X5, hX5, hf⟩ := bnd_e hf
  refine j_put (f := 4) E (okb10 hj) cf_X0 fl_X0_65 (lt_ rfl) ⟨rfl, rfl⟩ (fit_i _) ent10 pe10_4 (lt_ rfl) hX5 dX0_copyFrom_49 ?_
  refine j_aload_n E 0 rfl dX0_copyFrom_52 ?_
  refine j_aload_n E 1 rfl dX0_copyFrom_53 ?_
  refine j_get (f := 5) E (okb10 hj1) cf_X0 fl_X0_68 (lt_ rfl) rfl ent10 rfl dX0_copyFrom_54 ?_
  obtain ⟨X6, hX6, hf⟩ := bnd_e hf
  refine j_put (f := 5) E (okb10 hj) cf_X0 fl_X0_68 (lt_ rfl) ⟨rfl, rfl⟩ (fit_i _) ent10 pe10_5 (lt_ rfl) hX6 dX0_copyFrom_57 ?_
  refine j_aload_n E 0 rfl dX0_copyFrom_60 ?_
  refine j_aload_n E 1 rfl dX0_copyFrom_61 ?_
  refine j_get (f := 6) E (okb10 hj1) cf_X0 fl_X0_71 (lt_ rfl) rfl ent10 rfl dX0_copyFrom_62 ?_
  obtain ⟨X7, hX7, hf⟩ := bnd_e hf
  refine j_put (f := 6) E (okb10 hj) cf_X0 fl_X0_71 (lt_ rfl) ⟨rfl, rfl⟩ (fit_i _) ent10 pe10_6 (lt_ rfl) hX7 dX0_copyFrom_65 ?_
  cases hf
  exact j_vret E (le_ rfl) (le_ rfl) dX0_copyFrom_68
def f_X1_varietyNamed_2 (X : XT) (j : Nat) (v1 : Int32) : Nat → Int32 → Option Int32
  | 0, _ => none
  | n + 1, v2 => if (X 11 j 0 4) ≤ v2 then (some (-1)) else (gd (¬ (v2 < 0 ∨ 4 ≤ v2.toNatClampNeg)) (if (X 13 j 0 v2.toNatClampNeg) = v1 then (some v2) else (f_X1_varietyNamed_2 X j v1 n (v2 + 1))))
def f_X1_varietyNamed (X : XT) (j : Nat) (v1 : Int32) : Option Int32 :=
  f_X1_varietyNamed_2 X j v1 2000 0
set_option maxRecDepth 20000 in
theorem b_X1_varietyNamed_2 {p : Program} {l : Launch} {e : Env} {s : State} {m : MethodId} {args : Array Value} {below : List Frame} {meth : Method} {c : Code} {D : DD} {z : Nat} {Y : YT} {X : XT} {j : Nat} (hj : j < 10) {v1 : Int32} (E : Cx p s m args meth c D z RX1 cX1_varietyNamed 3 (some .int)) {r : Int32} : ∀ (n : Nat) (v2 : Int32) (hf : f_X1_varietyNamed_2 X j v1 n v2 = some r), J p l e (rmk 1 0 0) s m args below meth c D z (GG D z (X, Y)) 0 0 (MQ below (QC z (some (.int r)) (GG D z (X, Y))) args s (rmk 1 0 0).cells (rmk 1 0 0).slots (Az z)) 3 2 [(0, .ref (z + aX 11 j 0)), (1, .int v1), (2, .int v2)] [] := by
  intro n
  induction n with
  | zero =>
    intro v2 hf
    exact none_e hf
  | succ n ih =>
    intro v2 hf
    rw [f_X1_varietyNamed_2] at hf
    refine j_iload_n E 2 rfl dX1_varietyNamed_2 ?_
    refine j_aload_n E 0 rfl dX1_varietyNamed_3 ?_
    refine j_get (f := 4) E (okb11 hj) cf_X1 fl_X1_31 (lt_ rfl) rfl ent11 rfl dX1_varietyNamed_4 ?_
    refine j_icmp_ge E 28 (by decide) dX1_varietyNamed_7 (fun c1 => ?_) (fun c1 => ?_)
    · rw [if_pos c1] at hf
      refine j_iconst E (-1) ic_m1 dX1_varietyNamed_28 ?_
      cases hf
      exact j_iret E rfl (le_ rfl) (le_ rfl) dX1_varietyNamed_29
    · rw [if_neg c1] at hf
      refine j_aload_n E 0 rfl dX1_varietyNamed_10 ?_
      refine j_get (f := 1) E (okb11 hj) cf_X1 fl_X1_15 (lt_ rfl) rfl ent11 rfl dX1_varietyNamed_11 ?_
      refine j_iload_n E 2 rfl dX1_varietyNamed_14 ?_
      obtain ⟨g1, hf⟩ := gd_e hf
      refine j_iald E (okb13 hj) ent13 g1 (v2.toNatClampNeg) rfl dX1_varietyNamed_15 ?_
      refine j_iload_n E 1 rfl dX1_varietyNamed_16 ?_
      refine j_icmp_ne E 22 (by decide) dX1_varietyNamed_17 (fun c2 => ?_) (fun c2 => ?_)
      · rw [if_neg c2] at hf
        refine j_iinc (ls' := [(2, .int (v2 + 1)), (0, .ref (z + aX 11 j 0)), (1, .int v1)]) E 2 rfl (lt_ rfl) (v2 + 1) (congrArg (fun q => v2 + q) ic_1) rfl dX1_varietyNamed_22 ?_
        refine j_goto E 2 (by decide) dX1_varietyNamed_25 ?_
        refine j_sub [1, 2, 0] rfl ?_
        exact ih _ hf
      · rw [if_pos c2] at hf
        refine j_iload_n E 2 rfl dX1_varietyNamed_20 ?_
        cases hf
        exact j_iret E rfl (le_ rfl) (le_ rfl) dX1_varietyNamed_21
set_option maxRecDepth 20000 in
theorem c_X1_varietyNamed {l : Launch} {D : DD} {z : Nat} {Y : YT} {X : XT} {j : Nat} (hj : j < 10) {v1 : Int32} {r : Int32} (hf : f_X1_varietyNamed X j v1 = some r) : CC l yX1_varietyNamed cX1_varietyNamed 3 (some .int) (rmk 1 0 0) D z [.ref (z + aX 11 j 0), .int v1] (GG D z (X, Y)) (some (.int r)) (GG D z (X, Y)) := by
  unfold f_X1_varietyNamed at hf
  refine cc_of pn_X1 (le_ rfl) (ls := [(0, .ref (z + aX 11 j 0)), (1, .int v1)]) rfl ?_
  intro p e s m args below meth c E
  refine j_iconst E 0 ic_0 dX1_varietyNamed_0 ?_
  refine j_istore_n (ls' := [(2, .int 0), (0, .ref (z + aX 11 j 0)), (1, .int v1)]) E (lt_ rfl) rfl dX1_varietyNamed_1 ?_
  refine j_sub [1, 2, 0] rfl ?_
  exact b_X1_varietyNamed_2 hj E 2000 _ hf
def f_X5_growerNamed_2 (X : XT) (j : Nat) (v1 : Int32) : Nat → Int32 → Option Int32
  | 0, _ => none
  | n + 1, v2 => if (X 15 j 0 4) ≤ v2 then (some (-1)) else (gd (¬ (v2 < 0 ∨ 6 ≤ v2.toNatClampNeg)) (if (X 16 j 0 v2.toNatClampNeg) = v1 then (some v2) else (f_X5_growerNamed_2 X j v1 n (v2 + 1))))
def f_X5_growerNamed (X : XT) (j : Nat) (v1 : Int32) : Option Int32 :=
  f_X5_growerNamed_2 X j v1 2000 0
set_option maxRecDepth 20000 in
theorem b_X5_growerNamed_2 {p : Program} {l : Launch} {e : Env} {s : State} {m : MethodId} {args : Array Value} {below : List Frame} {meth : Method} {c : Code} {D : DD} {z : Nat} {Y : YT} {X : XT} {j : Nat} (hj : j < 10) {v1 : Int32} (E : Cx p s m args meth c D z RX5 cX5_growerNamed 3 (some .int)) {r : Int32} : ∀ (n : Nat) (v2 : Int32) (hf : f_X5_growerNamed_2 X j v1 n v2 = some r), J p l e (rmk 1 0 0) s m args below meth c D z (GG D z (X, Y)) 0 0 (MQ below (QC z (some (.int r)) (GG D z (X, Y))) args s (rmk 1 0 0).cells (rmk 1 0 0).slots (Az z)) 3 2 [(0, .ref (z + aX 15 j 0)), (1, .int v1), (2, .int v2)] [] := by
  intro n
  induction n with
  | zero =>
    intro v2 hf
    exact none_e hf
  | succ n ih =>
    intro v2 hf
    rw [f_X5_growerNamed_2] at hf
    refine j_iload_n E 2 rfl dX5_growerNamed_2 ?_
    refine j_aload_n E 0 rfl dX5_growerNamed_3 ?_
    refine j_get (f := 4) E (okb15 hj) cf_X5 fl_X5_30 (lt_ rfl) rfl ent15 rfl dX5_growerNamed_4 ?_
    refine j_icmp_ge E 28 (by decide) dX5_growerNamed_7 (fun c1 => ?_) (fun c1 => ?_)
    · rw [if_pos c1] at hf
      refine j_iconst E (-1) ic_m1 dX5_growerNamed_28 ?_
      cases hf
      exact j_iret E rfl (le_ rfl) (le_ rfl) dX5_growerNamed_29
    · rw [if_neg c1] at hf
      refine j_aload_n E 0 rfl dX5_growerNamed_10 ?_
      refine j_get (f := 0) E (okb15 hj) cf_X5 fl_X5_9 (lt_ rfl) rfl ent15 rfl dX5_growerNamed_11 ?_
      refine j_iload_n E 2 rfl dX5_growerNamed_14 ?_
      obtain ⟨g1, hf⟩ := gd_e hf
      refine j_iald E (okb16 hj) ent16 g1 (v2.toNatClampNeg) rfl dX5_growerNamed_15 ?_
      refine j_iload_n E 1 rfl dX5_growerNamed_16 ?_
      refine j_icmp_ne E 22 (by decide) dX5_growerNamed_17 (fun c2 => ?_) (fun c2 => ?_)
      · rw [if_neg c2] at hf
        refine j_iinc (ls' := [(2, .int (v2 + 1)), (0, .ref (z + aX 15 j 0)), (1, .int v1)]) E 2 rfl (lt_ rfl) (v2 + 1) (congrArg (fun q => v2 + q) ic_1) rfl dX5_growerNamed_22 ?_
        refine j_goto E 2 (by decide) dX5_growerNamed_25 ?_
        refine j_sub [1, 2, 0] rfl ?_
        exact ih _ hf
      · rw [if_pos c2] at hf
        refine j_iload_n E 2 rfl dX5_growerNamed_20 ?_
        cases hf
        exact j_iret E rfl (le_ rfl) (le_ rfl) dX5_growerNamed_21
set_option maxRecDepth 20000 in
theorem c_X5_growerNamed {l : Launch} {D : DD} {z : Nat} {Y : YT} {X : XT} {j : Nat} (hj : j < 10) {v1 : Int32} {r : Int32} (hf : f_X5_growerNamed X j v1 = some r) : CC l yX5_growerNamed cX5_growerNamed 3 (some .int) (rmk 1 0 0) D z [.ref (z + aX 15 j 0), .int v1] (GG D z (X, Y)) (some (.int r)) (GG D z (X, Y)) := by
  unfold f_X5_growerNamed at hf
  refine cc_of pn_X5 (le_ rfl) (ls := [(0, .ref (z + aX 15 j 0)), (1, .int v1)]) rfl ?_
  intro p e s m args below meth c E
  refine j_iconst E 0 ic_0 dX5_growerNamed_0 ?_
  refine j_istore_n (ls' := [(2, .int 0), (0, .ref (z + aX 15 j 0)), (1, .int v1)]) E (lt_ rfl) rfl dX5_growerNamed_1 ?_
  refine j_sub [1, 2, 0] rfl ?_
  exact b_X5_growerNamed_2 hj E 2000 _ hf
def f_X0_isNameTaken (X : XT) (j : Nat) (v1 : Int32) : Option Int32 :=
  bn1 (f_X1_varietyNamed X j v1) (fun r1 => if r1 = (-1) then (bn1 (f_X5_growerNamed X j v1) (fun r2 => if r2 = (-1) then (some 0) else (some 1))) else (some 1))
set_option maxRecDepth 20000 in
theorem c_X0_isNameTaken {l : Launch} {D : DD} {z : Nat} {Y : YT} {X : XT} {j : Nat} (hj : j < 10) {v1 : Int32} {r : Int32} (hf : f_X0_isNameTaken X j v1 = some r) : CC l yX0_isNameTaken cX0_isNameTaken 2 (some .boolean) (rmk 2 0 0) D z [.ref (z + aX 10 j 0), .int v1] (GG D z (X, Y)) (some (.int r)) (GG D z (X, Y)) := by
  unfold f_X0_isNameTaken at hf
  refine cc_of pn_X0 (le_ rfl) (ls := [(0, .ref (z + aX 10 j 0)), (1, .int v1)]) rfl ?_
  intro p e s m args below meth c E
  refine j_aload_n E 0 rfl dX0_isNameTaken_0 ?_
  refine j_get (f := 0) E (okb10 hj) cf_X0 fl_X0_12 (lt_ rfl) rfl ent10 rfl dX0_isNameTaken_1 ?_
  refine j_iload_n E 1 rfl dX0_isNameTaken_4 ?_
  obtain ⟨r1, h1, hf⟩ := bn1_e hf
  refine j_invV [] [.int r1] E (c_X1_varietyNamed hj h1) ml_X0_87 mv_X1_varietyNamed rfl ⟨le_ rfl, le_ rfl⟩ (rcX (okb11 hj) cf_X1 ent11) rfl rfl (le_ rfl) ⟨le_ rfl, le_ rfl⟩ dX0_isNameTaken_5 ?_
  refine j_iconst E (-1) ic_m1 dX0_isNameTaken_8 ?_
  refine j_icmp_ne E 24 (by decide) dX0_isNameTaken_9 (fun c1 => ?_) (fun c1 => ?_)
  · rw [if_neg c1] at hf
    refine j_iconst E 1 ic_1 dX0_isNameTaken_24 ?_
    refine j_goto E 29 (by decide) dX0_isNameTaken_25 ?_
    cases hf
    exact j_iret E rfl (le_ rfl) (le_ rfl) dX0_isNameTaken_29
  · rw [if_pos c1] at hf
    refine j_aload_n E 0 rfl dX0_isNameTaken_12 ?_
    refine j_get (f := 1) E (okb10 hj) cf_X0 fl_X0_21 (lt_ rfl) rfl ent10 rfl dX0_isNameTaken_13 ?_
    refine j_iload_n E 1 rfl dX0_isNameTaken_16 ?_
    obtain ⟨r2, h2, hf⟩ := bn1_e hf
    refine j_invV [] [.int r2] E (c_X5_growerNamed hj h2) ml_X0_91 mv_X5_growerNamed rfl ⟨le_ rfl, le_ rfl⟩ (rcX (okb15 hj) cf_X5 ent15) rfl rfl (le_ rfl) ⟨le_ rfl, le_ rfl⟩ dX0_isNameTaken_17 ?_
    refine j_iconst E (-1) ic_m1 dX0_isNameTaken_20 ?_
    refine j_icmp_eq E 28 (by decide) dX0_isNameTaken_21 (fun c2 => ?_) (fun c2 => ?_)
    · rw [if_pos c2] at hf
      refine j_iconst E 0 ic_0 dX0_isNameTaken_28 ?_
      cases hf
      exact j_iret E rfl (le_ rfl) (le_ rfl) dX0_isNameTaken_29
    · rw [if_neg c2] at hf
      refine j_iconst E 1 ic_1 dX0_isNameTaken_24 ?_
      refine j_goto E 29 (by decide) dX0_isNameTaken_25 ?_
      cases hf
      exact j_iret E rfl (le_ rfl) (le_ rfl) dX0_isNameTaken_29
def f_X5_limitOf (X : XT) (j : Nat) (v1 : Int32) : Option Int32 :=
  if v1 < 0 then (some 0) else (if (X 15 j 0 5) ≤ v1 then (some 0) else (gd (¬ (v1 < 0 ∨ 8 ≤ v1.toNatClampNeg)) (some (X 19 j 0 v1.toNatClampNeg))))
set_option maxRecDepth 20000 in
theorem c_X5_limitOf {l : Launch} {D : DD} {z : Nat} {Y : YT} {X : XT} {j : Nat} (hj : j < 10) {v1 : Int32} {r : Int32} (hf : f_X5_limitOf X j v1 = some r) : CC l yX5_limitOf cX5_limitOf 2 (some .int) (rmk 1 0 0) D z [.ref (z + aX 15 j 0), .int v1] (GG D z (X, Y)) (some (.int r)) (GG D z (X, Y)) := by
  unfold f_X5_limitOf at hf
  refine cc_of pn_X5 (le_ rfl) (ls := [(0, .ref (z + aX 15 j 0)), (1, .int v1)]) rfl ?_
  intro p e s m args below meth c E
  refine j_iload_n E 1 rfl dX5_limitOf_0 ?_
  refine j_if_lt E 21 (by decide) dX5_limitOf_1 (fun c1 => ?_) (fun c1 => ?_)
  · rw [if_pos c1] at hf
    refine j_iconst E 0 ic_0 dX5_limitOf_21 ?_
    cases hf
    exact j_iret E rfl (le_ rfl) (le_ rfl) dX5_limitOf_22
  · rw [if_neg c1] at hf
    refine j_iload_n E 1 rfl dX5_limitOf_4 ?_
    refine j_aload_n E 0 rfl dX5_limitOf_5 ?_
    refine j_get (f := 5) E (okb15 hj) cf_X5 fl_X5_34 (lt_ rfl) rfl ent15 rfl dX5_limitOf_6 ?_
    refine j_icmp_ge E 21 (by decide) dX5_limitOf_9 (fun c2 => ?_) (fun c2 => ?_)
    · rw [if_pos c2] at hf
      refine j_iconst E 0 ic_0 dX5_limitOf_21 ?_
      cases hf
      exact j_iret E rfl (le_ rfl) (le_ rfl) dX5_limitOf_22
    · rw [if_neg c2] at hf
      refine j_aload_n E 0 rfl dX5_limitOf_12 ?_
      refine j_get (f := 3) E (okb15 hj) cf_X5 fl_X5_21 (lt_ rfl) rfl ent15 rfl dX5_limitOf_13 ?_
      refine j_iload_n E 1 rfl dX5_limitOf_16 ?_
      obtain ⟨g1, hf⟩ := gd_e hf
      refine j_iald E (okb19 hj) ent19 g1 (v1.toNatClampNeg) rfl dX5_limitOf_17 ?_
      refine j_goto E 22 (by decide) dX5_limitOf_18 ?_
      cases hf
      exact j_iret E rfl (le_ rfl) (le_ rfl) dX5_limitOf_22
def f_X3_weightFromPlot_4 (X : XT) (j : Nat) (v1 : Int32) : Nat → Int32 → Int32 → Option Int32
  | 0, _, _ => none
  | n + 1, v2, v3 => if (X 20 j 0 1) ≤ v3 then (some v2) else (gd (¬ (v3 < 0 ∨ 20 ≤ v3.toNatClampNeg)) (if (X 22 j v3.toNatClampNeg 0) = v1 then (gd (¬ (v3 < 0 ∨ 20 ≤ v3.toNatClampNeg)) (bnd (v2 + (X 22 j v3.toNatClampNeg 3)) (fun x1 => f_X3_weightFromPlot_4 X j v1 n x1 (v3 + 1)))) else (f_X3_weightFromPlot_4 X j v1 n v2 (v3 + 1))))
def f_X3_weightFromPlot (X : XT) (j : Nat) (v1 : Int32) : Option Int32 :=
  f_X3_weightFromPlot_4 X j v1 2000 0 0
set_option maxRecDepth 20000 in
theorem b_X3_weightFromPlot_4 {p : Program} {l : Launch} {e : Env} {s : State} {m : MethodId} {args : Array Value} {below : List Frame} {meth : Method} {c : Code} {D : DD} {z : Nat} {Y : YT} {X : XT} {j : Nat} (hj : j < 10) {v1 : Int32} (E : Cx p s m args meth c D z RX3 cX3_weightFromPlot 4 (some .int)) {r : Int32} : ∀ (n : Nat) (v2 : Int32) (v3 : Int32) (hf : f_X3_weightFromPlot_4 X j v1 n v2 v3 = some r), J p l e (rmk 1 0 0) s m args below meth c D z (GG D z (X, Y)) 0 0 (MQ below (QC z (some (.int r)) (GG D z (X, Y))) args s (rmk 1 0 0).cells (rmk 1 0 0).slots (Az z)) 4 4 [(0, .ref (z + aX 20 j 0)), (1, .int v1), (2, .int v2), (3, .int v3)] [] := by
  intro n
  induction n with
  | zero =>
    intro v2 v3 hf
    exact none_e hf
  | succ n ih =>
    intro v2 v3 hf
    rw [f_X3_weightFromPlot_4] at hf
    refine j_iload_n E 3 rfl dX3_weightFromPlot_4 ?_
    refine j_aload_n E 0 rfl dX3_weightFromPlot_5 ?_
    refine j_get (f := 1) E (okb20 hj) cf_X3 fl_X3_22 (lt_ rfl) rfl ent20 rfl dX3_weightFromPlot_6 ?_
    refine j_icmp_ge E 43 (by decide) dX3_weightFromPlot_9 (fun c1 => ?_) (fun c1 => ?_)
    · rw [if_pos c1] at hf
      refine j_iload_n E 2 rfl dX3_weightFromPlot_43 ?_
      cases hf
      exact j_iret E rfl (le_ rfl) (le_ rfl) dX3_weightFromPlot_44
    · rw [if_neg c1] at hf
      refine j_aload_n E 0 rfl dX3_weightFromPlot_12 ?_
      refine j_get (f := 0) E (okb20 hj) cf_X3 fl_X3_11 (lt_ rfl) rfl ent20 rfl dX3_weightFromPlot_13 ?_
      refine j_iload_n E 3 rfl dX3_weightFromPlot_16 ?_
      obtain ⟨g1, hf⟩ := gd_e hf
      refine j_aald (t := 4) E (okb21 hj) ent21 rfl g1 dX3_weightFromPlot_17 ?_
      refine j_getN (f := 0) E (okb22 hj (in_cl g1)) cf_X6 fl_X3_55 (lt_ rfl) rfl ent22 rfl dX3_weightFromPlot_18 ?_
      refine j_iload_n E 1 rfl dX3_weightFromPlot_21 ?_
      refine j_icmp_ne E 37 (by decide) dX3_weightFromPlot_22 (fun c2 => ?_) (fun c2 => ?_)
      · rw [if_neg c2] at hf
        refine j_iinc (ls' := [(3, .int (v3 + 1)), (0, .ref (z + aX 20 j 0)), (1, .int v1), (2, .int v2)]) E 3 rfl (lt_ rfl) (v3 + 1) (congrArg (fun q => v3 + q) ic_1) rfl dX3_weightFromPlot_37 ?_
        refine j_goto E 4 (by decide) dX3_weightFromPlot_40 ?_
        refine j_sub [1, 2, 3, 0] rfl ?_
        exact ih _ _ hf
      · rw [if_pos c2] at hf
        refine j_iload_n E 2 rfl dX3_weightFromPlot_25 ?_
        refine j_aload_n E 0 rfl dX3_weightFromPlot_26 ?_
        refine j_get (f := 0) E (okb20 hj) cf_X3 fl_X3_11 (lt_ rfl) rfl ent20 rfl dX3_weightFromPlot_27 ?_
        refine j_iload_n E 3 rfl dX3_weightFromPlot_30 ?_
        obtain ⟨g2, hf⟩ := gd_e hf
        refine j_aald (t := 4) E (okb21 hj) ent21 rfl g2 dX3_weightFromPlot_31 ?_
        refine j_getN (f := 3) E (okb22 hj (in_cl g2)) cf_X6 fl_X3_39 (lt_ rfl) rfl ent22 rfl dX3_weightFromPlot_32 ?_
        refine j_iadd E dX3_weightFromPlot_35 ?_
        obtain ⟨x1, hx1, hf⟩ := bnd_e hf
        refine j_name hx1 ?_
        refine j_istore_n (ls' := [(2, .int x1), (0, .ref (z + aX 20 j 0)), (1, .int v1), (3, .int v3)]) E (lt_ rfl) rfl dX3_weightFromPlot_36 ?_
        refine j_iinc (ls' := [(3, .int (v3 + 1)), (2, .int x1), (0, .ref (z + aX 20 j 0)), (1, .int v1)]) E 3 rfl (lt_ rfl) (v3 + 1) (congrArg (fun q => v3 + q) ic_1) rfl dX3_weightFromPlot_37 ?_
        refine j_goto E 4 (by decide) dX3_weightFromPlot_40 ?_
        refine j_sub [2, 3, 1, 0] rfl ?_
        exact ih _ _ hf
set_option maxRecDepth 20000 in
theorem c_X3_weightFromPlot {l : Launch} {D : DD} {z : Nat} {Y : YT} {X : XT} {j : Nat} (hj : j < 10) {v1 : Int32} {r : Int32} (hf : f_X3_weightFromPlot X j v1 = some r) : CC l yX3_weightFromPlot cX3_weightFromPlot 4 (some .int) (rmk 1 0 0) D z [.ref (z + aX 20 j 0), .int v1] (GG D z (X, Y)) (some (.int r)) (GG D z (X, Y)) := by
  unfold f_X3_weightFromPlot at hf
  refine cc_of pn_X3 (le_ rfl) (ls := [(0, .ref (z + aX 20 j 0)), (1, .int v1)]) rfl ?_
  intro p e s m args below meth c E
  refine j_iconst E 0 ic_0 dX3_weightFromPlot_0 ?_
  refine j_istore_n (ls' := [(2, .int 0), (0, .ref (z + aX 20 j 0)), (1, .int v1)]) E (lt_ rfl) rfl dX3_weightFromPlot_1 ?_
  refine j_iconst E 0 ic_0 dX3_weightFromPlot_2 ?_
  refine j_istore_n (ls' := [(3, .int 0), (2, .int 0), (0, .ref (z + aX 20 j 0)), (1, .int v1)]) E (lt_ rfl) rfl dX3_weightFromPlot_3 ?_
  refine j_sub [2, 3, 1, 0] rfl ?_
  exact b_X3_weightFromPlot_4 hj E 2000 _ _ hf
def f_X0_greatestWithinLimit (X : XT) (j : Nat) (v1 : Int32) : Option Int32 :=
  bn1 (f_X5_limitOf X j v1) (fun r1 => bn1 (f_X3_weightFromPlot X j v1) (fun r2 => bnd (r1 - r2) (fun x1 => some (if 0 < (if 5000 < x1 then 5000 else x1) then (if 5000 < x1 then 5000 else x1) else 0))))
set_option maxRecDepth 20000 in
theorem c_X0_greatestWithinLimit {l : Launch} {D : DD} {z : Nat} {Y : YT} {X : XT} {j : Nat} (hj : j < 10) {v1 : Int32} {r : Int32} (hf : f_X0_greatestWithinLimit X j v1 = some r) : CC l yX0_greatestWithinLimit cX0_greatestWithinLimit 3 (some .int) (rmk 2 0 0) D z [.ref (z + aX 10 j 0), .int v1] (GG D z (X, Y)) (some (.int r)) (GG D z (X, Y)) := by
  unfold f_X0_greatestWithinLimit at hf
  refine cc_of pn_X0 (le_ rfl) (ls := [(0, .ref (z + aX 10 j 0)), (1, .int v1)]) rfl ?_
  intro p e s m args below meth c E
  refine j_aload_n E 0 rfl dX0_greatestWithinLimit_0 ?_
  refine j_get (f := 1) E (okb10 hj) cf_X0 fl_X0_21 (lt_ rfl) rfl ent10 rfl dX0_greatestWithinLimit_1 ?_
  refine j_iload_n E 1 rfl dX0_greatestWithinLimit_4 ?_
  obtain ⟨r1, h1, hf⟩ := bn1_e hf
  refine j_invV [] [.int r1] E (c_X5_limitOf hj h1) ml_X0_94 mv_X5_limitOf rfl ⟨le_ rfl, le_ rfl⟩ (rcX (okb15 hj) cf_X5 ent15) rfl rfl (le_ rfl) ⟨le_ rfl, le_ rfl⟩ dX0_greatestWithinLimit_5 ?_
  refine j_aload_n E 0 rfl dX0_greatestWithinLimit_8 ?_
  refine j_get (f := 2) E (okb10 hj) cf_X0 fl_X0_28 (lt_ rfl) rfl ent10 rfl dX0_greatestWithinLimit_9 ?_
  refine j_iload_n E 1 rfl dX0_greatestWithinLimit_12 ?_
  obtain ⟨r2, h2, hf⟩ := bn1_e hf
  refine j_invV [.int r1] [.int r2, .int r1] E (c_X3_weightFromPlot hj h2) ml_X0_97 mv_X3_weightFromPlot rfl ⟨le_ rfl, le_ rfl⟩ (rcX (okb20 hj) cf_X3 ent20) rfl rfl (le_ rfl) ⟨le_ rfl, le_ rfl⟩ dX0_greatestWithinLimit_13 ?_
  refine j_isub E dX0_greatestWithinLimit_16 ?_
  obtain ⟨x1, hx1, hf⟩ := bnd_e hf
  refine j_name hx1 ?_
  refine j_istore_n (ls' := [(2, .int x1), (0, .ref (z + aX 10 j 0)), (1, .int v1)]) E (lt_ rfl) rfl dX0_greatestWithinLimit_17 ?_
  refine j_iconst E 0 ic_0 dX0_greatestWithinLimit_18 ?_
  refine j_iload_n E 0 rfl dX0_greatestWithinLimit_19 ?_
  refine j_sipush E 5000 sp_5000 dX0_greatestWithinLimit_20 ?_
  refine j_min [.int 0] E ml_X0_100 st_Lib_Math_min_name in_J9 cd_Lib_Math_min_name (le_ rfl) (le_ rfl) (le_ rfl) (le_ rfl) dX0_greatestWithinLimit_23 ?_
  refine j_max [] E ml_X0_106 st_Lib_Math_max_name in_J9 cd_Lib_Math_max_name (le_ rfl) (le_ rfl) (le_ rfl) (le_ rfl) dX0_greatestWithinLimit_26 ?_
  cases hf
  exact j_iret E rfl (le_ rfl) (le_ rfl) dX0_greatestWithinLimit_29
def f_X3_isFull (X : XT) (j : Nat) : Option Int32 :=
  if (X 20 j 0 1) < 20 then (some 0) else (some 1)
set_option maxRecDepth 20000 in
theorem c_X3_isFull {l : Launch} {D : DD} {z : Nat} {Y : YT} {X : XT} {j : Nat} (hj : j < 10) {r : Int32} (hf : f_X3_isFull X j = some r) : CC l yX3_isFull cX3_isFull 1 (some .boolean) (rmk 1 0 0) D z [.ref (z + aX 20 j 0)] (GG D z (X, Y)) (some (.int r)) (GG D z (X, Y)) := by
  unfold f_X3_isFull at hf
  refine cc_of pn_X3 (le_ rfl) (ls := [(0, .ref (z + aX 20 j 0))]) rfl ?_
  intro p e s m args below meth c E
  refine j_aload_n E 0 rfl dX3_isFull_0 ?_
  refine j_get (f := 1) E (okb20 hj) cf_X3 fl_X3_22 (lt_ rfl) rfl ent20 rfl dX3_isFull_1 ?_
  refine j_bipush E 20 bp_20 dX3_isFull_4 ?_
  refine j_icmp_lt E 13 (by decide) dX3_isFull_6 (fun c1 => ?_) (fun c1 => ?_)
  · rw [if_pos c1] at hf
    refine j_iconst E 0 ic_0 dX3_isFull_13 ?_
    cases hf
    exact j_iret E rfl (le_ rfl) (le_ rfl) dX3_isFull_14
  · rw [if_neg c1] at hf
    refine j_iconst E 1 ic_1 dX3_isFull_9 ?_
    refine j_goto E 14 (by decide) dX3_isFull_10 ?_
    cases hf
    exact j_iret E rfl (le_ rfl) (le_ rfl) dX3_isFull_14
def f_X1_gradeOfSugar_2 (X : XT) (j : Nat) (v1 : Int32) : Nat → Int32 → Option Int32
  | 0, _ => none
  | n + 1, v2 => if (X 11 j 0 3) ≤ v2 then (some (-1)) else (gd (¬ (v2 < 0 ∨ 4 ≤ v2.toNatClampNeg)) (if v1 < (X 12 j 0 v2.toNatClampNeg) then (f_X1_gradeOfSugar_2 X j v1 n (v2 + 1)) else (some v2)))
def f_X1_gradeOfSugar (X : XT) (j : Nat) (v1 : Int32) : Option Int32 :=
  f_X1_gradeOfSugar_2 X j v1 2000 0
set_option maxRecDepth 20000 in
theorem b_X1_gradeOfSugar_2 {p : Program} {l : Launch} {e : Env} {s : State} {m : MethodId} {args : Array Value} {below : List Frame} {meth : Method} {c : Code} {D : DD} {z : Nat} {Y : YT} {X : XT} {j : Nat} (hj : j < 10) {v1 : Int32} (E : Cx p s m args meth c D z RX1 cX1_gradeOfSugar 3 (some .int)) {r : Int32} : ∀ (n : Nat) (v2 : Int32) (hf : f_X1_gradeOfSugar_2 X j v1 n v2 = some r), J p l e (rmk 1 0 0) s m args below meth c D z (GG D z (X, Y)) 0 0 (MQ below (QC z (some (.int r)) (GG D z (X, Y))) args s (rmk 1 0 0).cells (rmk 1 0 0).slots (Az z)) 3 2 [(0, .ref (z + aX 11 j 0)), (1, .int v1), (2, .int v2)] [] := by
  intro n
  induction n with
  | zero =>
    intro v2 hf
    exact none_e hf
  | succ n ih =>
    intro v2 hf
    rw [f_X1_gradeOfSugar_2] at hf
    refine j_iload_n E 2 rfl dX1_gradeOfSugar_2 ?_
    refine j_aload_n E 0 rfl dX1_gradeOfSugar_3 ?_
    refine j_get (f := 3) E (okb11 hj) cf_X1 fl_X1_27 (lt_ rfl) rfl ent11 rfl dX1_gradeOfSugar_4 ?_
    refine j_icmp_ge E 28 (by decide) dX1_gradeOfSugar_7 (fun c1 => ?_) (fun c1 => ?_)
    · rw [if_pos c1] at hf
      refine j_iconst E (-1) ic_m1 dX1_gradeOfSugar_28 ?_
      cases hf
      exact j_iret E rfl (le_ rfl) (le_ rfl) dX1_gradeOfSugar_29
    · rw [if_neg c1] at hf
      refine j_aload_n E 0 rfl dX1_gradeOfSugar_10 ?_
      refine j_get (f := 0) E (okb11 hj) cf_X1 fl_X1_9 (lt_ rfl) rfl ent11 rfl dX1_gradeOfSugar_11 ?_
      refine j_iload_n E 2 rfl dX1_gradeOfSugar_14 ?_
      obtain ⟨g1, hf⟩ := gd_e hf
      refine j_iald E (okb12 hj) ent12 g1 (v2.toNatClampNeg) rfl dX1_gradeOfSugar_15 ?_
      refine j_iload_n E 1 rfl dX1_gradeOfSugar_16 ?_
      refine j_icmp_gt E 22 (by decide) dX1_gradeOfSugar_17 (fun c2 => ?_) (fun c2 => ?_)
      · rw [if_pos c2] at hf
        refine j_iinc (ls' := [(2, .int (v2 + 1)), (0, .ref (z + aX 11 j 0)), (1, .int v1)]) E 2 rfl (lt_ rfl) (v2 + 1) (congrArg (fun q => v2 + q) ic_1) rfl dX1_gradeOfSugar_22 ?_
        refine j_goto E 2 (by decide) dX1_gradeOfSugar_25 ?_
        refine j_sub [1, 2, 0] rfl ?_
        exact ih _ hf
      · rw [if_neg c2] at hf
        refine j_iload_n E 2 rfl dX1_gradeOfSugar_20 ?_
        cases hf
        exact j_iret E rfl (le_ rfl) (le_ rfl) dX1_gradeOfSugar_21
set_option maxRecDepth 20000 in
theorem c_X1_gradeOfSugar {l : Launch} {D : DD} {z : Nat} {Y : YT} {X : XT} {j : Nat} (hj : j < 10) {v1 : Int32} {r : Int32} (hf : f_X1_gradeOfSugar X j v1 = some r) : CC l yX1_gradeOfSugar cX1_gradeOfSugar 3 (some .int) (rmk 1 0 0) D z [.ref (z + aX 11 j 0), .int v1] (GG D z (X, Y)) (some (.int r)) (GG D z (X, Y)) := by
  unfold f_X1_gradeOfSugar at hf
  refine cc_of pn_X1 (le_ rfl) (ls := [(0, .ref (z + aX 11 j 0)), (1, .int v1)]) rfl ?_
  intro p e s m args below meth c E
  refine j_iconst E 0 ic_0 dX1_gradeOfSugar_0 ?_
  refine j_istore_n (ls' := [(2, .int 0), (0, .ref (z + aX 11 j 0)), (1, .int v1)]) E (lt_ rfl) rfl dX1_gradeOfSugar_1 ?_
  refine j_sub [1, 2, 0] rfl ?_
  exact b_X1_gradeOfSugar_2 hj E 2000 _ hf
def f_X5_varietyOn (X : XT) (j : Nat) (v1 : Int32) : Option Int32 :=
  if v1 < 0 then (some (-1)) else (if (X 15 j 0 5) ≤ v1 then (some (-1)) else (gd (¬ (v1 < 0 ∨ 8 ≤ v1.toNatClampNeg)) (some (X 18 j 0 v1.toNatClampNeg))))
set_option maxRecDepth 20000 in
theorem c_X5_varietyOn {l : Launch} {D : DD} {z : Nat} {Y : YT} {X : XT} {j : Nat} (hj : j < 10) {v1 : Int32} {r : Int32} (hf : f_X5_varietyOn X j v1 = some r) : CC l yX5_varietyOn cX5_varietyOn 2 (some .int) (rmk 1 0 0) D z [.ref (z + aX 15 j 0), .int v1] (GG D z (X, Y)) (some (.int r)) (GG D z (X, Y)) := by
  unfold f_X5_varietyOn at hf
  refine cc_of pn_X5 (le_ rfl) (ls := [(0, .ref (z + aX 15 j 0)), (1, .int v1)]) rfl ?_
  intro p e s m args below meth c E
  refine j_iload_n E 1 rfl dX5_varietyOn_0 ?_
  refine j_if_lt E 21 (by decide) dX5_varietyOn_1 (fun c1 => ?_) (fun c1 => ?_)
  · rw [if_pos c1] at hf
    refine j_iconst E (-1) ic_m1 dX5_varietyOn_21 ?_
    cases hf
    exact j_iret E rfl (le_ rfl) (le_ rfl) dX5_varietyOn_22
  · rw [if_neg c1] at hf
    refine j_iload_n E 1 rfl dX5_varietyOn_4 ?_
    refine j_aload_n E 0 rfl dX5_varietyOn_5 ?_
    refine j_get (f := 5) E (okb15 hj) cf_X5 fl_X5_34 (lt_ rfl) rfl ent15 rfl dX5_varietyOn_6 ?_
    refine j_icmp_ge E 21 (by decide) dX5_varietyOn_9 (fun c2 => ?_) (fun c2 => ?_)
    · rw [if_pos c2] at hf
      refine j_iconst E (-1) ic_m1 dX5_varietyOn_21 ?_
      cases hf
      exact j_iret E rfl (le_ rfl) (le_ rfl) dX5_varietyOn_22
    · rw [if_neg c2] at hf
      refine j_aload_n E 0 rfl dX5_varietyOn_12 ?_
      refine j_get (f := 2) E (okb15 hj) cf_X5 fl_X5_18 (lt_ rfl) rfl ent15 rfl dX5_varietyOn_13 ?_
      refine j_iload_n E 1 rfl dX5_varietyOn_16 ?_
      obtain ⟨g1, hf⟩ := gd_e hf
      refine j_iald E (okb18 hj) ent18 g1 (v1.toNatClampNeg) rfl dX5_varietyOn_17 ?_
      refine j_goto E 22 (by decide) dX5_varietyOn_18 ?_
      cases hf
      exact j_iret E rfl (le_ rfl) (le_ rfl) dX5_varietyOn_22
def f_X9_room (X : XT) (j i : Nat) : Option Int32 :=
  some ((X 26 j i 0) - (X 26 j i 1))
set_option maxRecDepth 20000 in
theorem c_X9_room {l : Launch} {D : DD} {z : Nat} {Y : YT} {X : XT} {j i : Nat} (hj : j < 10) (hi : i < 5) {r : Int32} (hf : f_X9_room X j i = some r) : CC l yX9_room cX9_room 1 (some .int) (rmk 1 0 0) D z [.ref (z + aX 26 j i)] (GG D z (X, Y)) (some (.int r)) (GG D z (X, Y)) := by
  unfold f_X9_room at hf
  refine cc_of pn_X9 (le_ rfl) (ls := [(0, .ref (z + aX 26 j i))]) rfl ?_
  intro p e s m args below meth c E
  refine j_aload_n E 0 rfl dX9_room_0 ?_
  refine j_get (f := 0) E (okb26 hj hi) cf_X9 fl_X9_15 (lt_ rfl) rfl ent26 rfl dX9_room_1 ?_
  refine j_aload_n E 0 rfl dX9_room_4 ?_
  refine j_get (f := 1) E (okb26 hj hi) cf_X9 fl_X9_18 (lt_ rfl) rfl ent26 rfl dX9_room_5 ?_
  refine j_isub E dX9_room_8 ?_
  cases hf
  exact j_iret E rfl (le_ rfl) (le_ rfl) dX9_room_9
def f_X9_holds (X : XT) (j i : Nat) (v1 : Int32) : Option Int32 :=
  if (X 26 j i 1) ≤ 0 then (some 0) else (if (X 26 j i 2) = v1 then (some 1) else (some 0))
set_option maxRecDepth 20000 in
theorem c_X9_holds {l : Launch} {D : DD} {z : Nat} {Y : YT} {X : XT} {j i : Nat} (hj : j < 10) (hi : i < 5) {v1 : Int32} {r : Int32} (hf : f_X9_holds X j i v1 = some r) : CC l yX9_holds cX9_holds 2 (some .boolean) (rmk 1 0 0) D z [.ref (z + aX 26 j i), .int v1] (GG D z (X, Y)) (some (.int r)) (GG D z (X, Y)) := by
  unfold f_X9_holds at hf
  refine cc_of pn_X9 (le_ rfl) (ls := [(0, .ref (z + aX 26 j i)), (1, .int v1)]) rfl ?_
  intro p e s m args below meth c E
  refine j_aload_n E 0 rfl dX9_holds_0 ?_
  refine j_get (f := 1) E (okb26 hj hi) cf_X9 fl_X9_18 (lt_ rfl) rfl ent26 rfl dX9_holds_1 ?_
  refine j_if_le E 19 (by decide) dX9_holds_4 (fun c1 => ?_) (fun c1 => ?_)
  · rw [if_pos c1] at hf
    refine j_iconst E 0 ic_0 dX9_holds_19 ?_
    cases hf
    exact j_iret E rfl (le_ rfl) (le_ rfl) dX9_holds_20
  · rw [if_neg c1] at hf
    refine j_aload_n E 0 rfl dX9_holds_7 ?_
    refine j_get (f := 2) E (okb26 hj hi) cf_X9 fl_X9_9 (lt_ rfl) rfl ent26 rfl dX9_holds_8 ?_
    refine j_iload_n E 1 rfl dX9_holds_11 ?_
    refine j_icmp_ne E 19 (by decide) dX9_holds_12 (fun c2 => ?_) (fun c2 => ?_)
    · rw [if_neg c2] at hf
      refine j_iconst E 0 ic_0 dX9_holds_19 ?_
      cases hf
      exact j_iret E rfl (le_ rfl) (le_ rfl) dX9_holds_20
    · rw [if_pos c2] at hf
      refine j_iconst E 1 ic_1 dX9_holds_15 ?_
      refine j_goto E 20 (by decide) dX9_holds_16 ?_
      cases hf
      exact j_iret E rfl (le_ rfl) (le_ rfl) dX9_holds_20
def f_X2_chooseTank_5 (X : XT) (j : Nat) (v1 : Int32) (v2 : Int32) : Nat → Int32 → Int32 → Option Int32
  | 0, _, _ => none
  | n + 1, v3, v4 => if (X 23 j 0 2) ≤ v4 then (some v3) else (gd (¬ (v4 < 0 ∨ 5 ≤ v4.toNatClampNeg)) (bn1 (f_X9_room X j (v4.toNatClampNeg)) (fun r1 => if r1 < v2 then (f_X2_chooseTank_5 X j v1 v2 n v3 (v4 + 1)) else (bn1 (f_X9_holds X j (v4.toNatClampNeg) v1) (fun r2 => if r2 = 0 then (if (X 26 j v4.toNatClampNeg 1) = 0 then (if v3 = (-1) then (f_X2_chooseTank_5 X j v1 v2 n v4 (v4 + 1)) else (f_X2_chooseTank_5 X j v1 v2 n v3 (v4 + 1))) else (f_X2_chooseTank_5 X j v1 v2 n v3 (v4 + 1))) else (some v4))))))
def f_X2_chooseTank (X : XT) (j : Nat) (v1 : Int32) (v2 : Int32) : Option Int32 :=
  f_X2_chooseTank_5 X j v1 v2 2000 (-1) 0
set_option maxRecDepth 20000 in
theorem b_X2_chooseTank_5 {p : Program} {l : Launch} {e : Env} {s : State} {m : MethodId} {args : Array Value} {below : List Frame} {meth : Method} {c : Code} {D : DD} {z : Nat} {Y : YT} {X : XT} {j : Nat} (hj : j < 10) {v1 : Int32} {v2 : Int32} (E : Cx p s m args meth c D z RX2 cX2_chooseTank 6 (some .int)) {r : Int32} : ∀ (n : Nat) (v3 : Int32) (v4 : Int32) (hf : f_X2_chooseTank_5 X j v1 v2 n v3 v4 = some r), J p l e (rmk 2 0 0) s m args below meth c D z (GG D z (X, Y)) 0 0 (MQ below (QC z (some (.int r)) (GG D z (X, Y))) args s (rmk 2 0 0).cells (rmk 2 0 0).slots (Az z)) 6 5 [(0, .ref (z + aX 23 j 0)), (1, .int v1), (2, .int v2), (3, .int v3), (4, .int v4)] [] := by
  intro n
  induction n with
  | zero =>
    intro v3 v4 hf
    exact none_e hf
  | succ n ih =>
    intro v3 v4 hf
    rw [f_X2_chooseTank_5] at hf
    refine j_iload E 4 rfl dX2_chooseTank_5 ?_
    refine j_aload_n E 0 rfl dX2_chooseTank_7 ?_
    refine j_get (f := 2) E (okb23 hj) cf_X2 fl_X2_32 (lt_ rfl) rfl ent23 rfl dX2_chooseTank_8 ?_
    refine j_icmp_ge E 66 (by decide) dX2_chooseTank_11 (fun c1 => ?_) (fun c1 => ?_)
    · rw [if_pos c1] at hf
      refine j_iload_n E 3 rfl dX2_chooseTank_66 ?_
      cases hf
      exact j_iret E rfl (le_ rfl) (le_ rfl) dX2_chooseTank_67
    · rw [if_neg c1] at hf
      refine j_aload_n E 0 rfl dX2_chooseTank_14 ?_
      refine j_get (f := 0) E (okb23 hj) cf_X2 fl_X2_11 (lt_ rfl) rfl ent23 rfl dX2_chooseTank_15 ?_
      refine j_iload E 4 rfl dX2_chooseTank_18 ?_
      obtain ⟨g1, hf⟩ := gd_e hf
      refine j_aald (t := 5) E (okb24 hj) ent24 rfl g1 dX2_chooseTank_20 ?_
      refine j_astore (ls' := [(5, .ref (z + aX 26 j v4.toNatClampNeg)), (0, .ref (z + aX 23 j 0)), (1, .int v1), (2, .int v2), (3, .int v3), (4, .int v4)]) E (lt_ rfl) rfl dX2_chooseTank_21 ?_
      refine j_aload E 0 rfl dX2_chooseTank_23 ?_
      obtain ⟨r1, h1, hf⟩ := bn1_e hf
      refine j_invV [] [.int r1] E (c_X9_room hj (in_cl g1) h1) ml_X2_45 mv_X9_room rfl ⟨le_ rfl, le_ rfl⟩ (rcX (okb26 hj (in_cl g1)) cf_X9 ent26) rfl rfl (le_ rfl) ⟨le_ rfl, le_ rfl⟩ dX2_chooseTank_25 ?_
      refine j_iload_n E 3 rfl dX2_chooseTank_28 ?_
      refine j_icmp_lt E 60 (by decide) dX2_chooseTank_29 (fun c2 => ?_) (fun c2 => ?_)
      · rw [if_pos c2] at hf
        refine j_iinc (ls' := [(4, .int (v4 + 1)), (5, .ref (z + aX 26 j v4.toNatClampNeg)), (0, .ref (z + aX 23 j 0)), (1, .int v1), (2, .int v2), (3, .int v3)]) E 5 rfl (lt_ rfl) (v4 + 1) (congrArg (fun q => v4 + q) ic_1) rfl dX2_chooseTank_60 ?_
        refine j_goto E 5 (by decide) dX2_chooseTank_63 ?_
        refine j_sub [2, 3, 4, 5, 0] rfl ?_
        exact ih _ _ hf
      · rw [if_neg c2] at hf
        refine j_aload E 0 rfl dX2_chooseTank_32 ?_
        refine j_iload_n E 2 rfl dX2_chooseTank_34 ?_
        obtain ⟨r2, h2, hf⟩ := bn1_e hf
        refine j_invV [] [.int r2] E (c_X9_holds hj (in_cl g1) h2) ml_X2_49 mv_X9_holds rfl ⟨le_ rfl, le_ rfl⟩ (rcX (okb26 hj (in_cl g1)) cf_X9 ent26) rfl rfl (le_ rfl) ⟨le_ rfl, le_ rfl⟩ dX2_chooseTank_35 ?_
        refine j_if_eq E 44 (by decide) dX2_chooseTank_38 (fun c3 => ?_) (fun c3 => ?_)
        · rw [if_pos c3] at hf
          refine j_aload E 0 rfl dX2_chooseTank_44 ?_
          refine j_getN (f := 1) E (okb26 hj (in_cl g1)) cf_X9 fl_X2_53 (lt_ rfl) rfl ent26 rfl dX2_chooseTank_46 ?_
          refine j_if_ne E 60 (by decide) dX2_chooseTank_49 (fun c4 => ?_) (fun c4 => ?_)
          · rw [if_neg c4] at hf
            refine j_iinc (ls' := [(4, .int (v4 + 1)), (5, .ref (z + aX 26 j v4.toNatClampNeg)), (0, .ref (z + aX 23 j 0)), (1, .int v1), (2, .int v2), (3, .int v3)]) E 5 rfl (lt_ rfl) (v4 + 1) (congrArg (fun q => v4 + q) ic_1) rfl dX2_chooseTank_60 ?_
            refine j_goto E 5 (by decide) dX2_chooseTank_63 ?_
            refine j_sub [2, 3, 4, 5, 0] rfl ?_
            exact ih _ _ hf
          · rw [if_pos c4] at hf
            refine j_iload_n E 4 rfl dX2_chooseTank_52 ?_
            refine j_iconst E (-1) ic_m1 dX2_chooseTank_53 ?_
            refine j_icmp_ne E 60 (by decide) dX2_chooseTank_54 (fun c5 => ?_) (fun c5 => ?_)
            · rw [if_neg c5] at hf
              refine j_iinc (ls' := [(4, .int (v4 + 1)), (5, .ref (z + aX 26 j v4.toNatClampNeg)), (0, .ref (z + aX 23 j 0)), (1, .int v1), (2, .int v2), (3, .int v3)]) E 5 rfl (lt_ rfl) (v4 + 1) (congrArg (fun q => v4 + q) ic_1) rfl dX2_chooseTank_60 ?_
              refine j_goto E 5 (by decide) dX2_chooseTank_63 ?_
              refine j_sub [2, 3, 4, 5, 0] rfl ?_
              exact ih _ _ hf
            · rw [if_pos c5] at hf
              refine j_iload E 5 rfl dX2_chooseTank_57 ?_
              refine j_istore_n (ls' := [(3, .int v4), (5, .ref (z + aX 26 j v4.toNatClampNeg)), (0, .ref (z + aX 23 j 0)), (1, .int v1), (2, .int v2), (4, .int v4)]) E (lt_ rfl) rfl dX2_chooseTank_59 ?_
              refine j_iinc (ls' := [(4, .int (v4 + 1)), (3, .int v4), (5, .ref (z + aX 26 j v4.toNatClampNeg)), (0, .ref (z + aX 23 j 0)), (1, .int v1), (2, .int v2)]) E 5 rfl (lt_ rfl) (v4 + 1) (congrArg (fun q => v4 + q) ic_1) rfl dX2_chooseTank_60 ?_
              refine j_goto E 5 (by decide) dX2_chooseTank_63 ?_
              refine j_sub [3, 4, 5, 1, 0] rfl ?_
              exact ih _ _ hf
        · rw [if_neg c3] at hf
          refine j_iload E 5 rfl dX2_chooseTank_41 ?_
          cases hf
          exact j_iret E rfl (le_ rfl) (le_ rfl) dX2_chooseTank_43
set_option maxRecDepth 20000 in
theorem c_X2_chooseTank {l : Launch} {D : DD} {z : Nat} {Y : YT} {X : XT} {j : Nat} (hj : j < 10) {v1 : Int32} {v2 : Int32} {r : Int32} (hf : f_X2_chooseTank X j v1 v2 = some r) : CC l yX2_chooseTank cX2_chooseTank 6 (some .int) (rmk 2 0 0) D z [.ref (z + aX 23 j 0), .int v1, .int v2] (GG D z (X, Y)) (some (.int r)) (GG D z (X, Y)) := by
  unfold f_X2_chooseTank at hf
  refine cc_of pn_X2 (le_ rfl) (ls := [(0, .ref (z + aX 23 j 0)), (1, .int v1), (2, .int v2)]) rfl ?_
  intro p e s m args below meth c E
  refine j_iconst E (-1) ic_m1 dX2_chooseTank_0 ?_
  refine j_istore_n (ls' := [(3, .int (-1)), (0, .ref (z + aX 23 j 0)), (1, .int v1), (2, .int v2)]) E (lt_ rfl) rfl dX2_chooseTank_1 ?_
  refine j_iconst E 0 ic_0 dX2_chooseTank_2 ?_
  refine j_istore (ls' := [(4, .int 0), (3, .int (-1)), (0, .ref (z + aX 23 j 0)), (1, .int v1), (2, .int v2)]) E (lt_ rfl) rfl dX2_chooseTank_3 ?_
  refine j_sub [2, 3, 4, 1, 0] rfl ?_
  exact b_X2_chooseTank_5 hj E 2000 _ _ hf
def f_X0_reasonAgainst (X : XT) (j : Nat) (v1 : Int32) (v2 : Int32) (v3 : Int32) : Option Int32 :=
  bn1 (f_X3_isFull X j) (fun r1 => if r1 = 0 then (bn1 (f_X1_gradeOfSugar X j v3) (fun r2 => if r2 = (-1) then (some 2) else (bn1 (f_X5_varietyOn X j v1) (fun r3 => bn1 (f_X2_chooseTank X j r3 v2) (fun r4 => if r4 = (-1) then (some 3) else (some 0)))))) else (some 1))
set_option maxRecDepth 20000 in
theorem c_X0_reasonAgainst {l : Launch} {D : DD} {z : Nat} {Y : YT} {X : XT} {j : Nat} (hj : j < 10) {v1 : Int32} {v2 : Int32} {v3 : Int32} {r : Int32} (hf : f_X0_reasonAgainst X j v1 v2 v3 = some r) : CC l yX0_reasonAgainst cX0_reasonAgainst 4 (some .int) (rmk 3 0 0) D z [.ref (z + aX 10 j 0), .int v1, .int v2, .int v3] (GG D z (X, Y)) (some (.int r)) (GG D z (X, Y)) := by
  unfold f_X0_reasonAgainst at hf
  refine cc_of pn_X0 (le_ rfl) (ls := [(0, .ref (z + aX 10 j 0)), (1, .int v1), (2, .int v2), (3, .int v3)]) rfl ?_
  intro p e s m args below meth c E
  refine j_aload_n E 0 rfl dX0_reasonAgainst_0 ?_
  refine j_get (f := 2) E (okb10 hj) cf_X0 fl_X0_28 (lt_ rfl) rfl ent10 rfl dX0_reasonAgainst_1 ?_
  obtain ⟨r1, h1, hf⟩ := bn1_e hf
  refine j_invV [] [.int r1] E (c_X3_isFull hj h1) ml_X0_109 mv_X3_isFull rfl ⟨le_ rfl, le_ rfl⟩ (rcX (okb20 hj) cf_X3 ent20) rfl rfl (le_ rfl) ⟨le_ rfl, le_ rfl⟩ dX0_reasonAgainst_4 ?_
  refine j_if_eq E 12 (by decide) dX0_reasonAgainst_7 (fun c1 => ?_) (fun c1 => ?_)
  · rw [if_pos c1] at hf
    refine j_aload_n E 0 rfl dX0_reasonAgainst_12 ?_
    refine j_get (f := 0) E (okb10 hj) cf_X0 fl_X0_12 (lt_ rfl) rfl ent10 rfl dX0_reasonAgainst_13 ?_
    refine j_iload_n E 3 rfl dX0_reasonAgainst_16 ?_
    obtain ⟨r2, h2, hf⟩ := bn1_e hf
    refine j_invV [] [.int r2] E (c_X1_gradeOfSugar hj h2) ml_X0_113 mv_X1_gradeOfSugar rfl ⟨le_ rfl, le_ rfl⟩ (rcX (okb11 hj) cf_X1 ent11) rfl rfl (le_ rfl) ⟨le_ rfl, le_ rfl⟩ dX0_reasonAgainst_17 ?_
    refine j_iconst E (-1) ic_m1 dX0_reasonAgainst_20 ?_
    refine j_icmp_ne E 26 (by decide) dX0_reasonAgainst_21 (fun c2 => ?_) (fun c2 => ?_)
    · rw [if_neg c2] at hf
      refine j_aload_n E 0 rfl dX0_reasonAgainst_26 ?_
      refine j_get (f := 3) E (okb10 hj) cf_X0 fl_X0_35 (lt_ rfl) rfl ent10 rfl dX0_reasonAgainst_27 ?_
      refine j_aload_n E 0 rfl dX0_reasonAgainst_30 ?_
      refine j_get (f := 1) E (okb10 hj) cf_X0 fl_X0_21 (lt_ rfl) rfl ent10 rfl dX0_reasonAgainst_31 ?_
      refine j_iload_n E 1 rfl dX0_reasonAgainst_34 ?_
      obtain ⟨r3, h3, hf⟩ := bn1_e hf
      refine j_invV [.ref (z + aX 23 j 0)] [.int r3, .ref (z + aX 23 j 0)] E (c_X5_varietyOn hj h3) ml_X0_116 mv_X5_varietyOn rfl ⟨le_ rfl, le_ rfl⟩ (rcX (okb15 hj) cf_X5 ent15) rfl rfl (le_ rfl) ⟨le_ rfl, le_ rfl⟩ dX0_reasonAgainst_35 ?_
      refine j_iload_n E 2 rfl dX0_reasonAgainst_38 ?_
      obtain ⟨r4, h4, hf⟩ := bn1_e hf
      refine j_invV [] [.int r4] E (c_X2_chooseTank hj h4) ml_X0_119 mv_X2_chooseTank rfl ⟨le_ rfl, le_ rfl⟩ (rcX (okb23 hj) cf_X2 ent23) rfl rfl (le_ rfl) ⟨le_ rfl, le_ rfl⟩ dX0_reasonAgainst_39 ?_
      refine j_iconst E (-1) ic_m1 dX0_reasonAgainst_42 ?_
      refine j_icmp_ne E 50 (by decide) dX0_reasonAgainst_43 (fun c3 => ?_) (fun c3 => ?_)
      · rw [if_neg c3] at hf
        refine j_iconst E 0 ic_0 dX0_reasonAgainst_50 ?_
        cases hf
        exact j_iret E rfl (le_ rfl) (le_ rfl) dX0_reasonAgainst_51
      · rw [if_pos c3] at hf
        refine j_iconst E 3 ic_3 dX0_reasonAgainst_46 ?_
        refine j_goto E 51 (by decide) dX0_reasonAgainst_47 ?_
        cases hf
        exact j_iret E rfl (le_ rfl) (le_ rfl) dX0_reasonAgainst_51
    · rw [if_pos c2] at hf
      refine j_iconst E 2 ic_2 dX0_reasonAgainst_24 ?_
      cases hf
      exact j_iret E rfl (le_ rfl) (le_ rfl) dX0_reasonAgainst_25
  · rw [if_neg c1] at hf
    refine j_iconst E 1 ic_1 dX0_reasonAgainst_10 ?_
    cases hf
    exact j_iret E rfl (le_ rfl) (le_ rfl) dX0_reasonAgainst_11
def f_X0_gradeFor (X : XT) (j : Nat) (v1 : Int32) (v2 : Int32) (v3 : Int32) : Option Int32 :=
  bn1 (f_X3_weightFromPlot X j v1) (fun r1 => bn1 (f_X5_limitOf X j v1) (fun r2 => if (r1 + v2) ≤ r2 then (bn1 (f_X1_gradeOfSugar X j v3) (fun r3 => some r3)) else (some ((X 11 j 0 3) - 1))))
set_option maxRecDepth 20000 in
theorem c_X0_gradeFor {l : Launch} {D : DD} {z : Nat} {Y : YT} {X : XT} {j : Nat} (hj : j < 10) {v1 : Int32} {v2 : Int32} {v3 : Int32} {r : Int32} (hf : f_X0_gradeFor X j v1 v2 v3 = some r) : CC l yX0_gradeFor cX0_gradeFor 4 (some .int) (rmk 2 0 0) D z [.ref (z + aX 10 j 0), .int v1, .int v2, .int v3] (GG D z (X, Y)) (some (.int r)) (GG D z (X, Y)) := by
  unfold f_X0_gradeFor at hf
  refine cc_of pn_X0 (le_ rfl) (ls := [(0, .ref (z + aX 10 j 0)), (1, .int v1), (2, .int v2), (3, .int v3)]) rfl ?_
  intro p e s m args below meth c E
  refine j_aload_n E 0 rfl dX0_gradeFor_0 ?_
  refine j_get (f := 2) E (okb10 hj) cf_X0 fl_X0_28 (lt_ rfl) rfl ent10 rfl dX0_gradeFor_1 ?_
  refine j_iload_n E 1 rfl dX0_gradeFor_4 ?_
  obtain ⟨r1, h1, hf⟩ := bn1_e hf
  refine j_invV [] [.int r1] E (c_X3_weightFromPlot hj h1) ml_X0_97 mv_X3_weightFromPlot rfl ⟨le_ rfl, le_ rfl⟩ (rcX (okb20 hj) cf_X3 ent20) rfl rfl (le_ rfl) ⟨le_ rfl, le_ rfl⟩ dX0_gradeFor_5 ?_
  refine j_iload_n E 2 rfl dX0_gradeFor_8 ?_
  refine j_iadd E dX0_gradeFor_9 ?_
  refine j_aload_n E 0 rfl dX0_gradeFor_10 ?_
  refine j_get (f := 1) E (okb10 hj) cf_X0 fl_X0_21 (lt_ rfl) rfl ent10 rfl dX0_gradeFor_11 ?_
  refine j_iload_n E 1 rfl dX0_gradeFor_14 ?_
  obtain ⟨r2, h2, hf⟩ := bn1_e hf
  refine j_invV [.int (r1 + v2)] [.int r2, .int (r1 + v2)] E (c_X5_limitOf hj h2) ml_X0_94 mv_X5_limitOf rfl ⟨le_ rfl, le_ rfl⟩ (rcX (okb15 hj) cf_X5 ent15) rfl rfl (le_ rfl) ⟨le_ rfl, le_ rfl⟩ dX0_gradeFor_15 ?_
  refine j_icmp_le E 31 (by decide) dX0_gradeFor_18 (fun c1 => ?_) (fun c1 => ?_)
  · rw [if_pos c1] at hf
    refine j_aload_n E 0 rfl dX0_gradeFor_31 ?_
    refine j_get (f := 0) E (okb10 hj) cf_X0 fl_X0_12 (lt_ rfl) rfl ent10 rfl dX0_gradeFor_32 ?_
    refine j_iload_n E 3 rfl dX0_gradeFor_35 ?_
    obtain ⟨r3, h3, hf⟩ := bn1_e hf
    refine j_invV [] [.int r3] E (c_X1_gradeOfSugar hj h3) ml_X0_113 mv_X1_gradeOfSugar rfl ⟨le_ rfl, le_ rfl⟩ (rcX (okb11 hj) cf_X1 ent11) rfl rfl (le_ rfl) ⟨le_ rfl, le_ rfl⟩ dX0_gradeFor_36 ?_
    cases hf
    exact j_iret E rfl (le_ rfl) (le_ rfl) dX0_gradeFor_39
  · rw [if_neg c1] at hf
    refine j_aload_n E 0 rfl dX0_gradeFor_21 ?_
    refine j_get (f := 0) E (okb10 hj) cf_X0 fl_X0_12 (lt_ rfl) rfl ent10 rfl dX0_gradeFor_22 ?_
    refine j_getN (f := 3) E (okb11 hj) cf_X1 fl_X0_39 (lt_ rfl) rfl ent11 rfl dX0_gradeFor_25 ?_
    refine j_iconst E 1 ic_1 dX0_gradeFor_28 ?_
    refine j_isub E dX0_gradeFor_29 ?_
    cases hf
    exact j_iret E rfl (le_ rfl) (le_ rfl) dX0_gradeFor_30
def f_X9_pour (X : XT) (j i : Nat) (v1 : Int32) (v2 : Int32) (v3 : Int32) : Option XT :=
  bnd (xs X 26 j i 2 v1) (fun X1 => bnd (xs X1 26 j i 1 ((X1 26 j i 1) + v2)) (fun X2 => bnd (xs X2 26 j i 3 ((X2 26 j i 3) + v3)) (fun X3 => some X3)))
set_option maxRecDepth 20000 in
theorem c_X9_pour {l : Launch} {D : DD} {z : Nat} {Y : YT} {X : XT} {j i : Nat} (hj : j < 10) (hi : i < 5) {v1 : Int32} {v2 : Int32} {v3 : Int32} {X' : XT} (hf : f_X9_pour X j i v1 v2 v3 = some X') : CC l yX9_pour cX9_pour 4 none (rmk 1 0 0) D z [.ref (z + aX 26 j i), .int v1, .int v2, .int v3] (GG D z (X, Y)) none (GG D z (X', Y)) := by
  unfold f_X9_pour at hf
  refine cc_of pn_X9 (le_ rfl) (ls := [(0, .ref (z + aX 26 j i)), (1, .int v1), (2, .int v2), (3, .int v3)]) rfl ?_
  intro p e s m args below meth c E
  refine j_aload_n E 0 rfl dX9_pour_0 ?_
  refine j_iload_n E 1 rfl dX9_pour_1 ?_
  obtain ⟨X1, hX1, hf⟩ := bnd_e hf
  refine j_put (f := 2) E (okb26 hj hi) cf_X9 fl_X9_9 (lt_ rfl) ⟨rfl, rfl⟩ (fit_i _) ent26 pe26_2 (lt_ rfl) hX1 dX9_pour_2 ?_
  refine j_aload_n E 0 rfl dX9_pour_5 ?_
  refine j_dup E rfl dX9_pour_6 ?_
  refine j_get (f := 1) E (okb26 hj hi) cf_X9 fl_X9_18 (lt_ rfl) rfl ent26 rfl dX9_pour_7 ?_
  refine j_iload_n E 2 rfl dX9_pour_10 ?_
  refine j_iadd E dX9_pour_11 ?_
  obtain ⟨X2, hX2, hf⟩ := bnd_e hf
  refine j_put (f := 1) E (okb26 hj hi) cf_X9 fl_X9_18 (lt_ rfl) ⟨rfl, rfl⟩ (fit_i _) ent26 pe26_1 (lt_ rfl) hX2 dX9_pour_12 ?_
  refine j_aload_n E 0 rfl dX9_pour_15 ?_
  refine j_dup E rfl dX9_pour_16 ?_
  refine j_get (f := 3) E (okb26 hj hi) cf_X9 fl_X9_21 (lt_ rfl) rfl ent26 rfl dX9_pour_17 ?_
  refine j_iload_n E 3 rfl dX9_pour_20 ?_
  refine j_iadd E dX9_pour_21 ?_
  obtain ⟨X3, hX3, hf⟩ := bnd_e hf
  refine j_put (f := 3) E (okb26 hj hi) cf_X9 fl_X9_21 (lt_ rfl) ⟨rfl, rfl⟩ (fit_i _) ent26 pe26_3 (lt_ rfl) hX3 dX9_pour_22 ?_
  cases hf
  exact j_vret E (le_ rfl) (le_ rfl) dX9_pour_25
def f_X3_addLoad (X : XT) (j : Nat) : Option (Nat × XT) :=
  bnd (if 19 < (X 20 j 0 1) then 19 else (X 20 j 0 1)) (fun x1 => gd (¬ (x1 < 0 ∨ 20 ≤ x1.toNatClampNeg)) (bnd (xs X 22 j x1.toNatClampNeg 7 0) (fun X1 => bnd (xs X1 22 j x1.toNatClampNeg 8 0) (fun X2 => bnd (xs X2 20 j 0 1 (if 20 < ((X2 20 j 0 1) + 1) then 20 else ((X2 20 j 0 1) + 1))) (fun X3 => some (x1.toNatClampNeg, X3))))))
set_option maxRecDepth 20000 in
theorem c_X3_addLoad {l : Launch} {D : DD} {z : Nat} {Y : YT} {X : XT} {j : Nat} (hj : j < 10) {r : Nat} {X' : XT} (hf : f_X3_addLoad X j = some (r, X')) : CC l yX3_addLoad cX3_addLoad 2 (some (.object "WineCooperative$Load")) (rmk 2 0 0) D z [.ref (z + aX 20 j 0)] (GG D z (X, Y)) (some (.ref (z + aX 22 j r))) (GG D z (X', Y)) := by
  unfold f_X3_addLoad at hf
  refine cc_of pn_X3 (le_ rfl) (ls := [(0, .ref (z + aX 20 j 0))]) rfl ?_
  intro p e s m args below meth c E
  refine j_aload_n E 0 rfl dX3_addLoad_0 ?_
  refine j_get (f := 0) E (okb20 hj) cf_X3 fl_X3_11 (lt_ rfl) rfl ent20 rfl dX3_addLoad_1 ?_
  refine j_aload_n E 0 rfl dX3_addLoad_4 ?_
  refine j_get (f := 1) E (okb20 hj) cf_X3 fl_X3_22 (lt_ rfl) rfl ent20 rfl dX3_addLoad_5 ?_
  refine j_bipush E 19 bp_19 dX3_addLoad_8 ?_
  refine j_min [.ref (z + aX 21 j 0)] E ml_X3_26 st_Lib_Math_min_name in_J9 cd_Lib_Math_min_name (le_ rfl) (le_ rfl) (le_ rfl) (le_ rfl) dX3_addLoad_10 ?_
  obtain ⟨x1, hx1, hf⟩ := bnd_e hf
  refine j_name hx1 ?_
  obtain ⟨g1, hf⟩ := gd_e hf
  refine j_aald (t := 4) E (okb21 hj) ent21 rfl g1 dX3_addLoad_13 ?_
  refine j_astore_n (ls' := [(1, .ref (z + aX 22 j x1.toNatClampNeg)), (0, .ref (z + aX 20 j 0))]) E (lt_ rfl) rfl dX3_addLoad_14 ?_
  refine j_aload_n E 0 rfl dX3_addLoad_15 ?_
  refine j_iconst E 0 ic_0 dX3_addLoad_16 ?_
  obtain ⟨X1, hX1, hf⟩ := bnd_e hf
  refine j_putN (f := 7) E (okb22 hj (in_cl g1)) cf_X6 fl_X3_32 (lt_ rfl) ⟨rfl, rfl⟩ ⟨rfl, rfl⟩ ent22 pe22_7 (lt_ rfl) hX1 dX3_addLoad_17 ?_
  refine j_aload_n E 0 rfl dX3_addLoad_20 ?_
  refine j_iconst E 0 ic_0 dX3_addLoad_21 ?_
  obtain ⟨X2, hX2, hf⟩ := bnd_e hf
  refine j_putN (f := 8) E (okb22 hj (in_cl g1)) cf_X6 fl_X3_36 (lt_ rfl) ⟨rfl, rfl⟩ (fit_i _) ent22 pe22_8 (lt_ rfl) hX2 dX3_addLoad_22 ?_
  refine j_aload_n E 1 rfl dX3_addLoad_25 ?_
  refine j_aload_n E 1 rfl dX3_addLoad_26 ?_
  refine j_get (f := 1) E (okb20 hj) cf_X3 fl_X3_22 (lt_ rfl) rfl ent20 rfl dX3_addLoad_27 ?_
  refine j_iconst E 1 ic_1 dX3_addLoad_30 ?_
  refine j_iadd E dX3_addLoad_31 ?_
  refine j_bipush E 20 bp_20 dX3_addLoad_32 ?_
  refine j_min [.ref (z + aX 20 j 0)] E ml_X3_26 st_Lib_Math_min_name in_J9 cd_Lib_Math_min_name (le_ rfl) (le_ rfl) (le_ rfl) (le_ rfl) dX3_addLoad_34 ?_
  obtain ⟨X3, hX3, hf⟩ := bnd_e hf
  refine j_put (f := 1) E (okb20 hj) cf_X3 fl_X3_22 (lt_ rfl) ⟨rfl, rfl⟩ (fit_i _) ent20 pe20_1 (lt_ rfl) hX3 dX3_addLoad_37 ?_
  refine j_aload_n E 0 rfl dX3_addLoad_40 ?_
  cases hf
  exact j_aret E (le_ rfl) (le_ rfl) dX3_addLoad_41
def f_X5_ownerOf (X : XT) (j : Nat) (v1 : Int32) : Option Int32 :=
  if v1 < 0 then (some (-1)) else (if (X 15 j 0 5) ≤ v1 then (some (-1)) else (gd (¬ (v1 < 0 ∨ 8 ≤ v1.toNatClampNeg)) (some (X 17 j 0 v1.toNatClampNeg))))
set_option maxRecDepth 20000 in
theorem c_X5_ownerOf {l : Launch} {D : DD} {z : Nat} {Y : YT} {X : XT} {j : Nat} (hj : j < 10) {v1 : Int32} {r : Int32} (hf : f_X5_ownerOf X j v1 = some r) : CC l yX5_ownerOf cX5_ownerOf 2 (some .int) (rmk 1 0 0) D z [.ref (z + aX 15 j 0), .int v1] (GG D z (X, Y)) (some (.int r)) (GG D z (X, Y)) := by
  unfold f_X5_ownerOf at hf
  refine cc_of pn_X5 (le_ rfl) (ls := [(0, .ref (z + aX 15 j 0)), (1, .int v1)]) rfl ?_
  intro p e s m args below meth c E
  refine j_iload_n E 1 rfl dX5_ownerOf_0 ?_
  refine j_if_lt E 21 (by decide) dX5_ownerOf_1 (fun c1 => ?_) (fun c1 => ?_)
  · rw [if_pos c1] at hf
    refine j_iconst E (-1) ic_m1 dX5_ownerOf_21 ?_
    cases hf
    exact j_iret E rfl (le_ rfl) (le_ rfl) dX5_ownerOf_22
  · rw [if_neg c1] at hf
    refine j_iload_n E 1 rfl dX5_ownerOf_4 ?_
    refine j_aload_n E 0 rfl dX5_ownerOf_5 ?_
    refine j_get (f := 5) E (okb15 hj) cf_X5 fl_X5_34 (lt_ rfl) rfl ent15 rfl dX5_ownerOf_6 ?_
    refine j_icmp_ge E 21 (by decide) dX5_ownerOf_9 (fun c2 => ?_) (fun c2 => ?_)
    · rw [if_pos c2] at hf
      refine j_iconst E (-1) ic_m1 dX5_ownerOf_21 ?_
      cases hf
      exact j_iret E rfl (le_ rfl) (le_ rfl) dX5_ownerOf_22
    · rw [if_neg c2] at hf
      refine j_aload_n E 0 rfl dX5_ownerOf_12 ?_
      refine j_get (f := 1) E (okb15 hj) cf_X5 fl_X5_15 (lt_ rfl) rfl ent15 rfl dX5_ownerOf_13 ?_
      refine j_iload_n E 1 rfl dX5_ownerOf_16 ?_
      obtain ⟨g1, hf⟩ := gd_e hf
      refine j_iald E (okb17 hj) ent17 g1 (v1.toNatClampNeg) rfl dX5_ownerOf_17 ?_
      refine j_goto E 22 (by decide) dX5_ownerOf_18 ?_
      cases hf
      exact j_iret E rfl (le_ rfl) (le_ rfl) dX5_ownerOf_22
def f_X0_accept (X : XT) (j : Nat) (v1 : Int32) (v2 : Int32) (v3 : Int32) : Option (Int32 × XT) :=
  bn1 (f_X5_varietyOn X j v1) (fun r1 => bn1 (f_X0_gradeFor X j v1 v2 v3) (fun r2 => bn1 (f_X2_chooseTank X j r1 v2) (fun r3 => if r3 < 0 then (some ((-1), X)) else (if 5 ≤ r3 then (some ((-1), X)) else (bn1 (f_X3_isFull X j) (fun r4 => if r4 = 0 then (gd (¬ (r3 < 0 ∨ 5 ≤ r3.toNatClampNeg)) (bn1 (f_X9_pour X j (r3.toNatClampNeg) r1 v2 (v2 * v3)) (fun X1 => bn2 (f_X3_addLoad X1 j) (fun r5 X2 => gd (r5 < 20) (bnd (xs X2 22 j r5 0 v1) (fun X3 => bn1 (f_X5_ownerOf X3 j v1) (fun r6 => bnd (xs X3 22 j r5 1 r6) (fun X4 => bnd (xs X4 22 j r5 2 r1) (fun X5 => bnd (xs X5 22 j r5 3 v2) (fun X6 => bnd (xs X6 22 j r5 4 v3) (fun X7 => bnd (xs X7 22 j r5 5 r2) (fun X8 => bnd (xs X8 22 j r5 6 r3) (fun X9 => some (r2, X9)))))))))))))) else (some ((-1), X))))))))
set_option maxRecDepth 20000 in
theorem c_X0_accept {l : Launch} {D : DD} {z : Nat} {Y : YT} {X : XT} {j : Nat} (hj : j < 10) {v1 : Int32} {v2 : Int32} {v3 : Int32} {r : Int32} {X' : XT} (hf : f_X0_accept X j v1 v2 v3 = some (r, X')) : CC l yX0_accept cX0_accept 8 (some .int) (rmk 3 0 0) D z [.ref (z + aX 10 j 0), .int v1, .int v2, .int v3] (GG D z (X, Y)) (some (.int r)) (GG D z (X', Y)) := by
  unfold f_X0_accept at hf
  refine cc_of pn_X0 (le_ rfl) (ls := [(0, .ref (z + aX 10 j 0)), (1, .int v1), (2, .int v2), (3, .int v3)]) rfl ?_
  intro p e s m args below meth c E
  refine j_aload_n E 0 rfl dX0_accept_0 ?_
  refine j_get (f := 1) E (okb10 hj) cf_X0 fl_X0_21 (lt_ rfl) rfl ent10 rfl dX0_accept_1 ?_
  refine j_iload_n E 1 rfl dX0_accept_4 ?_
  obtain ⟨r1, h1, hf⟩ := bn1_e hf
  refine j_invV [] [.int r1] E (c_X5_varietyOn hj h1) ml_X0_116 mv_X5_varietyOn rfl ⟨le_ rfl, le_ rfl⟩ (rcX (okb15 hj) cf_X5 ent15) rfl rfl (le_ rfl) ⟨le_ rfl, le_ rfl⟩ dX0_accept_5 ?_
  refine j_istore (ls' := [(4, .int r1), (0, .ref (z + aX 10 j 0)), (1, .int v1), (2, .int v2), (3, .int v3)]) E (lt_ rfl) rfl dX0_accept_8 ?_
  refine j_aload_n E 1 rfl dX0_accept_10 ?_
  refine j_iload_n E 2 rfl dX0_accept_11 ?_
  refine j_iload_n E 3 rfl dX0_accept_12 ?_
  refine j_iload_n E 4 rfl dX0_accept_13 ?_
  obtain ⟨r2, h2, hf⟩ := bn1_e hf
  refine j_invV [] [.int r2] E (c_X0_gradeFor hj h2) ml_X0_122 mv_X0_gradeFor rfl ⟨le_ rfl, le_ rfl⟩ (rcX (okb10 hj) cf_X0 ent10) rfl rfl (le_ rfl) ⟨le_ rfl, le_ rfl⟩ dX0_accept_14 ?_
  refine j_istore (ls' := [(5, .int r2), (4, .int r1), (0, .ref (z + aX 10 j 0)), (1, .int v1), (2, .int v2), (3, .int v3)]) E (lt_ rfl) rfl dX0_accept_17 ?_
  refine j_aload_n E 2 rfl dX0_accept_19 ?_
  refine j_get (f := 3) E (okb10 hj) cf_X0 fl_X0_35 (lt_ rfl) rfl ent10 rfl dX0_accept_20 ?_
  refine j_iload E 1 rfl dX0_accept_23 ?_
  refine j_iload_n E 4 rfl dX0_accept_25 ?_
  obtain ⟨r3, h3, hf⟩ := bn1_e hf
  refine j_invV [] [.int r3] E (c_X2_chooseTank hj h3) ml_X0_119 mv_X2_chooseTank rfl ⟨le_ rfl, le_ rfl⟩ (rcX (okb23 hj) cf_X2 ent23) rfl rfl (le_ rfl) ⟨le_ rfl, le_ rfl⟩ dX0_accept_26 ?_
  refine j_istore (ls' := [(6, .int r3), (5, .int r2), (4, .int r1), (0, .ref (z + aX 10 j 0)), (1, .int v1), (2, .int v2), (3, .int v3)]) E (lt_ rfl) rfl dX0_accept_29 ?_
  refine j_iload E 0 rfl dX0_accept_31 ?_
  refine j_if_lt E 52 (by decide) dX0_accept_33 (fun c1 => ?_) (fun c1 => ?_)
  · rw [if_pos c1] at hf
    refine j_iconst E (-1) ic_m1 dX0_accept_52 ?_
    cases hf
    exact j_iret E rfl (le_ rfl) (le_ rfl) dX0_accept_53
  · rw [if_neg c1] at hf
    refine j_iload E 0 rfl dX0_accept_36 ?_
    refine j_iconst E 5 ic_5 dX0_accept_38 ?_
    refine j_icmp_ge E 52 (by decide) dX0_accept_39 (fun c2 => ?_) (fun c2 => ?_)
    · rw [if_pos c2] at hf
      refine j_iconst E (-1) ic_m1 dX0_accept_52 ?_
      cases hf
      exact j_iret E rfl (le_ rfl) (le_ rfl) dX0_accept_53
    · rw [if_neg c2] at hf
      refine j_aload_n E 3 rfl dX0_accept_42 ?_
      refine j_get (f := 2) E (okb10 hj) cf_X0 fl_X0_28 (lt_ rfl) rfl ent10 rfl dX0_accept_43 ?_
      obtain ⟨r4, h4, hf⟩ := bn1_e hf
      refine j_invV [] [.int r4] E (c_X3_isFull hj h4) ml_X0_109 mv_X3_isFull rfl ⟨le_ rfl, le_ rfl⟩ (rcX (okb20 hj) cf_X3 ent20) rfl rfl (le_ rfl) ⟨le_ rfl, le_ rfl⟩ dX0_accept_46 ?_
      refine j_if_eq E 54 (by decide) dX0_accept_49 (fun c3 => ?_) (fun c3 => ?_)
      · rw [if_pos c3] at hf
        refine j_aload_n E 3 rfl dX0_accept_54 ?_
        refine j_get (f := 3) E (okb10 hj) cf_X0 fl_X0_35 (lt_ rfl) rfl ent10 rfl dX0_accept_55 ?_
        refine j_getN (f := 0) E (okb23 hj) cf_X2 fl_X0_126 (lt_ rfl) rfl ent23 rfl dX0_accept_58 ?_
        refine j_iload E 0 rfl dX0_accept_61 ?_
        obtain ⟨g1, hf⟩ := gd_e hf
        refine j_aald (t := 5) E (okb24 hj) ent24 rfl g1 dX0_accept_63 ?_
        refine j_iload E 2 rfl dX0_accept_64 ?_
        refine j_iload_n E 5 rfl dX0_accept_66 ?_
        refine j_iload_n E 5 rfl dX0_accept_67 ?_
        refine j_iload_n E 6 rfl dX0_accept_68 ?_
        refine j_imul E dX0_accept_69 ?_
        obtain ⟨X1, h5, hf⟩ := bn1_e hf
        refine j_invV [] [] E (c_X9_pour hj (in_cl g1) h5) ml_X0_130 mv_X9_pour rfl ⟨le_ rfl, le_ rfl⟩ (rcX (okb26 hj (in_cl g1)) cf_X9 ent26) rfl rfl (le_ rfl) ⟨le_ rfl, le_ rfl⟩ dX0_accept_70 ?_
        refine j_aload_n E 3 rfl dX0_accept_73 ?_
        refine j_get (f := 2) E (okb10 hj) cf_X0 fl_X0_28 (lt_ rfl) rfl ent10 rfl dX0_accept_74 ?_
        obtain ⟨r5, X2, h6, hf⟩ := bn2_e hf
        obtain ⟨g2, hf⟩ := gd_e hf
        refine j_invV [] [.ref (z + aX 22 j r5)] E (c_X3_addLoad hj h6) ml_X0_136 mv_X3_addLoad rfl ⟨le_ rfl, le_ rfl⟩ (rcX (okb20 hj) cf_X3 ent20) rfl rfl (le_ rfl) ⟨le_ rfl, le_ rfl⟩ dX0_accept_77 ?_
        refine j_astore (ls' := [(7, .ref (z + aX 22 j r5)), (6, .int r3), (5, .int r2), (4, .int r1), (0, .ref (z + aX 10 j 0)), (1, .int v1), (2, .int v2), (3, .int v3)]) E (lt_ rfl) rfl dX0_accept_80 ?_
        refine j_aload E 0 rfl dX0_accept_82 ?_
        refine j_iload_n E 5 rfl dX0_accept_84 ?_
        obtain ⟨X3, hX3, hf⟩ := bnd_e hf
        refine j_putN (f := 0) E (okb22 hj g2) cf_X6 fl_X0_140 (lt_ rfl) ⟨rfl, rfl⟩ (fit_i _) ent22 pe22_0 (lt_ rfl) hX3 dX0_accept_85 ?_
        refine j_aload E 0 rfl dX0_accept_88 ?_
        refine j_aload_n E 4 rfl dX0_accept_90 ?_
        refine j_get (f := 1) E (okb10 hj) cf_X0 fl_X0_21 (lt_ rfl) rfl ent10 rfl dX0_accept_91 ?_
        refine j_iload_n E 5 rfl dX0_accept_94 ?_
        obtain ⟨r6, h7, hf⟩ := bn1_e hf
        refine j_invV [.ref (z + aX 22 j r5)] [.int r6, .ref (z + aX 22 j r5)] E (c_X5_ownerOf hj h7) ml_X0_145 mv_X5_ownerOf rfl ⟨le_ rfl, le_ rfl⟩ (rcX (okb15 hj) cf_X5 ent15) rfl rfl (le_ rfl) ⟨le_ rfl, le_ rfl⟩ dX0_accept_95 ?_
        obtain ⟨X4, hX4, hf⟩ := bnd_e hf
        refine j_putN (f := 1) E (okb22 hj g2) cf_X6 fl_X0_148 (lt_ rfl) ⟨rfl, rfl⟩ (fit_i _) ent22 pe22_1 (lt_ rfl) hX4 dX0_accept_98 ?_
        refine j_aload E 0 rfl dX0_accept_101 ?_
        refine j_iload E 3 rfl dX0_accept_103 ?_
        obtain ⟨X5, hX5, hf⟩ := bnd_e hf
        refine j_putN (f := 2) E (okb22 hj g2) cf_X6 fl_X0_151 (lt_ rfl) ⟨rfl, rfl⟩ (fit_i _) ent22 pe22_2 (lt_ rfl) hX5 dX0_accept_105 ?_
        refine j_aload E 0 rfl dX0_accept_108 ?_
        refine j_iload_n E 6 rfl dX0_accept_110 ?_
        obtain ⟨X6, hX6, hf⟩ := bnd_e hf
        refine j_putN (f := 3) E (okb22 hj g2) cf_X6 fl_X0_154 (lt_ rfl) ⟨rfl, rfl⟩ (fit_i _) ent22 pe22_3 (lt_ rfl) hX6 dX0_accept_111 ?_
        refine j_aload E 0 rfl dX0_accept_114 ?_
        refine j_iload_n E 7 rfl dX0_accept_116 ?_
        obtain ⟨X7, hX7, hf⟩ := bnd_e hf
        refine j_putN (f := 4) E (okb22 hj g2) cf_X6 fl_X0_157 (lt_ rfl) ⟨rfl, rfl⟩ (fit_i _) ent22 pe22_4 (lt_ rfl) hX7 dX0_accept_117 ?_
        refine j_aload E 0 rfl dX0_accept_120 ?_
        refine j_iload E 2 rfl dX0_accept_122 ?_
        obtain ⟨X8, hX8, hf⟩ := bnd_e hf
        refine j_putN (f := 5) E (okb22 hj g2) cf_X6 fl_X0_160 (lt_ rfl) ⟨rfl, rfl⟩ (fit_i _) ent22 pe22_5 (lt_ rfl) hX8 dX0_accept_124 ?_
        refine j_aload E 0 rfl dX0_accept_127 ?_
        refine j_iload E 1 rfl dX0_accept_129 ?_
        obtain ⟨X9, hX9, hf⟩ := bnd_e hf
        refine j_putN (f := 6) E (okb22 hj g2) cf_X6 fl_X0_163 (lt_ rfl) ⟨rfl, rfl⟩ (fit_i _) ent22 pe22_6 (lt_ rfl) hX9 dX0_accept_131 ?_
        refine j_iload E 2 rfl dX0_accept_134 ?_
        cases hf
        exact j_iret E rfl (le_ rfl) (le_ rfl) dX0_accept_136
      · rw [if_neg c3] at hf
        refine j_iconst E (-1) ic_m1 dX0_accept_52 ?_
        cases hf
        exact j_iret E rfl (le_ rfl) (le_ rfl) dX0_accept_53
def f_X1_centsFor (X : XT) (j : Nat) (v1 : Int32) (v2 : Int32) : Option Int32 :=
  if v1 < 0 then (some 0) else (if (X 11 j 0 4) ≤ v1 then (some 0) else (if v2 < 0 then (some 0) else (if v2 < (X 11 j 0 3) then (bnd ((v1 * 4) + v2) (fun x1 => gd (¬ (x1 < 0 ∨ 16 ≤ x1.toNatClampNeg)) (some (X 14 j 0 x1.toNatClampNeg)))) else (some 0))))
set_option maxRecDepth 20000 in
theorem c_X1_centsFor {l : Launch} {D : DD} {z : Nat} {Y : YT} {X : XT} {j : Nat} (hj : j < 10) {v1 : Int32} {v2 : Int32} {r : Int32} (hf : f_X1_centsFor X j v1 v2 = some r) : CC l yX1_centsFor cX1_centsFor 3 (some .int) (rmk 1 0 0) D z [.ref (z + aX 11 j 0), .int v1, .int v2] (GG D z (X, Y)) (some (.int r)) (GG D z (X, Y)) := by
  unfold f_X1_centsFor at hf
  refine cc_of pn_X1 (le_ rfl) (ls := [(0, .ref (z + aX 11 j 0)), (1, .int v1), (2, .int v2)]) rfl ?_
  intro p e s m args below meth c E
  refine j_iload_n E 1 rfl dX1_centsFor_0 ?_
  refine j_if_lt E 24 (by decide) dX1_centsFor_1 (fun c1 => ?_) (fun c1 => ?_)
  · rw [if_pos c1] at hf
    refine j_iconst E 0 ic_0 dX1_centsFor_24 ?_
    cases hf
    exact j_iret E rfl (le_ rfl) (le_ rfl) dX1_centsFor_25
  · rw [if_neg c1] at hf
    refine j_iload_n E 1 rfl dX1_centsFor_4 ?_
    refine j_aload_n E 0 rfl dX1_centsFor_5 ?_
    refine j_get (f := 4) E (okb11 hj) cf_X1 fl_X1_31 (lt_ rfl) rfl ent11 rfl dX1_centsFor_6 ?_
    refine j_icmp_ge E 24 (by decide) dX1_centsFor_9 (fun c2 => ?_) (fun c2 => ?_)
    · rw [if_pos c2] at hf
      refine j_iconst E 0 ic_0 dX1_centsFor_24 ?_
      cases hf
      exact j_iret E rfl (le_ rfl) (le_ rfl) dX1_centsFor_25
    · rw [if_neg c2] at hf
      refine j_iload_n E 2 rfl dX1_centsFor_12 ?_
      refine j_if_lt E 24 (by decide) dX1_centsFor_13 (fun c3 => ?_) (fun c3 => ?_)
      · rw [if_pos c3] at hf
        refine j_iconst E 0 ic_0 dX1_centsFor_24 ?_
        cases hf
        exact j_iret E rfl (le_ rfl) (le_ rfl) dX1_centsFor_25
      · rw [if_neg c3] at hf
        refine j_iload_n E 2 rfl dX1_centsFor_16 ?_
        refine j_aload_n E 0 rfl dX1_centsFor_17 ?_
        refine j_get (f := 3) E (okb11 hj) cf_X1 fl_X1_27 (lt_ rfl) rfl ent11 rfl dX1_centsFor_18 ?_
        refine j_icmp_lt E 26 (by decide) dX1_centsFor_21 (fun c4 => ?_) (fun c4 => ?_)
        · rw [if_pos c4] at hf
          refine j_aload_n E 0 rfl dX1_centsFor_26 ?_
          refine j_get (f := 2) E (okb11 hj) cf_X1 fl_X1_18 (lt_ rfl) rfl ent11 rfl dX1_centsFor_27 ?_
          refine j_iload_n E 1 rfl dX1_centsFor_30 ?_
          refine j_iconst E 4 ic_4 dX1_centsFor_31 ?_
          refine j_imul E dX1_centsFor_32 ?_
          refine j_iload_n E 2 rfl dX1_centsFor_33 ?_
          refine j_iadd E dX1_centsFor_34 ?_
          obtain ⟨x1, hx1, hf⟩ := bnd_e hf
          refine j_name hx1 ?_
          obtain ⟨g1, hf⟩ := gd_e hf
          refine j_iald E (okb14 hj) ent14 g1 (x1.toNatClampNeg) rfl dX1_centsFor_35 ?_
          cases hf
          exact j_iret E rfl (le_ rfl) (le_ rfl) dX1_centsFor_36
        · rw [if_neg c4] at hf
          refine j_iconst E 0 ic_0 dX1_centsFor_24 ?_
          cases hf
          exact j_iret E rfl (le_ rfl) (le_ rfl) dX1_centsFor_25
def f_X0_centsOf (X : XT) (j j1 i1 : Nat) : Option Int32 :=
  if (X 22 j1 i1 7) = 0 then (bn1 (f_X1_centsFor X j (X 22 j1 i1 2) (X 22 j1 i1 5)) (fun r1 => some ((X 22 j1 i1 3) * r1))) else (some (X 22 j1 i1 8))
set_option maxRecDepth 20000 in
theorem c_X0_centsOf {l : Launch} {D : DD} {z : Nat} {Y : YT} {X : XT} {j j1 i1 : Nat} (hj : j < 10) (hj1 : j1 < 10) (hi1 : i1 < 20) {r : Int32} (hf : f_X0_centsOf X j j1 i1 = some r) : CC l yX0_centsOf cX0_centsOf 2 (some .int) (rmk 2 0 0) D z [.ref (z + aX 10 j 0), .ref (z + aX 22 j1 i1)] (GG D z (X, Y)) (some (.int r)) (GG D z (X, Y)) := by
  unfold f_X0_centsOf at hf
  refine cc_of pn_X0 (le_ rfl) (ls := [(0, .ref (z + aX 10 j 0)), (1, .ref (z + aX 22 j1 i1))]) rfl ?_
  intro p e s m args below meth c E
  refine j_aload_n E 1 rfl dX0_centsOf_0 ?_
  refine j_getN (f := 7) E (okb22 hj1 hi1) cf_X6 fl_X0_166 (lt_ rfl) rfl ent22 rfl dX0_centsOf_1 ?_
  refine j_if_eq E 14 (by decide) dX0_centsOf_4 (fun c1 => ?_) (fun c1 => ?_)
  · rw [if_pos c1] at hf
    refine j_aload_n E 1 rfl dX0_centsOf_14 ?_
    refine j_getN (f := 3) E (okb22 hj1 hi1) cf_X6 fl_X0_154 (lt_ rfl) rfl ent22 rfl dX0_centsOf_15 ?_
    refine j_aload_n E 0 rfl dX0_centsOf_18 ?_
    refine j_get (f := 0) E (okb10 hj) cf_X0 fl_X0_12 (lt_ rfl) rfl ent10 rfl dX0_centsOf_19 ?_
    refine j_aload_n E 1 rfl dX0_centsOf_22 ?_
    refine j_getN (f := 2) E (okb22 hj1 hi1) cf_X6 fl_X0_151 (lt_ rfl) rfl ent22 rfl dX0_centsOf_23 ?_
    refine j_aload_n E 1 rfl dX0_centsOf_26 ?_
    refine j_getN (f := 5) E (okb22 hj1 hi1) cf_X6 fl_X0_160 (lt_ rfl) rfl ent22 rfl dX0_centsOf_27 ?_
    obtain ⟨r1, h1, hf⟩ := bn1_e hf
    refine j_invV [.int (X 22 j1 i1 3)] [.int r1, .int (X 22 j1 i1 3)] E (c_X1_centsFor hj h1) ml_X0_173 mv_X1_centsFor rfl ⟨le_ rfl, le_ rfl⟩ (rcX (okb11 hj) cf_X1 ent11) rfl rfl (le_ rfl) ⟨le_ rfl, le_ rfl⟩ dX0_centsOf_30 ?_
    refine j_imul E dX0_centsOf_33 ?_
    cases hf
    exact j_iret E rfl (le_ rfl) (le_ rfl) dX0_centsOf_34
  · rw [if_neg c1] at hf
    refine j_aload_n E 1 rfl dX0_centsOf_7 ?_
    refine j_getN (f := 8) E (okb22 hj1 hi1) cf_X6 fl_X0_170 (lt_ rfl) rfl ent22 rfl dX0_centsOf_8 ?_
    refine j_goto E 34 (by decide) dX0_centsOf_11 ?_
    cases hf
    exact j_iret E rfl (le_ rfl) (le_ rfl) dX0_centsOf_34
def f_X6_isUnpaidOf (X : XT) (j i : Nat) (v1 : Int32) : Option Int32 :=
  if (X 22 j i 1) = v1 then (if (X 22 j i 7) = 0 then (some 1) else (some 0)) else (some 0)
set_option maxRecDepth 20000 in
theorem c_X6_isUnpaidOf {l : Launch} {D : DD} {z : Nat} {Y : YT} {X : XT} {j i : Nat} (hj : j < 10) (hi : i < 20) {v1 : Int32} {r : Int32} (hf : f_X6_isUnpaidOf X j i v1 = some r) : CC l yX6_isUnpaidOf cX6_isUnpaidOf 2 (some .boolean) (rmk 1 0 0) D z [.ref (z + aX 22 j i), .int v1] (GG D z (X, Y)) (some (.int r)) (GG D z (X, Y)) := by
  unfold f_X6_isUnpaidOf at hf
  refine cc_of pn_X6 (le_ rfl) (ls := [(0, .ref (z + aX 22 j i)), (1, .int v1)]) rfl ?_
  intro p e s m args below meth c E
  refine j_aload_n E 0 rfl dX6_isUnpaidOf_0 ?_
  refine j_get (f := 1) E (okb22 hj hi) cf_X6 fl_X6_13 (lt_ rfl) rfl ent22 rfl dX6_isUnpaidOf_1 ?_
  refine j_iload_n E 1 rfl dX6_isUnpaidOf_4 ?_
  refine j_icmp_ne E 19 (by decide) dX6_isUnpaidOf_5 (fun c1 => ?_) (fun c1 => ?_)
  · rw [if_neg c1] at hf
    refine j_iconst E 0 ic_0 dX6_isUnpaidOf_19 ?_
    cases hf
    exact j_iret E rfl (le_ rfl) (le_ rfl) dX6_isUnpaidOf_20
  · rw [if_pos c1] at hf
    refine j_aload_n E 0 rfl dX6_isUnpaidOf_8 ?_
    refine j_get (f := 7) E (okb22 hj hi) cf_X6 fl_X6_31 (lt_ rfl) rfl ent22 rfl dX6_isUnpaidOf_9 ?_
    refine j_if_ne E 19 (by decide) dX6_isUnpaidOf_12 (fun c2 => ?_) (fun c2 => ?_)
    · rw [if_neg c2] at hf
      refine j_iconst E 0 ic_0 dX6_isUnpaidOf_19 ?_
      cases hf
      exact j_iret E rfl (le_ rfl) (le_ rfl) dX6_isUnpaidOf_20
    · rw [if_pos c2] at hf
      refine j_iconst E 1 ic_1 dX6_isUnpaidOf_15 ?_
      refine j_goto E 20 (by decide) dX6_isUnpaidOf_16 ?_
      cases hf
      exact j_iret E rfl (le_ rfl) (le_ rfl) dX6_isUnpaidOf_20
def f_X0_unpaidTo_4 (X : XT) (j : Nat) (v1 : Int32) : Nat → Int32 → Int32 → Option Int32
  | 0, _, _ => none
  | n + 1, v2, v3 => if (X 20 j 0 1) ≤ v3 then (some v2) else (gd (¬ (v3 < 0 ∨ 20 ≤ v3.toNatClampNeg)) (bn1 (f_X6_isUnpaidOf X j (v3.toNatClampNeg) v1) (fun r1 => if r1 = 0 then (f_X0_unpaidTo_4 X j v1 n v2 (v3 + 1)) else (bn1 (f_X1_centsFor X j (X 22 j v3.toNatClampNeg 2) (X 22 j v3.toNatClampNeg 5)) (fun r2 => bnd (v2 + ((X 22 j v3.toNatClampNeg 3) * r2)) (fun x1 => f_X0_unpaidTo_4 X j v1 n x1 (v3 + 1)))))))
def f_X0_unpaidTo (X : XT) (j : Nat) (v1 : Int32) : Option Int32 :=
  f_X0_unpaidTo_4 X j v1 2000 0 0
set_option maxRecDepth 20000 in
theorem b_X0_unpaidTo_4 {p : Program} {l : Launch} {e : Env} {s : State} {m : MethodId} {args : Array Value} {below : List Frame} {meth : Method} {c : Code} {D : DD} {z : Nat} {Y : YT} {X : XT} {j : Nat} (hj : j < 10) {v1 : Int32} (E : Cx p s m args meth c D z RX0 cX0_unpaidTo 5 (some .int)) {r : Int32} : ∀ (n : Nat) (v2 : Int32) (v3 : Int32) (hf : f_X0_unpaidTo_4 X j v1 n v2 v3 = some r), J p l e (rmk 2 0 0) s m args below meth c D z (GG D z (X, Y)) 0 0 (MQ below (QC z (some (.int r)) (GG D z (X, Y))) args s (rmk 2 0 0).cells (rmk 2 0 0).slots (Az z)) 5 4 [(0, .ref (z + aX 10 j 0)), (1, .int v1), (2, .int v2), (3, .int v3)] [] := by
  intro n
  induction n with
  | zero =>
    intro v2 v3 hf
    exact none_e hf
  | succ n ih =>
    intro v2 v3 hf
    rw [f_X0_unpaidTo_4] at hf
    refine j_iload_n E 3 rfl dX0_unpaidTo_4 ?_
    refine j_aload_n E 0 rfl dX0_unpaidTo_5 ?_
    refine j_get (f := 2) E (okb10 hj) cf_X0 fl_X0_28 (lt_ rfl) rfl ent10 rfl dX0_unpaidTo_6 ?_
    refine j_getN (f := 1) E (okb20 hj) cf_X3 fl_X0_52 (lt_ rfl) rfl ent20 rfl dX0_unpaidTo_9 ?_
    refine j_icmp_ge E 67 (by decide) dX0_unpaidTo_12 (fun c1 => ?_) (fun c1 => ?_)
    · rw [if_pos c1] at hf
      refine j_iload_n E 2 rfl dX0_unpaidTo_67 ?_
      cases hf
      exact j_iret E rfl (le_ rfl) (le_ rfl) dX0_unpaidTo_68
    · rw [if_neg c1] at hf
      refine j_aload_n E 0 rfl dX0_unpaidTo_15 ?_
      refine j_get (f := 2) E (okb10 hj) cf_X0 fl_X0_28 (lt_ rfl) rfl ent10 rfl dX0_unpaidTo_16 ?_
      refine j_getN (f := 0) E (okb20 hj) cf_X3 fl_X0_176 (lt_ rfl) rfl ent20 rfl dX0_unpaidTo_19 ?_
      refine j_iload_n E 3 rfl dX0_unpaidTo_22 ?_
      obtain ⟨g1, hf⟩ := gd_e hf
      refine j_aald (t := 4) E (okb21 hj) ent21 rfl g1 dX0_unpaidTo_23 ?_
      refine j_astore (ls' := [(4, .ref (z + aX 22 j v3.toNatClampNeg)), (0, .ref (z + aX 10 j 0)), (1, .int v1), (2, .int v2), (3, .int v3)]) E (lt_ rfl) rfl dX0_unpaidTo_24 ?_
      refine j_aload E 0 rfl dX0_unpaidTo_26 ?_
      refine j_iload_n E 2 rfl dX0_unpaidTo_28 ?_
      obtain ⟨r1, h1, hf⟩ := bn1_e hf
      refine j_invV [] [.int r1] E (c_X6_isUnpaidOf hj (in_cl g1) h1) ml_X0_180 mv_X6_isUnpaidOf rfl ⟨le_ rfl, le_ rfl⟩ (rcX (okb22 hj (in_cl g1)) cf_X6 ent22) rfl rfl (le_ rfl) ⟨le_ rfl, le_ rfl⟩ dX0_unpaidTo_29 ?_
      refine j_if_eq E 61 (by decide) dX0_unpaidTo_32 (fun c2 => ?_) (fun c2 => ?_)
      · rw [if_pos c2] at hf
        refine j_iinc (ls' := [(3, .int (v3 + 1)), (4, .ref (z + aX 22 j v3.toNatClampNeg)), (0, .ref (z + aX 10 j 0)), (1, .int v1), (2, .int v2)]) E 4 rfl (lt_ rfl) (v3 + 1) (congrArg (fun q => v3 + q) ic_1) rfl dX0_unpaidTo_61 ?_
        refine j_goto E 4 (by decide) dX0_unpaidTo_64 ?_
        refine j_sub [2, 3, 4, 0] rfl ?_
        exact ih _ _ hf
      · rw [if_neg c2] at hf
        refine j_iload_n E 3 rfl dX0_unpaidTo_35 ?_
        refine j_aload E 0 rfl dX0_unpaidTo_36 ?_
        refine j_getN (f := 3) E (okb22 hj (in_cl g1)) cf_X6 fl_X0_154 (lt_ rfl) rfl ent22 rfl dX0_unpaidTo_38 ?_
        refine j_aload_n E 1 rfl dX0_unpaidTo_41 ?_
        refine j_get (f := 0) E (okb10 hj) cf_X0 fl_X0_12 (lt_ rfl) rfl ent10 rfl dX0_unpaidTo_42 ?_
        refine j_aload E 0 rfl dX0_unpaidTo_45 ?_
        refine j_getN (f := 2) E (okb22 hj (in_cl g1)) cf_X6 fl_X0_151 (lt_ rfl) rfl ent22 rfl dX0_unpaidTo_47 ?_
        refine j_aload E 0 rfl dX0_unpaidTo_50 ?_
        refine j_getN (f := 5) E (okb22 hj (in_cl g1)) cf_X6 fl_X0_160 (lt_ rfl) rfl ent22 rfl dX0_unpaidTo_52 ?_
        obtain ⟨r2, h2, hf⟩ := bn1_e hf
        refine j_invV [.int (X 22 j v3.toNatClampNeg 3), .int v2] [.int r2, .int (X 22 j v3.toNatClampNeg 3), .int v2] E (c_X1_centsFor hj h2) ml_X0_173 mv_X1_centsFor rfl ⟨le_ rfl, le_ rfl⟩ (rcX (okb11 hj) cf_X1 ent11) rfl rfl (le_ rfl) ⟨le_ rfl, le_ rfl⟩ dX0_unpaidTo_55 ?_
        refine j_imul E dX0_unpaidTo_58 ?_
        refine j_iadd E dX0_unpaidTo_59 ?_
        obtain ⟨x1, hx1, hf⟩ := bnd_e hf
        refine j_name hx1 ?_
        refine j_istore_n (ls' := [(2, .int x1), (4, .ref (z + aX 22 j v3.toNatClampNeg)), (0, .ref (z + aX 10 j 0)), (1, .int v1), (3, .int v3)]) E (lt_ rfl) rfl dX0_unpaidTo_60 ?_
        refine j_iinc (ls' := [(3, .int (v3 + 1)), (2, .int x1), (4, .ref (z + aX 22 j v3.toNatClampNeg)), (0, .ref (z + aX 10 j 0)), (1, .int v1)]) E 4 rfl (lt_ rfl) (v3 + 1) (congrArg (fun q => v3 + q) ic_1) rfl dX0_unpaidTo_61 ?_
        refine j_goto E 4 (by decide) dX0_unpaidTo_64 ?_
        refine j_sub [3, 4, 1, 0] rfl ?_
        exact ih _ _ hf
set_option maxRecDepth 20000 in
theorem c_X0_unpaidTo {l : Launch} {D : DD} {z : Nat} {Y : YT} {X : XT} {j : Nat} (hj : j < 10) {v1 : Int32} {r : Int32} (hf : f_X0_unpaidTo X j v1 = some r) : CC l yX0_unpaidTo cX0_unpaidTo 5 (some .int) (rmk 2 0 0) D z [.ref (z + aX 10 j 0), .int v1] (GG D z (X, Y)) (some (.int r)) (GG D z (X, Y)) := by
  unfold f_X0_unpaidTo at hf
  refine cc_of pn_X0 (le_ rfl) (ls := [(0, .ref (z + aX 10 j 0)), (1, .int v1)]) rfl ?_
  intro p e s m args below meth c E
  refine j_iconst E 0 ic_0 dX0_unpaidTo_0 ?_
  refine j_istore_n (ls' := [(2, .int 0), (0, .ref (z + aX 10 j 0)), (1, .int v1)]) E (lt_ rfl) rfl dX0_unpaidTo_1 ?_
  refine j_iconst E 0 ic_0 dX0_unpaidTo_2 ?_
  refine j_istore_n (ls' := [(3, .int 0), (2, .int 0), (0, .ref (z + aX 10 j 0)), (1, .int v1)]) E (lt_ rfl) rfl dX0_unpaidTo_3 ?_
  refine j_sub [2, 3, 1, 0] rfl ?_
  exact b_X0_unpaidTo_4 hj E 2000 _ _ hf
def f_X0_unpaidToAll_4 (X : XT) (j : Nat) : Nat → Int32 → Int32 → Option Int32
  | 0, _, _ => none
  | n + 1, v1, v2 => if (X 15 j 0 4) ≤ v2 then (some v1) else (bn1 (f_X0_unpaidTo X j v2) (fun r1 => bnd (v1 + r1) (fun x1 => f_X0_unpaidToAll_4 X j n x1 (v2 + 1))))
def f_X0_unpaidToAll (X : XT) (j : Nat) : Option Int32 :=
  f_X0_unpaidToAll_4 X j 2000 0 0
set_option maxRecDepth 20000 in
theorem b_X0_unpaidToAll_4 {p : Program} {l : Launch} {e : Env} {s : State} {m : MethodId} {args : Array Value} {below : List Frame} {meth : Method} {c : Code} {D : DD} {z : Nat} {Y : YT} {X : XT} {j : Nat} (hj : j < 10) (E : Cx p s m args meth c D z RX0 cX0_unpaidToAll 3 (some .int)) {r : Int32} : ∀ (n : Nat) (v1 : Int32) (v2 : Int32) (hf : f_X0_unpaidToAll_4 X j n v1 v2 = some r), J p l e (rmk 3 0 0) s m args below meth c D z (GG D z (X, Y)) 0 0 (MQ below (QC z (some (.int r)) (GG D z (X, Y))) args s (rmk 3 0 0).cells (rmk 3 0 0).slots (Az z)) 3 4 [(0, .ref (z + aX 10 j 0)), (1, .int v1), (2, .int v2)] [] := by
  intro n
  induction n with
  | zero =>
    intro v1 v2 hf
    exact none_e hf
  | succ n ih =>
    intro v1 v2 hf
    rw [f_X0_unpaidToAll_4] at hf
    refine j_iload_n E 2 rfl dX0_unpaidToAll_4 ?_
    refine j_aload_n E 0 rfl dX0_unpaidToAll_5 ?_
    refine j_get (f := 1) E (okb10 hj) cf_X0 fl_X0_21 (lt_ rfl) rfl ent10 rfl dX0_unpaidToAll_6 ?_
    refine j_getN (f := 4) E (okb15 hj) cf_X5 fl_X0_46 (lt_ rfl) rfl ent15 rfl dX0_unpaidToAll_9 ?_
    refine j_icmp_ge E 29 (by decide) dX0_unpaidToAll_12 (fun c1 => ?_) (fun c1 => ?_)
    · rw [if_pos c1] at hf
      refine j_iload_n E 1 rfl dX0_unpaidToAll_29 ?_
      cases hf
      exact j_iret E rfl (le_ rfl) (le_ rfl) dX0_unpaidToAll_30
    · rw [if_neg c1] at hf
      refine j_iload_n E 1 rfl dX0_unpaidToAll_15 ?_
      refine j_aload_n E 0 rfl dX0_unpaidToAll_16 ?_
      refine j_iload_n E 2 rfl dX0_unpaidToAll_17 ?_
      obtain ⟨r1, h1, hf⟩ := bn1_e hf
      refine j_invV [.int v1] [.int r1, .int v1] E (c_X0_unpaidTo hj h1) ml_X0_184 mv_X0_unpaidTo rfl ⟨le_ rfl, le_ rfl⟩ (rcX (okb10 hj) cf_X0 ent10) rfl rfl (le_ rfl) ⟨le_ rfl, le_ rfl⟩ dX0_unpaidToAll_18 ?_
      refine j_iadd E dX0_unpaidToAll_21 ?_
      obtain ⟨x1, hx1, hf⟩ := bnd_e hf
      refine j_name hx1 ?_
      refine j_istore_n (ls' := [(1, .int x1), (0, .ref (z + aX 10 j 0)), (2, .int v2)]) E (lt_ rfl) rfl dX0_unpaidToAll_22 ?_
      refine j_iinc (ls' := [(2, .int (v2 + 1)), (1, .int x1), (0, .ref (z + aX 10 j 0))]) E 2 rfl (lt_ rfl) (v2 + 1) (congrArg (fun q => v2 + q) ic_1) rfl dX0_unpaidToAll_23 ?_
      refine j_goto E 4 (by decide) dX0_unpaidToAll_26 ?_
      refine j_sub [2, 1, 0] rfl ?_
      exact ih _ _ hf
set_option maxRecDepth 20000 in
theorem c_X0_unpaidToAll {l : Launch} {D : DD} {z : Nat} {Y : YT} {X : XT} {j : Nat} (hj : j < 10) {r : Int32} (hf : f_X0_unpaidToAll X j = some r) : CC l yX0_unpaidToAll cX0_unpaidToAll 3 (some .int) (rmk 3 0 0) D z [.ref (z + aX 10 j 0)] (GG D z (X, Y)) (some (.int r)) (GG D z (X, Y)) := by
  unfold f_X0_unpaidToAll at hf
  refine cc_of pn_X0 (le_ rfl) (ls := [(0, .ref (z + aX 10 j 0))]) rfl ?_
  intro p e s m args below meth c E
  refine j_iconst E 0 ic_0 dX0_unpaidToAll_0 ?_
  refine j_istore_n (ls' := [(1, .int 0), (0, .ref (z + aX 10 j 0))]) E (lt_ rfl) rfl dX0_unpaidToAll_1 ?_
  refine j_iconst E 0 ic_0 dX0_unpaidToAll_2 ?_
  refine j_istore_n (ls' := [(2, .int 0), (1, .int 0), (0, .ref (z + aX 10 j 0))]) E (lt_ rfl) rfl dX0_unpaidToAll_3 ?_
  refine j_sub [2, 1, 0] rfl ?_
  exact b_X0_unpaidToAll_4 hj E 2000 _ _ hf
def f_X0_countPayable_9 (X : XT) (j : Nat) : Nat → Int32 → Int32 → Int32 → Option Int32
  | 0, _, _, _ => none
  | n + 1, v1, v2, v3 => if (X 15 j 0 4) ≤ v3 then (some v2) else (bn1 (f_X0_unpaidTo X j v3) (fun r1 => if r1 ≤ v1 then (if r1 ≤ 0 then (f_X0_countPayable_9 X j n v1 v2 (v3 + 1)) else (bnd (v1 - r1) (fun x1 => f_X0_countPayable_9 X j n x1 (v2 + 1) (v3 + 1)))) else (some v2)))
def f_X0_countPayable (X : XT) (j : Nat) : Option Int32 :=
  f_X0_countPayable_9 X j 2000 (X 10 j 0 6) 0 0
set_option maxRecDepth 20000 in
theorem b_X0_countPayable_9 {p : Program} {l : Launch} {e : Env} {s : State} {m : MethodId} {args : Array Value} {below : List Frame} {meth : Method} {c : Code} {D : DD} {z : Nat} {Y : YT} {X : XT} {j : Nat} (hj : j < 10) (E : Cx p s m args meth c D z RX0 cX0_countPayable 5 (some .int)) {r : Int32} : ∀ (n : Nat) (v1 : Int32) (v2 : Int32) (v3 : Int32) (hf : f_X0_countPayable_9 X j n v1 v2 v3 = some r), J p l e (rmk 3 0 0) s m args below meth c D z (GG D z (X, Y)) 0 0 (MQ below (QC z (some (.int r)) (GG D z (X, Y))) args s (rmk 3 0 0).cells (rmk 3 0 0).slots (Az z)) 5 9 [(0, .ref (z + aX 10 j 0)), (1, .int v1), (2, .int v2), (3, .int v3)] [] := by
  intro n
  induction n with
  | zero =>
    intro v1 v2 v3 hf
    exact none_e hf
  | succ n ih =>
    intro v1 v2 v3 hf
    rw [f_X0_countPayable_9] at hf
    refine j_iload_n E 3 rfl dX0_countPayable_9 ?_
    refine j_aload_n E 0 rfl dX0_countPayable_10 ?_
    refine j_get (f := 1) E (okb10 hj) cf_X0 fl_X0_21 (lt_ rfl) rfl ent10 rfl dX0_countPayable_11 ?_
    refine j_getN (f := 4) E (okb15 hj) cf_X5 fl_X0_46 (lt_ rfl) rfl ent15 rfl dX0_countPayable_14 ?_
    refine j_icmp_ge E 55 (by decide) dX0_countPayable_17 (fun c1 => ?_) (fun c1 => ?_)
    · rw [if_pos c1] at hf
      refine j_iload_n E 2 rfl dX0_countPayable_55 ?_
      cases hf
      exact j_iret E rfl (le_ rfl) (le_ rfl) dX0_countPayable_56
    · rw [if_neg c1] at hf
      refine j_aload_n E 0 rfl dX0_countPayable_20 ?_
      refine j_iload_n E 3 rfl dX0_countPayable_21 ?_
      obtain ⟨r1, h1, hf⟩ := bn1_e hf
      refine j_invV [] [.int r1] E (c_X0_unpaidTo hj h1) ml_X0_184 mv_X0_unpaidTo rfl ⟨le_ rfl, le_ rfl⟩ (rcX (okb10 hj) cf_X0 ent10) rfl rfl (le_ rfl) ⟨le_ rfl, le_ rfl⟩ dX0_countPayable_22 ?_
      refine j_istore (ls' := [(4, .int r1), (0, .ref (z + aX 10 j 0)), (1, .int v1), (2, .int v2), (3, .int v3)]) E (lt_ rfl) rfl dX0_countPayable_25 ?_
      refine j_iload E 0 rfl dX0_countPayable_27 ?_
      refine j_iload_n E 2 rfl dX0_countPayable_29 ?_
      refine j_icmp_le E 36 (by decide) dX0_countPayable_30 (fun c2 => ?_) (fun c2 => ?_)
      · rw [if_pos c2] at hf
        refine j_iload E 0 rfl dX0_countPayable_36 ?_
        refine j_if_le E 49 (by decide) dX0_countPayable_38 (fun c3 => ?_) (fun c3 => ?_)
        · rw [if_pos c3] at hf
          refine j_iinc (ls' := [(3, .int (v3 + 1)), (4, .int r1), (0, .ref (z + aX 10 j 0)), (1, .int v1), (2, .int v2)]) E 4 rfl (lt_ rfl) (v3 + 1) (congrArg (fun q => v3 + q) ic_1) rfl dX0_countPayable_49 ?_
          refine j_goto E 9 (by decide) dX0_countPayable_52 ?_
          refine j_sub [2, 3, 4, 0] rfl ?_
          exact ih _ _ _ hf
        · rw [if_neg c3] at hf
          refine j_iload_n E 2 rfl dX0_countPayable_41 ?_
          refine j_iload E 0 rfl dX0_countPayable_42 ?_
          refine j_isub E dX0_countPayable_44 ?_
          obtain ⟨x1, hx1, hf⟩ := bnd_e hf
          refine j_name hx1 ?_
          refine j_istore_n (ls' := [(1, .int x1), (4, .int r1), (0, .ref (z + aX 10 j 0)), (2, .int v2), (3, .int v3)]) E (lt_ rfl) rfl dX0_countPayable_45 ?_
          refine j_iinc (ls' := [(2, .int (v2 + 1)), (1, .int x1), (4, .int r1), (0, .ref (z + aX 10 j 0)), (3, .int v3)]) E 3 rfl (lt_ rfl) (v2 + 1) (congrArg (fun q => v2 + q) ic_1) rfl dX0_countPayable_46 ?_
          refine j_iinc (ls' := [(3, .int (v3 + 1)), (2, .int (v2 + 1)), (1, .int x1), (4, .int r1), (0, .ref (z + aX 10 j 0))]) E 4 rfl (lt_ rfl) (v3 + 1) (congrArg (fun q => v3 + q) ic_1) rfl dX0_countPayable_49 ?_
          refine j_goto E 9 (by decide) dX0_countPayable_52 ?_
          refine j_sub [4, 2, 1, 0] rfl ?_
          exact ih _ _ _ hf
      · rw [if_neg c2] at hf
        refine j_goto E 55 (by decide) dX0_countPayable_33 ?_
        refine j_iload_n E 3 rfl dX0_countPayable_55 ?_
        cases hf
        exact j_iret E rfl (le_ rfl) (le_ rfl) dX0_countPayable_56
set_option maxRecDepth 20000 in
theorem c_X0_countPayable {l : Launch} {D : DD} {z : Nat} {Y : YT} {X : XT} {j : Nat} (hj : j < 10) {r : Int32} (hf : f_X0_countPayable X j = some r) : CC l yX0_countPayable cX0_countPayable 5 (some .int) (rmk 3 0 0) D z [.ref (z + aX 10 j 0)] (GG D z (X, Y)) (some (.int r)) (GG D z (X, Y)) := by
  unfold f_X0_countPayable at hf
  refine cc_of pn_X0 (le_ rfl) (ls := [(0, .ref (z + aX 10 j 0))]) rfl ?_
  intro p e s m args below meth c E
  refine j_aload_n E 0 rfl dX0_countPayable_0 ?_
  refine j_get (f := 6) E (okb10 hj) cf_X0 fl_X0_71 (lt_ rfl) rfl ent10 rfl dX0_countPayable_1 ?_
  refine j_istore_n (ls' := [(1, .int (X 10 j 0 6)), (0, .ref (z + aX 10 j 0))]) E (lt_ rfl) rfl dX0_countPayable_4 ?_
  refine j_iconst E 0 ic_0 dX0_countPayable_5 ?_
  refine j_istore_n (ls' := [(2, .int 0), (1, .int (X 10 j 0 6)), (0, .ref (z + aX 10 j 0))]) E (lt_ rfl) rfl dX0_countPayable_6 ?_
  refine j_iconst E 0 ic_0 dX0_countPayable_7 ?_
  refine j_istore_n (ls' := [(3, .int 0), (2, .int 0), (1, .int (X 10 j 0 6)), (0, .ref (z + aX 10 j 0))]) E (lt_ rfl) rfl dX0_countPayable_8 ?_
  refine j_sub [3, 2, 1, 0] rfl ?_
  exact b_X0_countPayable_9 hj E 2000 _ _ _ hf
def f_X3_hasUnpaidOf_2 (X : XT) (j : Nat) (v1 : Int32) : Nat → Int32 → Option Int32
  | 0, _ => none
  | n + 1, v2 => if (X 20 j 0 1) ≤ v2 then (some 0) else (gd (¬ (v2 < 0 ∨ 20 ≤ v2.toNatClampNeg)) (bn1 (f_X6_isUnpaidOf X j (v2.toNatClampNeg) v1) (fun r1 => if r1 = 0 then (f_X3_hasUnpaidOf_2 X j v1 n (v2 + 1)) else (some 1))))
def f_X3_hasUnpaidOf (X : XT) (j : Nat) (v1 : Int32) : Option Int32 :=
  f_X3_hasUnpaidOf_2 X j v1 2000 0
set_option maxRecDepth 20000 in
theorem b_X3_hasUnpaidOf_2 {p : Program} {l : Launch} {e : Env} {s : State} {m : MethodId} {args : Array Value} {below : List Frame} {meth : Method} {c : Code} {D : DD} {z : Nat} {Y : YT} {X : XT} {j : Nat} (hj : j < 10) {v1 : Int32} (E : Cx p s m args meth c D z RX3 cX3_hasUnpaidOf 3 (some .boolean)) {r : Int32} : ∀ (n : Nat) (v2 : Int32) (hf : f_X3_hasUnpaidOf_2 X j v1 n v2 = some r), J p l e (rmk 2 0 0) s m args below meth c D z (GG D z (X, Y)) 0 0 (MQ below (QC z (some (.int r)) (GG D z (X, Y))) args s (rmk 2 0 0).cells (rmk 2 0 0).slots (Az z)) 3 2 [(0, .ref (z + aX 20 j 0)), (1, .int v1), (2, .int v2)] [] := by
  intro n
  induction n with
  | zero =>
    intro v2 hf
    exact none_e hf
  | succ n ih =>
    intro v2 hf
    rw [f_X3_hasUnpaidOf_2] at hf
    refine j_iload_n E 2 rfl dX3_hasUnpaidOf_2 ?_
    refine j_aload_n E 0 rfl dX3_hasUnpaidOf_3 ?_
    refine j_get (f := 1) E (okb20 hj) cf_X3 fl_X3_22 (lt_ rfl) rfl ent20 rfl dX3_hasUnpaidOf_4 ?_
    refine j_icmp_ge E 31 (by decide) dX3_hasUnpaidOf_7 (fun c1 => ?_) (fun c1 => ?_)
    · rw [if_pos c1] at hf
      refine j_iconst E 0 ic_0 dX3_hasUnpaidOf_31 ?_
      cases hf
      exact j_iret E rfl (le_ rfl) (le_ rfl) dX3_hasUnpaidOf_32
    · rw [if_neg c1] at hf
      refine j_aload_n E 0 rfl dX3_hasUnpaidOf_10 ?_
      refine j_get (f := 0) E (okb20 hj) cf_X3 fl_X3_11 (lt_ rfl) rfl ent20 rfl dX3_hasUnpaidOf_11 ?_
      refine j_iload_n E 2 rfl dX3_hasUnpaidOf_14 ?_
      obtain ⟨g1, hf⟩ := gd_e hf
      refine j_aald (t := 4) E (okb21 hj) ent21 rfl g1 dX3_hasUnpaidOf_15 ?_
      refine j_iload_n E 1 rfl dX3_hasUnpaidOf_16 ?_
      obtain ⟨r1, h1, hf⟩ := bn1_e hf
      refine j_invV [] [.int r1] E (c_X6_isUnpaidOf hj (in_cl g1) h1) ml_X3_48 mv_X6_isUnpaidOf rfl ⟨le_ rfl, le_ rfl⟩ (rcX (okb22 hj (in_cl g1)) cf_X6 ent22) rfl rfl (le_ rfl) ⟨le_ rfl, le_ rfl⟩ dX3_hasUnpaidOf_17 ?_
      refine j_if_eq E 25 (by decide) dX3_hasUnpaidOf_20 (fun c2 => ?_) (fun c2 => ?_)
      · rw [if_pos c2] at hf
        refine j_iinc (ls' := [(2, .int (v2 + 1)), (0, .ref (z + aX 20 j 0)), (1, .int v1)]) E 2 rfl (lt_ rfl) (v2 + 1) (congrArg (fun q => v2 + q) ic_1) rfl dX3_hasUnpaidOf_25 ?_
        refine j_goto E 2 (by decide) dX3_hasUnpaidOf_28 ?_
        refine j_sub [1, 2, 0] rfl ?_
        exact ih _ hf
      · rw [if_neg c2] at hf
        refine j_iconst E 1 ic_1 dX3_hasUnpaidOf_23 ?_
        cases hf
        exact j_iret E rfl (le_ rfl) (le_ rfl) dX3_hasUnpaidOf_24
set_option maxRecDepth 20000 in
theorem c_X3_hasUnpaidOf {l : Launch} {D : DD} {z : Nat} {Y : YT} {X : XT} {j : Nat} (hj : j < 10) {v1 : Int32} {r : Int32} (hf : f_X3_hasUnpaidOf X j v1 = some r) : CC l yX3_hasUnpaidOf cX3_hasUnpaidOf 3 (some .boolean) (rmk 2 0 0) D z [.ref (z + aX 20 j 0), .int v1] (GG D z (X, Y)) (some (.int r)) (GG D z (X, Y)) := by
  unfold f_X3_hasUnpaidOf at hf
  refine cc_of pn_X3 (le_ rfl) (ls := [(0, .ref (z + aX 20 j 0)), (1, .int v1)]) rfl ?_
  intro p e s m args below meth c E
  refine j_iconst E 0 ic_0 dX3_hasUnpaidOf_0 ?_
  refine j_istore_n (ls' := [(2, .int 0), (0, .ref (z + aX 20 j 0)), (1, .int v1)]) E (lt_ rfl) rfl dX3_hasUnpaidOf_1 ?_
  refine j_sub [1, 2, 0] rfl ?_
  exact b_X3_hasUnpaidOf_2 hj E 2000 _ hf
def f_X0_canSettleAll (X : XT) (j : Nat) (v1 : Int32) : Option Int32 :=
  bn1 (f_X3_hasUnpaidOf X j v1) (fun r1 => if r1 = 0 then (some 0) else (bn1 (f_X0_unpaidTo X j v1) (fun r2 => if (X 10 j 0 6) < r2 then (some 0) else (some 1))))
set_option maxRecDepth 20000 in
theorem c_X0_canSettleAll {l : Launch} {D : DD} {z : Nat} {Y : YT} {X : XT} {j : Nat} (hj : j < 10) {v1 : Int32} {r : Int32} (hf : f_X0_canSettleAll X j v1 = some r) : CC l yX0_canSettleAll cX0_canSettleAll 2 (some .boolean) (rmk 3 0 0) D z [.ref (z + aX 10 j 0), .int v1] (GG D z (X, Y)) (some (.int r)) (GG D z (X, Y)) := by
  unfold f_X0_canSettleAll at hf
  refine cc_of pn_X0 (le_ rfl) (ls := [(0, .ref (z + aX 10 j 0)), (1, .int v1)]) rfl ?_
  intro p e s m args below meth c E
  refine j_aload_n E 0 rfl dX0_canSettleAll_0 ?_
  refine j_get (f := 2) E (okb10 hj) cf_X0 fl_X0_28 (lt_ rfl) rfl ent10 rfl dX0_canSettleAll_1 ?_
  refine j_iload_n E 1 rfl dX0_canSettleAll_4 ?_
  obtain ⟨r1, h1, hf⟩ := bn1_e hf
  refine j_invV [] [.int r1] E (c_X3_hasUnpaidOf hj h1) ml_X0_187 mv_X3_hasUnpaidOf rfl ⟨le_ rfl, le_ rfl⟩ (rcX (okb20 hj) cf_X3 ent20) rfl rfl (le_ rfl) ⟨le_ rfl, le_ rfl⟩ dX0_canSettleAll_5 ?_
  refine j_if_eq E 27 (by decide) dX0_canSettleAll_8 (fun c1 => ?_) (fun c1 => ?_)
  · rw [if_pos c1] at hf
    refine j_iconst E 0 ic_0 dX0_canSettleAll_27 ?_
    cases hf
    exact j_iret E rfl (le_ rfl) (le_ rfl) dX0_canSettleAll_28
  · rw [if_neg c1] at hf
    refine j_aload_n E 0 rfl dX0_canSettleAll_11 ?_
    refine j_iload_n E 1 rfl dX0_canSettleAll_12 ?_
    obtain ⟨r2, h2, hf⟩ := bn1_e hf
    refine j_invV [] [.int r2] E (c_X0_unpaidTo hj h2) ml_X0_184 mv_X0_unpaidTo rfl ⟨le_ rfl, le_ rfl⟩ (rcX (okb10 hj) cf_X0 ent10) rfl rfl (le_ rfl) ⟨le_ rfl, le_ rfl⟩ dX0_canSettleAll_13 ?_
    refine j_aload_n E 0 rfl dX0_canSettleAll_16 ?_
    refine j_get (f := 6) E (okb10 hj) cf_X0 fl_X0_71 (lt_ rfl) rfl ent10 rfl dX0_canSettleAll_17 ?_
    refine j_icmp_gt E 27 (by decide) dX0_canSettleAll_20 (fun c2 => ?_) (fun c2 => ?_)
    · rw [if_pos c2] at hf
      refine j_iconst E 0 ic_0 dX0_canSettleAll_27 ?_
      cases hf
      exact j_iret E rfl (le_ rfl) (le_ rfl) dX0_canSettleAll_28
    · rw [if_neg c2] at hf
      refine j_iconst E 1 ic_1 dX0_canSettleAll_23 ?_
      refine j_goto E 28 (by decide) dX0_canSettleAll_24 ?_
      cases hf
      exact j_iret E rfl (le_ rfl) (le_ rfl) dX0_canSettleAll_28
def f_X0_settle (X : XT) (j j1 i1 : Nat) (v2 : Int32) : Option (Int32 × XT) :=
  bnd (xs X 22 j1 i1 7 1) (fun X1 => bnd (xs X1 22 j1 i1 8 v2) (fun X2 => bnd (xs X2 10 j 0 6 ((X2 10 j 0 6) - v2)) (fun X3 => some (v2, X3))))
set_option maxRecDepth 20000 in
theorem c_X0_settle {l : Launch} {D : DD} {z : Nat} {Y : YT} {X : XT} {j j1 i1 : Nat} (hj : j < 10) (hj1 : j1 < 10) (hi1 : i1 < 20) {v2 : Int32} {r : Int32} {X' : XT} (hf : f_X0_settle X j j1 i1 v2 = some (r, X')) : CC l yX0_settle cX0_settle 3 (some .int) (rmk 1 0 0) D z [.ref (z + aX 10 j 0), .ref (z + aX 22 j1 i1), .int v2] (GG D z (X, Y)) (some (.int r)) (GG D z (X', Y)) := by
  unfold f_X0_settle at hf
  refine cc_of pn_X0 (le_ rfl) (ls := [(0, .ref (z + aX 10 j 0)), (1, .ref (z + aX 22 j1 i1)), (2, .int v2)]) rfl ?_
  intro p e s m args below meth c E
  refine j_aload_n E 1 rfl dX0_settle_0 ?_
  refine j_iconst E 1 ic_1 dX0_settle_1 ?_
  obtain ⟨X1, hX1, hf⟩ := bnd_e hf
  refine j_putN (f := 7) E (okb22 hj1 hi1) cf_X6 fl_X0_166 (lt_ rfl) ⟨rfl, rfl⟩ ⟨rfl, rfl⟩ ent22 pe22_7 (lt_ rfl) hX1 dX0_settle_2 ?_
  refine j_aload_n E 1 rfl dX0_settle_5 ?_
  refine j_iload_n E 2 rfl dX0_settle_6 ?_
  obtain ⟨X2, hX2, hf⟩ := bnd_e hf
  refine j_putN (f := 8) E (okb22 hj1 hi1) cf_X6 fl_X0_170 (lt_ rfl) ⟨rfl, rfl⟩ (fit_i _) ent22 pe22_8 (lt_ rfl) hX2 dX0_settle_7 ?_
  refine j_aload_n E 0 rfl dX0_settle_10 ?_
  refine j_dup E rfl dX0_settle_11 ?_
  refine j_get (f := 6) E (okb10 hj) cf_X0 fl_X0_71 (lt_ rfl) rfl ent10 rfl dX0_settle_12 ?_
  refine j_iload_n E 2 rfl dX0_settle_15 ?_
  refine j_isub E dX0_settle_16 ?_
  obtain ⟨X3, hX3, hf⟩ := bnd_e hf
  refine j_put (f := 6) E (okb10 hj) cf_X0 fl_X0_71 (lt_ rfl) ⟨rfl, rfl⟩ (fit_i _) ent10 pe10_6 (lt_ rfl) hX3 dX0_settle_17 ?_
  refine j_iload_n E 2 rfl dX0_settle_20 ?_
  cases hf
  exact j_iret E rfl (le_ rfl) (le_ rfl) dX0_settle_21
def f_X0_settleAll_4 (j : Nat) (v1 : Int32) : Nat → XT → Int32 → Int32 → Option (Int32 × XT)
  | 0, _, _, _ => none
  | n + 1, X, v2, v3 => if (X 20 j 0 1) ≤ v3 then (some (v2, X)) else (gd (¬ (v3 < 0 ∨ 20 ≤ v3.toNatClampNeg)) (bn1 (f_X6_isUnpaidOf X j (v3.toNatClampNeg) v1) (fun r1 => if r1 = 0 then (f_X0_settleAll_4 j v1 n X v2 (v3 + 1)) else (bn1 (f_X0_centsOf X j j (v3.toNatClampNeg)) (fun r2 => bn2 (f_X0_settle X j j (v3.toNatClampNeg) r2) (fun r3 X1 => bnd (v2 + r3) (fun x1 => f_X0_settleAll_4 j v1 n X1 x1 (v3 + 1))))))))
def f_X0_settleAll (X : XT) (j : Nat) (v1 : Int32) : Option (Int32 × XT) :=
  f_X0_settleAll_4 j v1 2000 X 0 0
set_option maxRecDepth 20000 in
theorem b_X0_settleAll_4 {p : Program} {l : Launch} {e : Env} {s : State} {m : MethodId} {args : Array Value} {below : List Frame} {meth : Method} {c : Code} {D : DD} {z : Nat} {Y : YT} {j : Nat} (hj : j < 10) {v1 : Int32} (E : Cx p s m args meth c D z RX0 cX0_settleAll 5 (some .int)) {r : Int32} {X' : XT} : ∀ (n : Nat) (X : XT) (v2 : Int32) (v3 : Int32) (hf : f_X0_settleAll_4 j v1 n X v2 v3 = some (r, X')), J p l e (rmk 3 0 0) s m args below meth c D z (GG D z (X, Y)) 0 0 (MQ below (QC z (some (.int r)) (GG D z (X', Y))) args s (rmk 3 0 0).cells (rmk 3 0 0).slots (Az z)) 5 4 [(0, .ref (z + aX 10 j 0)), (1, .int v1), (2, .int v2), (3, .int v3)] [] := by
  intro n
  induction n with
  | zero =>
    intro X v2 v3 hf
    exact none_e hf
  | succ n ih =>
    intro X v2 v3 hf
    rw [f_X0_settleAll_4] at hf
    refine j_iload_n E 3 rfl dX0_settleAll_4 ?_
    refine j_aload_n E 0 rfl dX0_settleAll_5 ?_
    refine j_get (f := 2) E (okb10 hj) cf_X0 fl_X0_28 (lt_ rfl) rfl ent10 rfl dX0_settleAll_6 ?_
    refine j_getN (f := 1) E (okb20 hj) cf_X3 fl_X0_52 (lt_ rfl) rfl ent20 rfl dX0_settleAll_9 ?_
    refine j_icmp_ge E 56 (by decide) dX0_settleAll_12 (fun c1 => ?_) (fun c1 => ?_)
    · rw [if_pos c1] at hf
      refine j_iload_n E 2 rfl dX0_settleAll_56 ?_
      cases hf
      exact j_iret E rfl (le_ rfl) (le_ rfl) dX0_settleAll_57
    · rw [if_neg c1] at hf
      refine j_aload_n E 0 rfl dX0_settleAll_15 ?_
      refine j_get (f := 2) E (okb10 hj) cf_X0 fl_X0_28 (lt_ rfl) rfl ent10 rfl dX0_settleAll_16 ?_
      refine j_getN (f := 0) E (okb20 hj) cf_X3 fl_X0_176 (lt_ rfl) rfl ent20 rfl dX0_settleAll_19 ?_
      refine j_iload_n E 3 rfl dX0_settleAll_22 ?_
      obtain ⟨g1, hf⟩ := gd_e hf
      refine j_aald (t := 4) E (okb21 hj) ent21 rfl g1 dX0_settleAll_23 ?_
      refine j_astore (ls' := [(4, .ref (z + aX 22 j v3.toNatClampNeg)), (0, .ref (z + aX 10 j 0)), (1, .int v1), (2, .int v2), (3, .int v3)]) E (lt_ rfl) rfl dX0_settleAll_24 ?_
      refine j_aload E 0 rfl dX0_settleAll_26 ?_
      refine j_iload_n E 2 rfl dX0_settleAll_28 ?_
      obtain ⟨r1, h1, hf⟩ := bn1_e hf
      refine j_invV [] [.int r1] E (c_X6_isUnpaidOf hj (in_cl g1) h1) ml_X0_180 mv_X6_isUnpaidOf rfl ⟨le_ rfl, le_ rfl⟩ (rcX (okb22 hj (in_cl g1)) cf_X6 ent22) rfl rfl (le_ rfl) ⟨le_ rfl, le_ rfl⟩ dX0_settleAll_29 ?_
      refine j_if_eq E 50 (by decide) dX0_settleAll_32 (fun c2 => ?_) (fun c2 => ?_)
      · rw [if_pos c2] at hf
        refine j_iinc (ls' := [(3, .int (v3 + 1)), (4, .ref (z + aX 22 j v3.toNatClampNeg)), (0, .ref (z + aX 10 j 0)), (1, .int v1), (2, .int v2)]) E 4 rfl (lt_ rfl) (v3 + 1) (congrArg (fun q => v3 + q) ic_1) rfl dX0_settleAll_50 ?_
        refine j_goto E 4 (by decide) dX0_settleAll_53 ?_
        refine j_sub [2, 3, 4, 0] rfl ?_
        exact ih _ _ _ hf
      · rw [if_neg c2] at hf
        refine j_iload_n E 3 rfl dX0_settleAll_35 ?_
        refine j_aload_n E 1 rfl dX0_settleAll_36 ?_
        refine j_aload E 0 rfl dX0_settleAll_37 ?_
        refine j_aload_n E 1 rfl dX0_settleAll_39 ?_
        refine j_aload E 0 rfl dX0_settleAll_40 ?_
        obtain ⟨r2, h2, hf⟩ := bn1_e hf
        refine j_invV [.ref (z + aX 22 j v3.toNatClampNeg), .ref (z + aX 10 j 0), .int v2] [.int r2, .ref (z + aX 22 j v3.toNatClampNeg), .ref (z + aX 10 j 0), .int v2] E (c_X0_centsOf hj hj (in_cl g1) h2) ml_X0_190 mv_X0_centsOf rfl ⟨le_ rfl, le_ rfl⟩ (rcX (okb10 hj) cf_X0 ent10) rfl rfl (le_ rfl) ⟨le_ rfl, le_ rfl⟩ dX0_settleAll_42 ?_
        obtain ⟨r3, X1, h3, hf⟩ := bn2_e hf
        refine j_invV [.int v2] [.int r3, .int v2] E (c_X0_settle hj hj (in_cl g1) h3) ml_X0_194 mv_X0_settle rfl ⟨le_ rfl, le_ rfl⟩ (rcX (okb10 hj) cf_X0 ent10) rfl rfl (le_ rfl) ⟨le_ rfl, le_ rfl⟩ dX0_settleAll_45 ?_
        refine j_iadd E dX0_settleAll_48 ?_
        obtain ⟨x1, hx1, hf⟩ := bnd_e hf
        refine j_name hx1 ?_
        refine j_istore_n (ls' := [(2, .int x1), (4, .ref (z + aX 22 j v3.toNatClampNeg)), (0, .ref (z + aX 10 j 0)), (1, .int v1), (3, .int v3)]) E (lt_ rfl) rfl dX0_settleAll_49 ?_
        refine j_iinc (ls' := [(3, .int (v3 + 1)), (2, .int x1), (4, .ref (z + aX 22 j v3.toNatClampNeg)), (0, .ref (z + aX 10 j 0)), (1, .int v1)]) E 4 rfl (lt_ rfl) (v3 + 1) (congrArg (fun q => v3 + q) ic_1) rfl dX0_settleAll_50 ?_
        refine j_goto E 4 (by decide) dX0_settleAll_53 ?_
        refine j_sub [3, 4, 1, 0] rfl ?_
        exact ih _ _ _ hf
set_option maxRecDepth 20000 in
theorem c_X0_settleAll {l : Launch} {D : DD} {z : Nat} {Y : YT} {X : XT} {j : Nat} (hj : j < 10) {v1 : Int32} {r : Int32} {X' : XT} (hf : f_X0_settleAll X j v1 = some (r, X')) : CC l yX0_settleAll cX0_settleAll 5 (some .int) (rmk 3 0 0) D z [.ref (z + aX 10 j 0), .int v1] (GG D z (X, Y)) (some (.int r)) (GG D z (X', Y)) := by
  unfold f_X0_settleAll at hf
  refine cc_of pn_X0 (le_ rfl) (ls := [(0, .ref (z + aX 10 j 0)), (1, .int v1)]) rfl ?_
  intro p e s m args below meth c E
  refine j_iconst E 0 ic_0 dX0_settleAll_0 ?_
  refine j_istore_n (ls' := [(2, .int 0), (0, .ref (z + aX 10 j 0)), (1, .int v1)]) E (lt_ rfl) rfl dX0_settleAll_1 ?_
  refine j_iconst E 0 ic_0 dX0_settleAll_2 ?_
  refine j_istore_n (ls' := [(3, .int 0), (2, .int 0), (0, .ref (z + aX 10 j 0)), (1, .int v1)]) E (lt_ rfl) rfl dX0_settleAll_3 ?_
  refine j_sub [2, 3, 1, 0] rfl ?_
  exact b_X0_settleAll_4 hj E 2000 _ _ _ hf
def f_X0_canTrade (X : XT) (j j1 i1 : Nat) (v2 : Int32) (v3 : Int32) : Option Int32 :=
  if (X 27 j1 i1 3) < v2 then (some 0) else (if (1000000000 - (X 10 j 0 6)) < (v2 * v3) then (some 0) else (some 1))
set_option maxRecDepth 20000 in
theorem c_X0_canTrade {l : Launch} {D : DD} {z : Nat} {Y : YT} {X : XT} {j j1 i1 : Nat} (hj : j < 10) (hj1 : j1 < 10) (hi1 : i1 < 12) {v2 : Int32} {v3 : Int32} {r : Int32} (hf : f_X0_canTrade X j j1 i1 v2 v3 = some r) : CC l yX0_canTrade cX0_canTrade 4 (some .boolean) (rmk 1 0 0) D z [.ref (z + aX 10 j 0), .ref (z + aX 27 j1 i1), .int v2, .int v3] (GG D z (X, Y)) (some (.int r)) (GG D z (X, Y)) := by
  unfold f_X0_canTrade at hf
  refine cc_of pn_X0 (le_ rfl) (ls := [(0, .ref (z + aX 10 j 0)), (1, .ref (z + aX 27 j1 i1)), (2, .int v2), (3, .int v3)]) rfl ?_
  intro p e s m args below meth c E
  refine j_iload_n E 2 rfl dX0_canTrade_0 ?_
  refine j_aload_n E 1 rfl dX0_canTrade_1 ?_
  refine j_getN (f := 3) E (okb27 hj1 hi1) cf_X7 fl_X0_198 (lt_ rfl) rfl ent27 rfl dX0_canTrade_2 ?_
  refine j_icmp_gt E 25 (by decide) dX0_canTrade_5 (fun c1 => ?_) (fun c1 => ?_)
  · rw [if_pos c1] at hf
    refine j_iconst E 0 ic_0 dX0_canTrade_25 ?_
    cases hf
    exact j_iret E rfl (le_ rfl) (le_ rfl) dX0_canTrade_26
  · rw [if_neg c1] at hf
    refine j_iload_n E 2 rfl dX0_canTrade_8 ?_
    refine j_iload_n E 3 rfl dX0_canTrade_9 ?_
    refine j_imul E dX0_canTrade_10 ?_
    refine j_ldc E ct_X0_203 dX0_canTrade_11 ?_
    refine j_aload_n E 0 rfl dX0_canTrade_13 ?_
    refine j_get (f := 6) E (okb10 hj) cf_X0 fl_X0_71 (lt_ rfl) rfl ent10 rfl dX0_canTrade_14 ?_
    refine j_isub E dX0_canTrade_17 ?_
    refine j_icmp_gt E 25 (by decide) dX0_canTrade_18 (fun c2 => ?_) (fun c2 => ?_)
    · rw [if_pos c2] at hf
      refine j_iconst E 0 ic_0 dX0_canTrade_25 ?_
      cases hf
      exact j_iret E rfl (le_ rfl) (le_ rfl) dX0_canTrade_26
    · rw [if_neg c2] at hf
      refine j_iconst E 1 ic_1 dX0_canTrade_21 ?_
      refine j_goto E 26 (by decide) dX0_canTrade_22 ?_
      cases hf
      exact j_iret E rfl (le_ rfl) (le_ rfl) dX0_canTrade_26
def f_X0_trade (X : XT) (j j1 i1 : Nat) (v2 : Int32) (v3 : Int32) : Option XT :=
  bnd (xs X 27 j1 i1 3 ((X 27 j1 i1 3) - v2)) (fun X1 => bnd (xs X1 10 j 0 5 ((X1 10 j 0 5) + (v2 * v3))) (fun X2 => bnd (xs X2 10 j 0 6 ((X2 10 j 0 6) + (v2 * v3))) (fun X3 => some X3)))
set_option maxRecDepth 20000 in
theorem c_X0_trade {l : Launch} {D : DD} {z : Nat} {Y : YT} {X : XT} {j j1 i1 : Nat} (hj : j < 10) (hj1 : j1 < 10) (hi1 : i1 < 12) {v2 : Int32} {v3 : Int32} {X' : XT} (hf : f_X0_trade X j j1 i1 v2 v3 = some X') : CC l yX0_trade cX0_trade 4 none (rmk 1 0 0) D z [.ref (z + aX 10 j 0), .ref (z + aX 27 j1 i1), .int v2, .int v3] (GG D z (X, Y)) none (GG D z (X', Y)) := by
  unfold f_X0_trade at hf
  refine cc_of pn_X0 (le_ rfl) (ls := [(0, .ref (z + aX 10 j 0)), (1, .ref (z + aX 27 j1 i1)), (2, .int v2), (3, .int v3)]) rfl ?_
  intro p e s m args below meth c E
  refine j_aload_n E 1 rfl dX0_trade_0 ?_
  refine j_dup E rfl dX0_trade_1 ?_
  refine j_getN (f := 3) E (okb27 hj1 hi1) cf_X7 fl_X0_198 (lt_ rfl) rfl ent27 rfl dX0_trade_2 ?_
  refine j_iload_n E 2 rfl dX0_trade_5 ?_
  refine j_isub E dX0_trade_6 ?_
  obtain ⟨X1, hX1, hf⟩ := bnd_e hf
  refine j_putN (f := 3) E (okb27 hj1 hi1) cf_X7 fl_X0_198 (lt_ rfl) ⟨rfl, rfl⟩ (fit_i _) ent27 pe27_3 (lt_ rfl) hX1 dX0_trade_7 ?_
  refine j_aload_n E 0 rfl dX0_trade_10 ?_
  refine j_dup E rfl dX0_trade_11 ?_
  refine j_get (f := 5) E (okb10 hj) cf_X0 fl_X0_68 (lt_ rfl) rfl ent10 rfl dX0_trade_12 ?_
  refine j_iload_n E 2 rfl dX0_trade_15 ?_
  refine j_iload_n E 3 rfl dX0_trade_16 ?_
  refine j_imul E dX0_trade_17 ?_
  refine j_iadd E dX0_trade_18 ?_
  obtain ⟨X2, hX2, hf⟩ := bnd_e hf
  refine j_put (f := 5) E (okb10 hj) cf_X0 fl_X0_68 (lt_ rfl) ⟨rfl, rfl⟩ (fit_i _) ent10 pe10_5 (lt_ rfl) hX2 dX0_trade_19 ?_
  refine j_aload_n E 0 rfl dX0_trade_22 ?_
  refine j_dup E rfl dX0_trade_23 ?_
  refine j_get (f := 6) E (okb10 hj) cf_X0 fl_X0_71 (lt_ rfl) rfl ent10 rfl dX0_trade_24 ?_
  refine j_iload_n E 2 rfl dX0_trade_27 ?_
  refine j_iload_n E 3 rfl dX0_trade_28 ?_
  refine j_imul E dX0_trade_29 ?_
  refine j_iadd E dX0_trade_30 ?_
  obtain ⟨X3, hX3, hf⟩ := bnd_e hf
  refine j_put (f := 6) E (okb10 hj) cf_X0 fl_X0_71 (lt_ rfl) ⟨rfl, rfl⟩ (fit_i _) ent10 pe10_6 (lt_ rfl) hX3 dX0_trade_31 ?_
  cases hf
  exact j_vret E (le_ rfl) (le_ rfl) dX0_trade_34
def f_X3_hasVarietyFrom_2 (X : XT) (j : Nat) (v1 : Int32) (v2 : Int32) : Nat → Int32 → Option Int32
  | 0, _ => none
  | n + 1, v3 => if (X 20 j 0 1) ≤ v3 then (some 0) else (gd (¬ (v3 < 0 ∨ 20 ≤ v3.toNatClampNeg)) (if (X 22 j v3.toNatClampNeg 2) = v1 then (gd (¬ (v3 < 0 ∨ 20 ≤ v3.toNatClampNeg)) (if (X 22 j v3.toNatClampNeg 1) = v2 then (some 1) else (f_X3_hasVarietyFrom_2 X j v1 v2 n (v3 + 1)))) else (f_X3_hasVarietyFrom_2 X j v1 v2 n (v3 + 1))))
def f_X3_hasVarietyFrom (X : XT) (j : Nat) (v1 : Int32) (v2 : Int32) : Option Int32 :=
  f_X3_hasVarietyFrom_2 X j v1 v2 2000 0
set_option maxRecDepth 20000 in
theorem b_X3_hasVarietyFrom_2 {p : Program} {l : Launch} {e : Env} {s : State} {m : MethodId} {args : Array Value} {below : List Frame} {meth : Method} {c : Code} {D : DD} {z : Nat} {Y : YT} {X : XT} {j : Nat} (hj : j < 10) {v1 : Int32} {v2 : Int32} (E : Cx p s m args meth c D z RX3 cX3_hasVarietyFrom 4 (some .boolean)) {r : Int32} : ∀ (n : Nat) (v3 : Int32) (hf : f_X3_hasVarietyFrom_2 X j v1 v2 n v3 = some r), J p l e (rmk 1 0 0) s m args below meth c D z (GG D z (X, Y)) 0 0 (MQ below (QC z (some (.int r)) (GG D z (X, Y))) args s (rmk 1 0 0).cells (rmk 1 0 0).slots (Az z)) 4 2 [(0, .ref (z + aX 20 j 0)), (1, .int v1), (2, .int v2), (3, .int v3)] [] := by
  intro n
  induction n with
  | zero =>
    intro v3 hf
    exact none_e hf
  | succ n ih =>
    intro v3 hf
    rw [f_X3_hasVarietyFrom_2] at hf
    refine j_iload_n E 3 rfl dX3_hasVarietyFrom_2 ?_
    refine j_aload_n E 0 rfl dX3_hasVarietyFrom_3 ?_
    refine j_get (f := 1) E (okb20 hj) cf_X3 fl_X3_22 (lt_ rfl) rfl ent20 rfl dX3_hasVarietyFrom_4 ?_
    refine j_icmp_ge E 44 (by decide) dX3_hasVarietyFrom_7 (fun c1 => ?_) (fun c1 => ?_)
    · rw [if_pos c1] at hf
      refine j_iconst E 0 ic_0 dX3_hasVarietyFrom_44 ?_
      cases hf
      exact j_iret E rfl (le_ rfl) (le_ rfl) dX3_hasVarietyFrom_45
    · rw [if_neg c1] at hf
      refine j_aload_n E 0 rfl dX3_hasVarietyFrom_10 ?_
      refine j_get (f := 0) E (okb20 hj) cf_X3 fl_X3_11 (lt_ rfl) rfl ent20 rfl dX3_hasVarietyFrom_11 ?_
      refine j_iload_n E 3 rfl dX3_hasVarietyFrom_14 ?_
      obtain ⟨g1, hf⟩ := gd_e hf
      refine j_aald (t := 4) E (okb21 hj) ent21 rfl g1 dX3_hasVarietyFrom_15 ?_
      refine j_getN (f := 2) E (okb22 hj (in_cl g1)) cf_X6 fl_X3_52 (lt_ rfl) rfl ent22 rfl dX3_hasVarietyFrom_16 ?_
      refine j_iload_n E 1 rfl dX3_hasVarietyFrom_19 ?_
      refine j_icmp_ne E 38 (by decide) dX3_hasVarietyFrom_20 (fun c2 => ?_) (fun c2 => ?_)
      · rw [if_neg c2] at hf
        refine j_iinc (ls' := [(3, .int (v3 + 1)), (0, .ref (z + aX 20 j 0)), (1, .int v1), (2, .int v2)]) E 3 rfl (lt_ rfl) (v3 + 1) (congrArg (fun q => v3 + q) ic_1) rfl dX3_hasVarietyFrom_38 ?_
        refine j_goto E 2 (by decide) dX3_hasVarietyFrom_41 ?_
        refine j_sub [1, 2, 3, 0] rfl ?_
        exact ih _ hf
      · rw [if_pos c2] at hf
        refine j_aload_n E 0 rfl dX3_hasVarietyFrom_23 ?_
        refine j_get (f := 0) E (okb20 hj) cf_X3 fl_X3_11 (lt_ rfl) rfl ent20 rfl dX3_hasVarietyFrom_24 ?_
        refine j_iload_n E 3 rfl dX3_hasVarietyFrom_27 ?_
        obtain ⟨g2, hf⟩ := gd_e hf
        refine j_aald (t := 4) E (okb21 hj) ent21 rfl g2 dX3_hasVarietyFrom_28 ?_
        refine j_getN (f := 1) E (okb22 hj (in_cl g2)) cf_X6 fl_X3_45 (lt_ rfl) rfl ent22 rfl dX3_hasVarietyFrom_29 ?_
        refine j_iload_n E 2 rfl dX3_hasVarietyFrom_32 ?_
        refine j_icmp_ne E 38 (by decide) dX3_hasVarietyFrom_33 (fun c3 => ?_) (fun c3 => ?_)
        · rw [if_neg c3] at hf
          refine j_iinc (ls' := [(3, .int (v3 + 1)), (0, .ref (z + aX 20 j 0)), (1, .int v1), (2, .int v2)]) E 3 rfl (lt_ rfl) (v3 + 1) (congrArg (fun q => v3 + q) ic_1) rfl dX3_hasVarietyFrom_38 ?_
          refine j_goto E 2 (by decide) dX3_hasVarietyFrom_41 ?_
          refine j_sub [1, 2, 3, 0] rfl ?_
          exact ih _ hf
        · rw [if_pos c3] at hf
          refine j_iconst E 1 ic_1 dX3_hasVarietyFrom_36 ?_
          cases hf
          exact j_iret E rfl (le_ rfl) (le_ rfl) dX3_hasVarietyFrom_37
set_option maxRecDepth 20000 in
theorem c_X3_hasVarietyFrom {l : Launch} {D : DD} {z : Nat} {Y : YT} {X : XT} {j : Nat} (hj : j < 10) {v1 : Int32} {v2 : Int32} {r : Int32} (hf : f_X3_hasVarietyFrom X j v1 v2 = some r) : CC l yX3_hasVarietyFrom cX3_hasVarietyFrom 4 (some .boolean) (rmk 1 0 0) D z [.ref (z + aX 20 j 0), .int v1, .int v2] (GG D z (X, Y)) (some (.int r)) (GG D z (X, Y)) := by
  unfold f_X3_hasVarietyFrom at hf
  refine cc_of pn_X3 (le_ rfl) (ls := [(0, .ref (z + aX 20 j 0)), (1, .int v1), (2, .int v2)]) rfl ?_
  intro p e s m args below meth c E
  refine j_iconst E 0 ic_0 dX3_hasVarietyFrom_0 ?_
  refine j_istore_n (ls' := [(3, .int 0), (0, .ref (z + aX 20 j 0)), (1, .int v1), (2, .int v2)]) E (lt_ rfl) rfl dX3_hasVarietyFrom_1 ?_
  refine j_sub [1, 2, 3, 0] rfl ?_
  exact b_X3_hasVarietyFrom_2 hj E 2000 _ hf
def f_X0_countVarietiesFrom_4 (X : XT) (j : Nat) (v1 : Int32) : Nat → Int32 → Int32 → Option Int32
  | 0, _, _ => none
  | n + 1, v2, v3 => if (X 11 j 0 4) ≤ v3 then (some v2) else (bn1 (f_X3_hasVarietyFrom X j v3 v1) (fun r1 => if r1 = 0 then (f_X0_countVarietiesFrom_4 X j v1 n v2 (v3 + 1)) else (f_X0_countVarietiesFrom_4 X j v1 n (v2 + 1) (v3 + 1))))
def f_X0_countVarietiesFrom (X : XT) (j : Nat) (v1 : Int32) : Option Int32 :=
  f_X0_countVarietiesFrom_4 X j v1 2000 0 0
set_option maxRecDepth 20000 in
theorem b_X0_countVarietiesFrom_4 {p : Program} {l : Launch} {e : Env} {s : State} {m : MethodId} {args : Array Value} {below : List Frame} {meth : Method} {c : Code} {D : DD} {z : Nat} {Y : YT} {X : XT} {j : Nat} (hj : j < 10) {v1 : Int32} (E : Cx p s m args meth c D z RX0 cX0_countVarietiesFrom 4 (some .int)) {r : Int32} : ∀ (n : Nat) (v2 : Int32) (v3 : Int32) (hf : f_X0_countVarietiesFrom_4 X j v1 n v2 v3 = some r), J p l e (rmk 2 0 0) s m args below meth c D z (GG D z (X, Y)) 0 0 (MQ below (QC z (some (.int r)) (GG D z (X, Y))) args s (rmk 2 0 0).cells (rmk 2 0 0).slots (Az z)) 4 4 [(0, .ref (z + aX 10 j 0)), (1, .int v1), (2, .int v2), (3, .int v3)] [] := by
  intro n
  induction n with
  | zero =>
    intro v2 v3 hf
    exact none_e hf
  | succ n ih =>
    intro v2 v3 hf
    rw [f_X0_countVarietiesFrom_4] at hf
    refine j_iload_n E 3 rfl dX0_countVarietiesFrom_4 ?_
    refine j_aload_n E 0 rfl dX0_countVarietiesFrom_5 ?_
    refine j_get (f := 0) E (okb10 hj) cf_X0 fl_X0_12 (lt_ rfl) rfl ent10 rfl dX0_countVarietiesFrom_6 ?_
    refine j_getN (f := 4) E (okb11 hj) cf_X1 fl_X0_43 (lt_ rfl) rfl ent11 rfl dX0_countVarietiesFrom_9 ?_
    refine j_icmp_ge E 36 (by decide) dX0_countVarietiesFrom_12 (fun c1 => ?_) (fun c1 => ?_)
    · rw [if_pos c1] at hf
      refine j_iload_n E 2 rfl dX0_countVarietiesFrom_36 ?_
      cases hf
      exact j_iret E rfl (le_ rfl) (le_ rfl) dX0_countVarietiesFrom_37
    · rw [if_neg c1] at hf
      refine j_aload_n E 0 rfl dX0_countVarietiesFrom_15 ?_
      refine j_get (f := 2) E (okb10 hj) cf_X0 fl_X0_28 (lt_ rfl) rfl ent10 rfl dX0_countVarietiesFrom_16 ?_
      refine j_iload_n E 3 rfl dX0_countVarietiesFrom_19 ?_
      refine j_iload_n E 1 rfl dX0_countVarietiesFrom_20 ?_
      obtain ⟨r1, h1, hf⟩ := bn1_e hf
      refine j_invV [] [.int r1] E (c_X3_hasVarietyFrom hj h1) ml_X0_204 mv_X3_hasVarietyFrom rfl ⟨le_ rfl, le_ rfl⟩ (rcX (okb20 hj) cf_X3 ent20) rfl rfl (le_ rfl) ⟨le_ rfl, le_ rfl⟩ dX0_countVarietiesFrom_21 ?_
      refine j_if_eq E 30 (by decide) dX0_countVarietiesFrom_24 (fun c2 => ?_) (fun c2 => ?_)
      · rw [if_pos c2] at hf
        refine j_iinc (ls' := [(3, .int (v3 + 1)), (0, .ref (z + aX 10 j 0)), (1, .int v1), (2, .int v2)]) E 3 rfl (lt_ rfl) (v3 + 1) (congrArg (fun q => v3 + q) ic_1) rfl dX0_countVarietiesFrom_30 ?_
        refine j_goto E 4 (by decide) dX0_countVarietiesFrom_33 ?_
        refine j_sub [1, 2, 3, 0] rfl ?_
        exact ih _ _ hf
      · rw [if_neg c2] at hf
        refine j_iinc (ls' := [(2, .int (v2 + 1)), (0, .ref (z + aX 10 j 0)), (1, .int v1), (3, .int v3)]) E 2 rfl (lt_ rfl) (v2 + 1) (congrArg (fun q => v2 + q) ic_1) rfl dX0_countVarietiesFrom_27 ?_
        refine j_iinc (ls' := [(3, .int (v3 + 1)), (2, .int (v2 + 1)), (0, .ref (z + aX 10 j 0)), (1, .int v1)]) E 3 rfl (lt_ rfl) (v3 + 1) (congrArg (fun q => v3 + q) ic_1) rfl dX0_countVarietiesFrom_30 ?_
        refine j_goto E 4 (by decide) dX0_countVarietiesFrom_33 ?_
        refine j_sub [2, 3, 1, 0] rfl ?_
        exact ih _ _ hf
set_option maxRecDepth 20000 in
theorem c_X0_countVarietiesFrom {l : Launch} {D : DD} {z : Nat} {Y : YT} {X : XT} {j : Nat} (hj : j < 10) {v1 : Int32} {r : Int32} (hf : f_X0_countVarietiesFrom X j v1 = some r) : CC l yX0_countVarietiesFrom cX0_countVarietiesFrom 4 (some .int) (rmk 2 0 0) D z [.ref (z + aX 10 j 0), .int v1] (GG D z (X, Y)) (some (.int r)) (GG D z (X, Y)) := by
  unfold f_X0_countVarietiesFrom at hf
  refine cc_of pn_X0 (le_ rfl) (ls := [(0, .ref (z + aX 10 j 0)), (1, .int v1)]) rfl ?_
  intro p e s m args below meth c E
  refine j_iconst E 0 ic_0 dX0_countVarietiesFrom_0 ?_
  refine j_istore_n (ls' := [(2, .int 0), (0, .ref (z + aX 10 j 0)), (1, .int v1)]) E (lt_ rfl) rfl dX0_countVarietiesFrom_1 ?_
  refine j_iconst E 0 ic_0 dX0_countVarietiesFrom_2 ?_
  refine j_istore_n (ls' := [(3, .int 0), (2, .int 0), (0, .ref (z + aX 10 j 0)), (1, .int v1)]) E (lt_ rfl) rfl dX0_countVarietiesFrom_3 ?_
  refine j_sub [2, 3, 1, 0] rfl ?_
  exact b_X0_countVarietiesFrom_4 hj E 2000 _ _ hf
def f_X3_weightFromGrower_4 (X : XT) (j : Nat) (v1 : Int32) : Nat → Int32 → Int32 → Option Int32
  | 0, _, _ => none
  | n + 1, v2, v3 => if (X 20 j 0 1) ≤ v3 then (some v2) else (gd (¬ (v3 < 0 ∨ 20 ≤ v3.toNatClampNeg)) (if (X 22 j v3.toNatClampNeg 1) = v1 then (gd (¬ (v3 < 0 ∨ 20 ≤ v3.toNatClampNeg)) (bnd (v2 + (X 22 j v3.toNatClampNeg 3)) (fun x1 => f_X3_weightFromGrower_4 X j v1 n x1 (v3 + 1)))) else (f_X3_weightFromGrower_4 X j v1 n v2 (v3 + 1))))
def f_X3_weightFromGrower (X : XT) (j : Nat) (v1 : Int32) : Option Int32 :=
  f_X3_weightFromGrower_4 X j v1 2000 0 0
set_option maxRecDepth 20000 in
theorem b_X3_weightFromGrower_4 {p : Program} {l : Launch} {e : Env} {s : State} {m : MethodId} {args : Array Value} {below : List Frame} {meth : Method} {c : Code} {D : DD} {z : Nat} {Y : YT} {X : XT} {j : Nat} (hj : j < 10) {v1 : Int32} (E : Cx p s m args meth c D z RX3 cX3_weightFromGrower 4 (some .int)) {r : Int32} : ∀ (n : Nat) (v2 : Int32) (v3 : Int32) (hf : f_X3_weightFromGrower_4 X j v1 n v2 v3 = some r), J p l e (rmk 1 0 0) s m args below meth c D z (GG D z (X, Y)) 0 0 (MQ below (QC z (some (.int r)) (GG D z (X, Y))) args s (rmk 1 0 0).cells (rmk 1 0 0).slots (Az z)) 4 4 [(0, .ref (z + aX 20 j 0)), (1, .int v1), (2, .int v2), (3, .int v3)] [] := by
  intro n
  induction n with
  | zero =>
    intro v2 v3 hf
    exact none_e hf
  | succ n ih =>
    intro v2 v3 hf
    rw [f_X3_weightFromGrower_4] at hf
    refine j_iload_n E 3 rfl dX3_weightFromGrower_4 ?_
    refine j_aload_n E 0 rfl dX3_weightFromGrower_5 ?_
    refine j_get (f := 1) E (okb20 hj) cf_X3 fl_X3_22 (lt_ rfl) rfl ent20 rfl dX3_weightFromGrower_6 ?_
    refine j_icmp_ge E 43 (by decide) dX3_weightFromGrower_9 (fun c1 => ?_) (fun c1 => ?_)
    · rw [if_pos c1] at hf
      refine j_iload_n E 2 rfl dX3_weightFromGrower_43 ?_
      cases hf
      exact j_iret E rfl (le_ rfl) (le_ rfl) dX3_weightFromGrower_44
    · rw [if_neg c1] at hf
      refine j_aload_n E 0 rfl dX3_weightFromGrower_12 ?_
      refine j_get (f := 0) E (okb20 hj) cf_X3 fl_X3_11 (lt_ rfl) rfl ent20 rfl dX3_weightFromGrower_13 ?_
      refine j_iload_n E 3 rfl dX3_weightFromGrower_16 ?_
      obtain ⟨g1, hf⟩ := gd_e hf
      refine j_aald (t := 4) E (okb21 hj) ent21 rfl g1 dX3_weightFromGrower_17 ?_
      refine j_getN (f := 1) E (okb22 hj (in_cl g1)) cf_X6 fl_X3_45 (lt_ rfl) rfl ent22 rfl dX3_weightFromGrower_18 ?_
      refine j_iload_n E 1 rfl dX3_weightFromGrower_21 ?_
      refine j_icmp_ne E 37 (by decide) dX3_weightFromGrower_22 (fun c2 => ?_) (fun c2 => ?_)
      · rw [if_neg c2] at hf
        refine j_iinc (ls' := [(3, .int (v3 + 1)), (0, .ref (z + aX 20 j 0)), (1, .int v1), (2, .int v2)]) E 3 rfl (lt_ rfl) (v3 + 1) (congrArg (fun q => v3 + q) ic_1) rfl dX3_weightFromGrower_37 ?_
        refine j_goto E 4 (by decide) dX3_weightFromGrower_40 ?_
        refine j_sub [1, 2, 3, 0] rfl ?_
        exact ih _ _ hf
      · rw [if_pos c2] at hf
        refine j_iload_n E 2 rfl dX3_weightFromGrower_25 ?_
        refine j_aload_n E 0 rfl dX3_weightFromGrower_26 ?_
        refine j_get (f := 0) E (okb20 hj) cf_X3 fl_X3_11 (lt_ rfl) rfl ent20 rfl dX3_weightFromGrower_27 ?_
        refine j_iload_n E 3 rfl dX3_weightFromGrower_30 ?_
        obtain ⟨g2, hf⟩ := gd_e hf
        refine j_aald (t := 4) E (okb21 hj) ent21 rfl g2 dX3_weightFromGrower_31 ?_
        refine j_getN (f := 3) E (okb22 hj (in_cl g2)) cf_X6 fl_X3_39 (lt_ rfl) rfl ent22 rfl dX3_weightFromGrower_32 ?_
        refine j_iadd E dX3_weightFromGrower_35 ?_
        obtain ⟨x1, hx1, hf⟩ := bnd_e hf
        refine j_name hx1 ?_
        refine j_istore_n (ls' := [(2, .int x1), (0, .ref (z + aX 20 j 0)), (1, .int v1), (3, .int v3)]) E (lt_ rfl) rfl dX3_weightFromGrower_36 ?_
        refine j_iinc (ls' := [(3, .int (v3 + 1)), (2, .int x1), (0, .ref (z + aX 20 j 0)), (1, .int v1)]) E 3 rfl (lt_ rfl) (v3 + 1) (congrArg (fun q => v3 + q) ic_1) rfl dX3_weightFromGrower_37 ?_
        refine j_goto E 4 (by decide) dX3_weightFromGrower_40 ?_
        refine j_sub [2, 3, 1, 0] rfl ?_
        exact ih _ _ hf
set_option maxRecDepth 20000 in
theorem c_X3_weightFromGrower {l : Launch} {D : DD} {z : Nat} {Y : YT} {X : XT} {j : Nat} (hj : j < 10) {v1 : Int32} {r : Int32} (hf : f_X3_weightFromGrower X j v1 = some r) : CC l yX3_weightFromGrower cX3_weightFromGrower 4 (some .int) (rmk 1 0 0) D z [.ref (z + aX 20 j 0), .int v1] (GG D z (X, Y)) (some (.int r)) (GG D z (X, Y)) := by
  unfold f_X3_weightFromGrower at hf
  refine cc_of pn_X3 (le_ rfl) (ls := [(0, .ref (z + aX 20 j 0)), (1, .int v1)]) rfl ?_
  intro p e s m args below meth c E
  refine j_iconst E 0 ic_0 dX3_weightFromGrower_0 ?_
  refine j_istore_n (ls' := [(2, .int 0), (0, .ref (z + aX 20 j 0)), (1, .int v1)]) E (lt_ rfl) rfl dX3_weightFromGrower_1 ?_
  refine j_iconst E 0 ic_0 dX3_weightFromGrower_2 ?_
  refine j_istore_n (ls' := [(3, .int 0), (2, .int 0), (0, .ref (z + aX 20 j 0)), (1, .int v1)]) E (lt_ rfl) rfl dX3_weightFromGrower_3 ?_
  refine j_sub [2, 3, 1, 0] rfl ?_
  exact b_X3_weightFromGrower_4 hj E 2000 _ _ hf
def f_X0_heaviestGrower_6 (X : XT) (j : Nat) : Nat → Int32 → Int32 → Int32 → Option Int32
  | 0, _, _, _ => none
  | n + 1, v1, v2, v3 => if (X 15 j 0 4) ≤ v3 then (some v1) else (bn1 (f_X3_weightFromGrower X j v3) (fun r1 => if r1 ≤ v2 then (f_X0_heaviestGrower_6 X j n v1 v2 (v3 + 1)) else (f_X0_heaviestGrower_6 X j n v3 r1 (v3 + 1))))
def f_X0_heaviestGrower (X : XT) (j : Nat) : Option Int32 :=
  f_X0_heaviestGrower_6 X j 2000 (-1) (-1) 0
set_option maxRecDepth 20000 in
theorem b_X0_heaviestGrower_6 {p : Program} {l : Launch} {e : Env} {s : State} {m : MethodId} {args : Array Value} {below : List Frame} {meth : Method} {c : Code} {D : DD} {z : Nat} {Y : YT} {X : XT} {j : Nat} (hj : j < 10) (E : Cx p s m args meth c D z RX0 cX0_heaviestGrower 5 (some .int)) {r : Int32} : ∀ (n : Nat) (v1 : Int32) (v2 : Int32) (v3 : Int32) (hf : f_X0_heaviestGrower_6 X j n v1 v2 v3 = some r), J p l e (rmk 2 0 0) s m args below meth c D z (GG D z (X, Y)) 0 0 (MQ below (QC z (some (.int r)) (GG D z (X, Y))) args s (rmk 2 0 0).cells (rmk 2 0 0).slots (Az z)) 5 6 [(0, .ref (z + aX 10 j 0)), (1, .int v1), (2, .int v2), (3, .int v3)] [] := by
  intro n
  induction n with
  | zero =>
    intro v1 v2 v3 hf
    exact none_e hf
  | succ n ih =>
    intro v1 v2 v3 hf
    rw [f_X0_heaviestGrower_6] at hf
    refine j_iload_n E 3 rfl dX0_heaviestGrower_6 ?_
    refine j_aload_n E 0 rfl dX0_heaviestGrower_7 ?_
    refine j_get (f := 1) E (okb10 hj) cf_X0 fl_X0_21 (lt_ rfl) rfl ent10 rfl dX0_heaviestGrower_8 ?_
    refine j_getN (f := 4) E (okb15 hj) cf_X5 fl_X0_46 (lt_ rfl) rfl ent15 rfl dX0_heaviestGrower_11 ?_
    refine j_icmp_ge E 44 (by decide) dX0_heaviestGrower_14 (fun c1 => ?_) (fun c1 => ?_)
    · rw [if_pos c1] at hf
      refine j_iload_n E 1 rfl dX0_heaviestGrower_44 ?_
      cases hf
      exact j_iret E rfl (le_ rfl) (le_ rfl) dX0_heaviestGrower_45
    · rw [if_neg c1] at hf
      refine j_aload_n E 0 rfl dX0_heaviestGrower_17 ?_
      refine j_get (f := 2) E (okb10 hj) cf_X0 fl_X0_28 (lt_ rfl) rfl ent10 rfl dX0_heaviestGrower_18 ?_
      refine j_iload_n E 3 rfl dX0_heaviestGrower_21 ?_
      obtain ⟨r1, h1, hf⟩ := bn1_e hf
      refine j_invV [] [.int r1] E (c_X3_weightFromGrower hj h1) ml_X0_208 mv_X3_weightFromGrower rfl ⟨le_ rfl, le_ rfl⟩ (rcX (okb20 hj) cf_X3 ent20) rfl rfl (le_ rfl) ⟨le_ rfl, le_ rfl⟩ dX0_heaviestGrower_22 ?_
      refine j_istore (ls' := [(4, .int r1), (0, .ref (z + aX 10 j 0)), (1, .int v1), (2, .int v2), (3, .int v3)]) E (lt_ rfl) rfl dX0_heaviestGrower_25 ?_
      refine j_iload E 0 rfl dX0_heaviestGrower_27 ?_
      refine j_iload_n E 3 rfl dX0_heaviestGrower_29 ?_
      refine j_icmp_le E 38 (by decide) dX0_heaviestGrower_30 (fun c2 => ?_) (fun c2 => ?_)
      · rw [if_pos c2] at hf
        refine j_iinc (ls' := [(3, .int (v3 + 1)), (4, .int r1), (0, .ref (z + aX 10 j 0)), (1, .int v1), (2, .int v2)]) E 4 rfl (lt_ rfl) (v3 + 1) (congrArg (fun q => v3 + q) ic_1) rfl dX0_heaviestGrower_38 ?_
        refine j_goto E 6 (by decide) dX0_heaviestGrower_41 ?_
        refine j_sub [2, 3, 4, 0] rfl ?_
        exact ih _ _ _ hf
      · rw [if_neg c2] at hf
        refine j_iload E 0 rfl dX0_heaviestGrower_33 ?_
        refine j_istore_n (ls' := [(2, .int r1), (4, .int r1), (0, .ref (z + aX 10 j 0)), (1, .int v1), (3, .int v3)]) E (lt_ rfl) rfl dX0_heaviestGrower_35 ?_
        refine j_iload_n E 4 rfl dX0_heaviestGrower_36 ?_
        refine j_istore_n (ls' := [(1, .int v3), (2, .int r1), (4, .int r1), (0, .ref (z + aX 10 j 0)), (3, .int v3)]) E (lt_ rfl) rfl dX0_heaviestGrower_37 ?_
        refine j_iinc (ls' := [(3, .int (v3 + 1)), (1, .int v3), (2, .int r1), (4, .int r1), (0, .ref (z + aX 10 j 0))]) E 4 rfl (lt_ rfl) (v3 + 1) (congrArg (fun q => v3 + q) ic_1) rfl dX0_heaviestGrower_38 ?_
        refine j_goto E 6 (by decide) dX0_heaviestGrower_41 ?_
        refine j_sub [4, 1, 2, 0] rfl ?_
        exact ih _ _ _ hf
set_option maxRecDepth 20000 in
theorem c_X0_heaviestGrower {l : Launch} {D : DD} {z : Nat} {Y : YT} {X : XT} {j : Nat} (hj : j < 10) {r : Int32} (hf : f_X0_heaviestGrower X j = some r) : CC l yX0_heaviestGrower cX0_heaviestGrower 5 (some .int) (rmk 2 0 0) D z [.ref (z + aX 10 j 0)] (GG D z (X, Y)) (some (.int r)) (GG D z (X, Y)) := by
  unfold f_X0_heaviestGrower at hf
  refine cc_of pn_X0 (le_ rfl) (ls := [(0, .ref (z + aX 10 j 0))]) rfl ?_
  intro p e s m args below meth c E
  refine j_iconst E (-1) ic_m1 dX0_heaviestGrower_0 ?_
  refine j_istore_n (ls' := [(1, .int (-1)), (0, .ref (z + aX 10 j 0))]) E (lt_ rfl) rfl dX0_heaviestGrower_1 ?_
  refine j_iconst E (-1) ic_m1 dX0_heaviestGrower_2 ?_
  refine j_istore_n (ls' := [(2, .int (-1)), (1, .int (-1)), (0, .ref (z + aX 10 j 0))]) E (lt_ rfl) rfl dX0_heaviestGrower_3 ?_
  refine j_iconst E 0 ic_0 dX0_heaviestGrower_4 ?_
  refine j_istore_n (ls' := [(3, .int 0), (2, .int (-1)), (1, .int (-1)), (0, .ref (z + aX 10 j 0))]) E (lt_ rfl) rfl dX0_heaviestGrower_5 ?_
  refine j_sub [3, 2, 1, 0] rfl ?_
  exact b_X0_heaviestGrower_6 hj E 2000 _ _ _ hf
def f_X1_hasVariety (X : XT) (j : Nat) (v1 : Int32) : Option Int32 :=
  if v1 < 0 then (some 0) else (if (X 11 j 0 4) ≤ v1 then (some 0) else (some 1))
set_option maxRecDepth 20000 in
theorem c_X1_hasVariety {l : Launch} {D : DD} {z : Nat} {Y : YT} {X : XT} {j : Nat} (hj : j < 10) {v1 : Int32} {r : Int32} (hf : f_X1_hasVariety X j v1 = some r) : CC l yX1_hasVariety cX1_hasVariety 2 (some .boolean) (rmk 1 0 0) D z [.ref (z + aX 11 j 0), .int v1] (GG D z (X, Y)) (some (.int r)) (GG D z (X, Y)) := by
  unfold f_X1_hasVariety at hf
  refine cc_of pn_X1 (le_ rfl) (ls := [(0, .ref (z + aX 11 j 0)), (1, .int v1)]) rfl ?_
  intro p e s m args below meth c E
  refine j_iload_n E 1 rfl dX1_hasVariety_0 ?_
  refine j_if_lt E 16 (by decide) dX1_hasVariety_1 (fun c1 => ?_) (fun c1 => ?_)
  · rw [if_pos c1] at hf
    refine j_iconst E 0 ic_0 dX1_hasVariety_16 ?_
    cases hf
    exact j_iret E rfl (le_ rfl) (le_ rfl) dX1_hasVariety_17
  · rw [if_neg c1] at hf
    refine j_iload_n E 1 rfl dX1_hasVariety_4 ?_
    refine j_aload_n E 0 rfl dX1_hasVariety_5 ?_
    refine j_get (f := 4) E (okb11 hj) cf_X1 fl_X1_31 (lt_ rfl) rfl ent11 rfl dX1_hasVariety_6 ?_
    refine j_icmp_ge E 16 (by decide) dX1_hasVariety_9 (fun c2 => ?_) (fun c2 => ?_)
    · rw [if_pos c2] at hf
      refine j_iconst E 0 ic_0 dX1_hasVariety_16 ?_
      cases hf
      exact j_iret E rfl (le_ rfl) (le_ rfl) dX1_hasVariety_17
    · rw [if_neg c2] at hf
      refine j_iconst E 1 ic_1 dX1_hasVariety_12 ?_
      refine j_goto E 17 (by decide) dX1_hasVariety_13 ?_
      cases hf
      exact j_iret E rfl (le_ rfl) (le_ rfl) dX1_hasVariety_17
def f_X1_hasGrade (X : XT) (j : Nat) (v1 : Int32) : Option Int32 :=
  if v1 < 0 then (some 0) else (if (X 11 j 0 3) ≤ v1 then (some 0) else (some 1))
set_option maxRecDepth 20000 in
theorem c_X1_hasGrade {l : Launch} {D : DD} {z : Nat} {Y : YT} {X : XT} {j : Nat} (hj : j < 10) {v1 : Int32} {r : Int32} (hf : f_X1_hasGrade X j v1 = some r) : CC l yX1_hasGrade cX1_hasGrade 2 (some .boolean) (rmk 1 0 0) D z [.ref (z + aX 11 j 0), .int v1] (GG D z (X, Y)) (some (.int r)) (GG D z (X, Y)) := by
  unfold f_X1_hasGrade at hf
  refine cc_of pn_X1 (le_ rfl) (ls := [(0, .ref (z + aX 11 j 0)), (1, .int v1)]) rfl ?_
  intro p e s m args below meth c E
  refine j_iload_n E 1 rfl dX1_hasGrade_0 ?_
  refine j_if_lt E 16 (by decide) dX1_hasGrade_1 (fun c1 => ?_) (fun c1 => ?_)
  · rw [if_pos c1] at hf
    refine j_iconst E 0 ic_0 dX1_hasGrade_16 ?_
    cases hf
    exact j_iret E rfl (le_ rfl) (le_ rfl) dX1_hasGrade_17
  · rw [if_neg c1] at hf
    refine j_iload_n E 1 rfl dX1_hasGrade_4 ?_
    refine j_aload_n E 0 rfl dX1_hasGrade_5 ?_
    refine j_get (f := 3) E (okb11 hj) cf_X1 fl_X1_27 (lt_ rfl) rfl ent11 rfl dX1_hasGrade_6 ?_
    refine j_icmp_ge E 16 (by decide) dX1_hasGrade_9 (fun c2 => ?_) (fun c2 => ?_)
    · rw [if_pos c2] at hf
      refine j_iconst E 0 ic_0 dX1_hasGrade_16 ?_
      cases hf
      exact j_iret E rfl (le_ rfl) (le_ rfl) dX1_hasGrade_17
    · rw [if_neg c2] at hf
      refine j_iconst E 1 ic_1 dX1_hasGrade_12 ?_
      refine j_goto E 17 (by decide) dX1_hasGrade_13 ?_
      cases hf
      exact j_iret E rfl (le_ rfl) (le_ rfl) dX1_hasGrade_17
def f_X1_isLessThanLast (X : XT) (j : Nat) (v1 : Int32) : Option Int32 :=
  bnd ((X 11 j 0 3) - 1) (fun x1 => bn1 (f_X1_hasGrade X j x1) (fun r1 => if r1 = 0 then (some 1) else (gd (¬ (x1 < 0 ∨ 4 ≤ x1.toNatClampNeg)) (if (X 12 j 0 x1.toNatClampNeg) ≤ v1 then (some 0) else (some 1)))))
set_option maxRecDepth 20000 in
theorem c_X1_isLessThanLast {l : Launch} {D : DD} {z : Nat} {Y : YT} {X : XT} {j : Nat} (hj : j < 10) {v1 : Int32} {r : Int32} (hf : f_X1_isLessThanLast X j v1 = some r) : CC l yX1_isLessThanLast cX1_isLessThanLast 3 (some .boolean) (rmk 2 0 0) D z [.ref (z + aX 11 j 0), .int v1] (GG D z (X, Y)) (some (.int r)) (GG D z (X, Y)) := by
  unfold f_X1_isLessThanLast at hf
  refine cc_of pn_X1 (le_ rfl) (ls := [(0, .ref (z + aX 11 j 0)), (1, .int v1)]) rfl ?_
  intro p e s m args below meth c E
  refine j_aload_n E 0 rfl dX1_isLessThanLast_0 ?_
  refine j_get (f := 3) E (okb11 hj) cf_X1 fl_X1_27 (lt_ rfl) rfl ent11 rfl dX1_isLessThanLast_1 ?_
  refine j_iconst E 1 ic_1 dX1_isLessThanLast_4 ?_
  refine j_isub E dX1_isLessThanLast_5 ?_
  obtain ⟨x1, hx1, hf⟩ := bnd_e hf
  refine j_name hx1 ?_
  refine j_istore_n (ls' := [(2, .int x1), (0, .ref (z + aX 11 j 0)), (1, .int v1)]) E (lt_ rfl) rfl dX1_isLessThanLast_6 ?_
  refine j_aload_n E 1 rfl dX1_isLessThanLast_7 ?_
  refine j_iload_n E 0 rfl dX1_isLessThanLast_8 ?_
  obtain ⟨r1, h1, hf⟩ := bn1_e hf
  refine j_invV [] [.int r1] E (c_X1_hasGrade hj h1) ml_X1_34 mv_X1_hasGrade rfl ⟨le_ rfl, le_ rfl⟩ (rcX (okb11 hj) cf_X1 ent11) rfl rfl (le_ rfl) ⟨le_ rfl, le_ rfl⟩ dX1_isLessThanLast_9 ?_
  refine j_if_eq E 25 (by decide) dX1_isLessThanLast_12 (fun c1 => ?_) (fun c1 => ?_)
  · rw [if_pos c1] at hf
    refine j_iconst E 1 ic_1 dX1_isLessThanLast_25 ?_
    refine j_goto E 30 (by decide) dX1_isLessThanLast_26 ?_
    cases hf
    exact j_iret E rfl (le_ rfl) (le_ rfl) dX1_isLessThanLast_30
  · rw [if_neg c1] at hf
    refine j_iload_n E 2 rfl dX1_isLessThanLast_15 ?_
    refine j_aload_n E 1 rfl dX1_isLessThanLast_16 ?_
    refine j_get (f := 0) E (okb11 hj) cf_X1 fl_X1_9 (lt_ rfl) rfl ent11 rfl dX1_isLessThanLast_17 ?_
    refine j_iload_n E 0 rfl dX1_isLessThanLast_20 ?_
    obtain ⟨g1, hf⟩ := gd_e hf
    refine j_iald E (okb12 hj) ent12 g1 (x1.toNatClampNeg) rfl dX1_isLessThanLast_21 ?_
    refine j_icmp_ge E 29 (by decide) dX1_isLessThanLast_22 (fun c2 => ?_) (fun c2 => ?_)
    · rw [if_pos c2] at hf
      refine j_iconst E 0 ic_0 dX1_isLessThanLast_29 ?_
      cases hf
      exact j_iret E rfl (le_ rfl) (le_ rfl) dX1_isLessThanLast_30
    · rw [if_neg c2] at hf
      refine j_iconst E 1 ic_1 dX1_isLessThanLast_25 ?_
      refine j_goto E 30 (by decide) dX1_isLessThanLast_26 ?_
      cases hf
      exact j_iret E rfl (le_ rfl) (le_ rfl) dX1_isLessThanLast_30
def f_X1_addClass (X : XT) (j : Nat) (v1 : Int32) : Option XT :=
  if 4 ≤ (X 11 j 0 3) then (some X) else (gd (¬ ((X 11 j 0 3) < 0 ∨ 4 ≤ (X 11 j 0 3).toNatClampNeg)) (bnd (xs X 12 j 0 ((X 11 j 0 3).toNatClampNeg) v1) (fun X1 => bnd (xs X1 11 j 0 3 ((X1 11 j 0 3) + 1)) (fun X2 => some X2))))
set_option maxRecDepth 20000 in
theorem c_X1_addClass {l : Launch} {D : DD} {z : Nat} {Y : YT} {X : XT} {j : Nat} (hj : j < 10) {v1 : Int32} {X' : XT} (hf : f_X1_addClass X j v1 = some X') : CC l yX1_addClass cX1_addClass 2 none (rmk 1 0 0) D z [.ref (z + aX 11 j 0), .int v1] (GG D z (X, Y)) none (GG D z (X', Y)) := by
  unfold f_X1_addClass at hf
  refine cc_of pn_X1 (le_ rfl) (ls := [(0, .ref (z + aX 11 j 0)), (1, .int v1)]) rfl ?_
  intro p e s m args below meth c E
  refine j_aload_n E 0 rfl dX1_addClass_0 ?_
  refine j_get (f := 3) E (okb11 hj) cf_X1 fl_X1_27 (lt_ rfl) rfl ent11 rfl dX1_addClass_1 ?_
  refine j_iconst E 4 ic_4 dX1_addClass_4 ?_
  refine j_icmp_ge E 28 (by decide) dX1_addClass_5 (fun c1 => ?_) (fun c1 => ?_)
  · rw [if_pos c1] at hf
    cases hf
    exact j_vret E (le_ rfl) (le_ rfl) dX1_addClass_28
  · rw [if_neg c1] at hf
    refine j_aload_n E 0 rfl dX1_addClass_8 ?_
    refine j_get (f := 0) E (okb11 hj) cf_X1 fl_X1_9 (lt_ rfl) rfl ent11 rfl dX1_addClass_9 ?_
    refine j_aload_n E 0 rfl dX1_addClass_12 ?_
    refine j_get (f := 3) E (okb11 hj) cf_X1 fl_X1_27 (lt_ rfl) rfl ent11 rfl dX1_addClass_13 ?_
    refine j_iload_n E 1 rfl dX1_addClass_16 ?_
    obtain ⟨g1, hf⟩ := gd_e hf
    obtain ⟨X1, hX1, hf⟩ := bnd_e hf
    refine j_iast E (okb12 hj) (fun _ => ent12) g1 ((X 11 j 0 3).toNatClampNeg) rfl hX1 dX1_addClass_17 ?_
    refine j_aload_n E 0 rfl dX1_addClass_18 ?_
    refine j_dup E rfl dX1_addClass_19 ?_
    refine j_get (f := 3) E (okb11 hj) cf_X1 fl_X1_27 (lt_ rfl) rfl ent11 rfl dX1_addClass_20 ?_
    refine j_iconst E 1 ic_1 dX1_addClass_23 ?_
    refine j_iadd E dX1_addClass_24 ?_
    obtain ⟨X2, hX2, hf⟩ := bnd_e hf
    refine j_put (f := 3) E (okb11 hj) cf_X1 fl_X1_27 (lt_ rfl) ⟨rfl, rfl⟩ (fit_i _) ent11 pe11_3 (lt_ rfl) hX2 dX1_addClass_25 ?_
    cases hf
    exact j_vret E (le_ rfl) (le_ rfl) dX1_addClass_28
def f_X1_putPrice (X : XT) (j : Nat) (v1 : Int32) (v2 : Int32) (v3 : Int32) : Option XT :=
  bn1 (f_X1_hasVariety X j v1) (fun r1 => if r1 = 0 then (some X) else (bn1 (f_X1_hasGrade X j v2) (fun r2 => if r2 = 0 then (some X) else (gd (¬ (((v1 * 4) + v2) < 0 ∨ 16 ≤ ((v1 * 4) + v2).toNatClampNeg)) (bnd (xs X 14 j 0 (((v1 * 4) + v2).toNatClampNeg) v3) (fun X1 => some X1))))))
set_option maxRecDepth 20000 in
theorem c_X1_putPrice {l : Launch} {D : DD} {z : Nat} {Y : YT} {X : XT} {j : Nat} (hj : j < 10) {v1 : Int32} {v2 : Int32} {v3 : Int32} {X' : XT} (hf : f_X1_putPrice X j v1 v2 v3 = some X') : CC l yX1_putPrice cX1_putPrice 4 none (rmk 2 0 0) D z [.ref (z + aX 11 j 0), .int v1, .int v2, .int v3] (GG D z (X, Y)) none (GG D z (X', Y)) := by
  unfold f_X1_putPrice at hf
  refine cc_of pn_X1 (le_ rfl) (ls := [(0, .ref (z + aX 11 j 0)), (1, .int v1), (2, .int v2), (3, .int v3)]) rfl ?_
  intro p e s m args below meth c E
  refine j_aload_n E 0 rfl dX1_putPrice_0 ?_
  refine j_iload_n E 1 rfl dX1_putPrice_1 ?_
  obtain ⟨r1, h1, hf⟩ := bn1_e hf
  refine j_invV [] [.int r1] E (c_X1_hasVariety hj h1) ml_X1_42 mv_X1_hasVariety rfl ⟨le_ rfl, le_ rfl⟩ (rcX (okb11 hj) cf_X1 ent11) rfl rfl (le_ rfl) ⟨le_ rfl, le_ rfl⟩ dX1_putPrice_2 ?_
  refine j_if_eq E 27 (by decide) dX1_putPrice_5 (fun c1 => ?_) (fun c1 => ?_)
  · rw [if_pos c1] at hf
    cases hf
    exact j_vret E (le_ rfl) (le_ rfl) dX1_putPrice_27
  · rw [if_neg c1] at hf
    refine j_aload_n E 0 rfl dX1_putPrice_8 ?_
    refine j_iload_n E 2 rfl dX1_putPrice_9 ?_
    obtain ⟨r2, h2, hf⟩ := bn1_e hf
    refine j_invV [] [.int r2] E (c_X1_hasGrade hj h2) ml_X1_34 mv_X1_hasGrade rfl ⟨le_ rfl, le_ rfl⟩ (rcX (okb11 hj) cf_X1 ent11) rfl rfl (le_ rfl) ⟨le_ rfl, le_ rfl⟩ dX1_putPrice_10 ?_
    refine j_if_eq E 27 (by decide) dX1_putPrice_13 (fun c2 => ?_) (fun c2 => ?_)
    · rw [if_pos c2] at hf
      cases hf
      exact j_vret E (le_ rfl) (le_ rfl) dX1_putPrice_27
    · rw [if_neg c2] at hf
      refine j_aload_n E 0 rfl dX1_putPrice_16 ?_
      refine j_get (f := 2) E (okb11 hj) cf_X1 fl_X1_18 (lt_ rfl) rfl ent11 rfl dX1_putPrice_17 ?_
      refine j_iload_n E 1 rfl dX1_putPrice_20 ?_
      refine j_iconst E 4 ic_4 dX1_putPrice_21 ?_
      refine j_imul E dX1_putPrice_22 ?_
      refine j_iload_n E 2 rfl dX1_putPrice_23 ?_
      refine j_iadd E dX1_putPrice_24 ?_
      refine j_iload_n E 3 rfl dX1_putPrice_25 ?_
      obtain ⟨g1, hf⟩ := gd_e hf
      obtain ⟨X1, hX1, hf⟩ := bnd_e hf
      refine j_iast E (okb14 hj) (fun _ => ent14) g1 (((v1 * 4) + v2).toNatClampNeg) rfl hX1 dX1_putPrice_26 ?_
      cases hf
      exact j_vret E (le_ rfl) (le_ rfl) dX1_putPrice_27
def f_X1_addVariety_32 (j : Nat) (v2 : Int32) : Nat → XT → Int32 → Option XT
  | 0, _, _ => none
  | n + 1, X, v3 => if (X 11 j 0 3) ≤ v3 then (some X) else (bn1 (f_X1_putPrice X j v2 v3 0) (fun X1 => f_X1_addVariety_32 j v2 n X1 (v3 + 1)))
def f_X1_addVariety (X : XT) (j : Nat) (v1 : Int32) : Option XT :=
  if 4 ≤ (X 11 j 0 4) then (some X) else (gd (¬ ((X 11 j 0 4) < 0 ∨ 4 ≤ (X 11 j 0 4).toNatClampNeg)) (bnd (xs X 13 j 0 ((X 11 j 0 4).toNatClampNeg) v1) (fun X1 => bnd (xs X1 11 j 0 4 ((X1 11 j 0 4) + 1)) (fun X2 => f_X1_addVariety_32 j (X 11 j 0 4) 2000 X2 0))))
set_option maxRecDepth 20000 in
theorem b_X1_addVariety_32 {p : Program} {l : Launch} {e : Env} {s : State} {m : MethodId} {args : Array Value} {below : List Frame} {meth : Method} {c : Code} {D : DD} {z : Nat} {Y : YT} {j : Nat} (hj : j < 10) {v2 : Int32} (E : Cx p s m args meth c D z RX1 cX1_addVariety 4 none) {X' : XT} : ∀ (n : Nat) (X : XT) (v3 : Int32) (hf : f_X1_addVariety_32 j v2 n X v3 = some X'), J p l e (rmk 3 0 0) s m args below meth c D z (GG D z (X, Y)) 0 0 (MQ below (QC z none (GG D z (X', Y))) args s (rmk 3 0 0).cells (rmk 3 0 0).slots (Az z)) 4 32 [(0, .ref (z + aX 11 j 0)), (2, .int v2), (3, .int v3)] [] := by
  intro n
  induction n with
  | zero =>
    intro X v3 hf
    exact none_e hf
  | succ n ih =>
    intro X v3 hf
    rw [f_X1_addVariety_32] at hf
    refine j_iload_n E 2 rfl dX1_addVariety_32 ?_
    refine j_aload_n E 0 rfl dX1_addVariety_33 ?_
    refine j_get (f := 3) E (okb11 hj) cf_X1 fl_X1_27 (lt_ rfl) rfl ent11 rfl dX1_addVariety_34 ?_
    refine j_icmp_ge E 53 (by decide) dX1_addVariety_37 (fun c1 => ?_) (fun c1 => ?_)
    · rw [if_pos c1] at hf
      cases hf
      exact j_vret E (le_ rfl) (le_ rfl) dX1_addVariety_53
    · rw [if_neg c1] at hf
      refine j_aload_n E 0 rfl dX1_addVariety_40 ?_
      refine j_iload_n E 1 rfl dX1_addVariety_41 ?_
      refine j_iload_n E 2 rfl dX1_addVariety_42 ?_
      refine j_iconst E 0 ic_0 dX1_addVariety_43 ?_
      obtain ⟨X1, h1, hf⟩ := bn1_e hf
      refine j_invV [] [] E (c_X1_putPrice hj h1) ml_X1_38 mv_X1_putPrice rfl ⟨le_ rfl, le_ rfl⟩ (rcX (okb11 hj) cf_X1 ent11) rfl rfl (le_ rfl) ⟨le_ rfl, le_ rfl⟩ dX1_addVariety_44 ?_
      refine j_iinc (ls' := [(3, .int (v3 + 1)), (0, .ref (z + aX 11 j 0)), (2, .int v2)]) E 2 rfl (lt_ rfl) (v3 + 1) (congrArg (fun q => v3 + q) ic_1) rfl dX1_addVariety_47 ?_
      refine j_goto E 32 (by decide) dX1_addVariety_50 ?_
      refine j_sub [1, 2, 0] rfl ?_
      exact ih _ _ hf
set_option maxRecDepth 20000 in
theorem c_X1_addVariety {l : Launch} {D : DD} {z : Nat} {Y : YT} {X : XT} {j : Nat} (hj : j < 10) {v1 : Int32} {X' : XT} (hf : f_X1_addVariety X j v1 = some X') : CC l yX1_addVariety cX1_addVariety 4 none (rmk 3 0 0) D z [.ref (z + aX 11 j 0), .int v1] (GG D z (X, Y)) none (GG D z (X', Y)) := by
  unfold f_X1_addVariety at hf
  refine cc_of pn_X1 (le_ rfl) (ls := [(0, .ref (z + aX 11 j 0)), (1, .int v1)]) rfl ?_
  intro p e s m args below meth c E
  refine j_aload_n E 0 rfl dX1_addVariety_0 ?_
  refine j_get (f := 4) E (okb11 hj) cf_X1 fl_X1_31 (lt_ rfl) rfl ent11 rfl dX1_addVariety_1 ?_
  refine j_iconst E 4 ic_4 dX1_addVariety_4 ?_
  refine j_icmp_ge E 53 (by decide) dX1_addVariety_5 (fun c1 => ?_) (fun c1 => ?_)
  · rw [if_pos c1] at hf
    cases hf
    exact j_vret E (le_ rfl) (le_ rfl) dX1_addVariety_53
  · rw [if_neg c1] at hf
    refine j_aload_n E 0 rfl dX1_addVariety_8 ?_
    refine j_get (f := 4) E (okb11 hj) cf_X1 fl_X1_31 (lt_ rfl) rfl ent11 rfl dX1_addVariety_9 ?_
    refine j_istore_n (ls' := [(2, .int (X 11 j 0 4)), (0, .ref (z + aX 11 j 0)), (1, .int v1)]) E (lt_ rfl) rfl dX1_addVariety_12 ?_
    refine j_aload_n E 1 rfl dX1_addVariety_13 ?_
    refine j_get (f := 1) E (okb11 hj) cf_X1 fl_X1_15 (lt_ rfl) rfl ent11 rfl dX1_addVariety_14 ?_
    refine j_iload_n E 0 rfl dX1_addVariety_17 ?_
    refine j_iload_n E 2 rfl dX1_addVariety_18 ?_
    obtain ⟨g1, hf⟩ := gd_e hf
    obtain ⟨X1, hX1, hf⟩ := bnd_e hf
    refine j_iast E (okb13 hj) (fun _ => ent13) g1 ((X 11 j 0 4).toNatClampNeg) rfl hX1 dX1_addVariety_19 ?_
    refine j_aload_n E 1 rfl dX1_addVariety_20 ?_
    refine j_dup E rfl dX1_addVariety_21 ?_
    refine j_get (f := 4) E (okb11 hj) cf_X1 fl_X1_31 (lt_ rfl) rfl ent11 rfl dX1_addVariety_22 ?_
    refine j_iconst E 1 ic_1 dX1_addVariety_25 ?_
    refine j_iadd E dX1_addVariety_26 ?_
    obtain ⟨X2, hX2, hf⟩ := bnd_e hf
    refine j_put (f := 4) E (okb11 hj) cf_X1 fl_X1_31 (lt_ rfl) ⟨rfl, rfl⟩ (fit_i _) ent11 pe11_4 (lt_ rfl) hX2 dX1_addVariety_27 ?_
    refine j_iconst E 0 ic_0 dX1_addVariety_30 ?_
    refine j_istore_n (ls' := [(3, .int 0), (2, .int (X 11 j 0 4)), (0, .ref (z + aX 11 j 0)), (1, .int v1)]) E (lt_ rfl) rfl dX1_addVariety_31 ?_
    refine j_sub [2, 1, 0] rfl ?_
    exact b_X1_addVariety_32 hj E 2000 _ _ hf
def f_X9_makeEmpty (X : XT) (j i : Nat) : Option XT :=
  bnd (xs X 26 j i 1 0) (fun X1 => bnd (xs X1 26 j i 2 (-1)) (fun X2 => bnd (xs X2 26 j i 3 0) (fun X3 => some X3)))
set_option maxRecDepth 20000 in
theorem c_X9_makeEmpty {l : Launch} {D : DD} {z : Nat} {Y : YT} {X : XT} {j i : Nat} (hj : j < 10) (hi : i < 5) {X' : XT} (hf : f_X9_makeEmpty X j i = some X') : CC l yX9_makeEmpty cX9_makeEmpty 1 none (rmk 1 0 0) D z [.ref (z + aX 26 j i)] (GG D z (X, Y)) none (GG D z (X', Y)) := by
  unfold f_X9_makeEmpty at hf
  refine cc_of pn_X9 (le_ rfl) (ls := [(0, .ref (z + aX 26 j i))]) rfl ?_
  intro p e s m args below meth c E
  refine j_aload_n E 0 rfl dX9_makeEmpty_0 ?_
  refine j_iconst E 0 ic_0 dX9_makeEmpty_1 ?_
  obtain ⟨X1, hX1, hf⟩ := bnd_e hf
  refine j_put (f := 1) E (okb26 hj hi) cf_X9 fl_X9_18 (lt_ rfl) ⟨rfl, rfl⟩ (fit_i _) ent26 pe26_1 (lt_ rfl) hX1 dX9_makeEmpty_2 ?_
  refine j_aload_n E 0 rfl dX9_makeEmpty_5 ?_
  refine j_iconst E (-1) ic_m1 dX9_makeEmpty_6 ?_
  obtain ⟨X2, hX2, hf⟩ := bnd_e hf
  refine j_put (f := 2) E (okb26 hj hi) cf_X9 fl_X9_9 (lt_ rfl) ⟨rfl, rfl⟩ (fit_i _) ent26 pe26_2 (lt_ rfl) hX2 dX9_makeEmpty_7 ?_
  refine j_aload_n E 0 rfl dX9_makeEmpty_10 ?_
  refine j_iconst E 0 ic_0 dX9_makeEmpty_11 ?_
  obtain ⟨X3, hX3, hf⟩ := bnd_e hf
  refine j_put (f := 3) E (okb26 hj hi) cf_X9 fl_X9_21 (lt_ rfl) ⟨rfl, rfl⟩ (fit_i _) ent26 pe26_3 (lt_ rfl) hX3 dX9_makeEmpty_12 ?_
  cases hf
  exact j_vret E (le_ rfl) (le_ rfl) dX9_makeEmpty_15
def f_X2_addTank (X : XT) (j : Nat) (v1 : Int32) : Option XT :=
  if 5 ≤ (X 23 j 0 2) then (some X) else (gd (¬ ((X 23 j 0 2) < 0 ∨ 5 ≤ (X 23 j 0 2).toNatClampNeg)) (bn1 (f_X9_makeEmpty X j ((X 23 j 0 2).toNatClampNeg)) (fun X1 => gd (¬ ((X1 23 j 0 2) < 0 ∨ 5 ≤ (X1 23 j 0 2).toNatClampNeg)) (bnd (xs X1 26 j (X1 23 j 0 2).toNatClampNeg 0 v1) (fun X2 => bnd (xs X2 23 j 0 2 ((X2 23 j 0 2) + 1)) (fun X3 => some X3))))))
set_option maxRecDepth 20000 in
theorem c_X2_addTank {l : Launch} {D : DD} {z : Nat} {Y : YT} {X : XT} {j : Nat} (hj : j < 10) {v1 : Int32} {X' : XT} (hf : f_X2_addTank X j v1 = some X') : CC l yX2_addTank cX2_addTank 2 none (rmk 2 0 0) D z [.ref (z + aX 23 j 0), .int v1] (GG D z (X, Y)) none (GG D z (X', Y)) := by
  unfold f_X2_addTank at hf
  refine cc_of pn_X2 (le_ rfl) (ls := [(0, .ref (z + aX 23 j 0)), (1, .int v1)]) rfl ?_
  intro p e s m args below meth c E
  refine j_aload_n E 0 rfl dX2_addTank_0 ?_
  refine j_get (f := 2) E (okb23 hj) cf_X2 fl_X2_32 (lt_ rfl) rfl ent23 rfl dX2_addTank_1 ?_
  refine j_iconst E 5 ic_5 dX2_addTank_4 ?_
  refine j_icmp_ge E 43 (by decide) dX2_addTank_5 (fun c1 => ?_) (fun c1 => ?_)
  · rw [if_pos c1] at hf
    cases hf
    exact j_vret E (le_ rfl) (le_ rfl) dX2_addTank_43
  · rw [if_neg c1] at hf
    refine j_aload_n E 0 rfl dX2_addTank_8 ?_
    refine j_get (f := 0) E (okb23 hj) cf_X2 fl_X2_11 (lt_ rfl) rfl ent23 rfl dX2_addTank_9 ?_
    refine j_aload_n E 0 rfl dX2_addTank_12 ?_
    refine j_get (f := 2) E (okb23 hj) cf_X2 fl_X2_32 (lt_ rfl) rfl ent23 rfl dX2_addTank_13 ?_
    obtain ⟨g1, hf⟩ := gd_e hf
    refine j_aald (t := 5) E (okb24 hj) ent24 rfl g1 dX2_addTank_16 ?_
    obtain ⟨X1, h1, hf⟩ := bn1_e hf
    refine j_invV [] [] E (c_X9_makeEmpty hj (in_cl g1) h1) ml_X2_39 mv_X9_makeEmpty rfl ⟨le_ rfl, le_ rfl⟩ (rcX (okb26 hj (in_cl g1)) cf_X9 ent26) rfl rfl (le_ rfl) ⟨le_ rfl, le_ rfl⟩ dX2_addTank_17 ?_
    refine j_aload_n E 0 rfl dX2_addTank_20 ?_
    refine j_get (f := 0) E (okb23 hj) cf_X2 fl_X2_11 (lt_ rfl) rfl ent23 rfl dX2_addTank_21 ?_
    refine j_aload_n E 0 rfl dX2_addTank_24 ?_
    refine j_get (f := 2) E (okb23 hj) cf_X2 fl_X2_32 (lt_ rfl) rfl ent23 rfl dX2_addTank_25 ?_
    obtain ⟨g2, hf⟩ := gd_e hf
    refine j_aald (t := 5) E (okb24 hj) ent24 rfl g2 dX2_addTank_28 ?_
    refine j_iload_n E 1 rfl dX2_addTank_29 ?_
    obtain ⟨X2, hX2, hf⟩ := bnd_e hf
    refine j_putN (f := 0) E (okb26 hj (in_cl g2)) cf_X9 fl_X2_42 (lt_ rfl) ⟨rfl, rfl⟩ (fit_i _) ent26 pe26_0 (lt_ rfl) hX2 dX2_addTank_30 ?_
    refine j_aload_n E 0 rfl dX2_addTank_33 ?_
    refine j_dup E rfl dX2_addTank_34 ?_
    refine j_get (f := 2) E (okb23 hj) cf_X2 fl_X2_32 (lt_ rfl) rfl ent23 rfl dX2_addTank_35 ?_
    refine j_iconst E 1 ic_1 dX2_addTank_38 ?_
    refine j_iadd E dX2_addTank_39 ?_
    obtain ⟨X3, hX3, hf⟩ := bnd_e hf
    refine j_put (f := 2) E (okb23 hj) cf_X2 fl_X2_32 (lt_ rfl) ⟨rfl, rfl⟩ (fit_i _) ent23 pe23_2 (lt_ rfl) hX3 dX2_addTank_40 ?_
    cases hf
    exact j_vret E (le_ rfl) (le_ rfl) dX2_addTank_43
def f_X9_takes (X : XT) (j i : Nat) (v1 : Int32) : Option Int32 :=
  if (X 26 j i 1) = 0 then (some 1) else (if (X 26 j i 2) = v1 then (some 1) else (some 0))
set_option maxRecDepth 20000 in
theorem c_X9_takes {l : Launch} {D : DD} {z : Nat} {Y : YT} {X : XT} {j i : Nat} (hj : j < 10) (hi : i < 5) {v1 : Int32} {r : Int32} (hf : f_X9_takes X j i v1 = some r) : CC l yX9_takes cX9_takes 2 (some .boolean) (rmk 1 0 0) D z [.ref (z + aX 26 j i), .int v1] (GG D z (X, Y)) (some (.int r)) (GG D z (X, Y)) := by
  unfold f_X9_takes at hf
  refine cc_of pn_X9 (le_ rfl) (ls := [(0, .ref (z + aX 26 j i)), (1, .int v1)]) rfl ?_
  intro p e s m args below meth c E
  refine j_aload_n E 0 rfl dX9_takes_0 ?_
  refine j_get (f := 1) E (okb26 hj hi) cf_X9 fl_X9_18 (lt_ rfl) rfl ent26 rfl dX9_takes_1 ?_
  refine j_if_eq E 15 (by decide) dX9_takes_4 (fun c1 => ?_) (fun c1 => ?_)
  · rw [if_pos c1] at hf
    refine j_iconst E 1 ic_1 dX9_takes_15 ?_
    refine j_goto E 20 (by decide) dX9_takes_16 ?_
    cases hf
    exact j_iret E rfl (le_ rfl) (le_ rfl) dX9_takes_20
  · rw [if_neg c1] at hf
    refine j_aload_n E 0 rfl dX9_takes_7 ?_
    refine j_get (f := 2) E (okb26 hj hi) cf_X9 fl_X9_9 (lt_ rfl) rfl ent26 rfl dX9_takes_8 ?_
    refine j_iload_n E 1 rfl dX9_takes_11 ?_
    refine j_icmp_ne E 19 (by decide) dX9_takes_12 (fun c2 => ?_) (fun c2 => ?_)
    · rw [if_neg c2] at hf
      refine j_iconst E 0 ic_0 dX9_takes_19 ?_
      cases hf
      exact j_iret E rfl (le_ rfl) (le_ rfl) dX9_takes_20
    · rw [if_pos c2] at hf
      refine j_iconst E 1 ic_1 dX9_takes_15 ?_
      refine j_goto E 20 (by decide) dX9_takes_16 ?_
      cases hf
      exact j_iret E rfl (le_ rfl) (le_ rfl) dX9_takes_20
def f_X2_greatestWeightFor_4 (X : XT) (j : Nat) (v1 : Int32) : Nat → Int32 → Int32 → Option Int32
  | 0, _, _ => none
  | n + 1, v2, v3 => if (X 23 j 0 2) ≤ v3 then (some (if 5000 < v2 then 5000 else v2)) else (gd (¬ (v3 < 0 ∨ 5 ≤ v3.toNatClampNeg)) (bn1 (f_X9_takes X j (v3.toNatClampNeg) v1) (fun r1 => if r1 = 0 then (f_X2_greatestWeightFor_4 X j v1 n v2 (v3 + 1)) else (gd (¬ (v3 < 0 ∨ 5 ≤ v3.toNatClampNeg)) (bn1 (f_X9_room X j (v3.toNatClampNeg)) (fun r2 => bnd (if v2 < r2 then r2 else v2) (fun x1 => f_X2_greatestWeightFor_4 X j v1 n x1 (v3 + 1))))))))
def f_X2_greatestWeightFor (X : XT) (j : Nat) (v1 : Int32) : Option Int32 :=
  f_X2_greatestWeightFor_4 X j v1 2000 0 0
set_option maxRecDepth 20000 in
theorem b_X2_greatestWeightFor_4 {p : Program} {l : Launch} {e : Env} {s : State} {m : MethodId} {args : Array Value} {below : List Frame} {meth : Method} {c : Code} {D : DD} {z : Nat} {Y : YT} {X : XT} {j : Nat} (hj : j < 10) {v1 : Int32} (E : Cx p s m args meth c D z RX2 cX2_greatestWeightFor 4 (some .int)) {r : Int32} : ∀ (n : Nat) (v2 : Int32) (v3 : Int32) (hf : f_X2_greatestWeightFor_4 X j v1 n v2 v3 = some r), J p l e (rmk 2 0 0) s m args below meth c D z (GG D z (X, Y)) 0 0 (MQ below (QC z (some (.int r)) (GG D z (X, Y))) args s (rmk 2 0 0).cells (rmk 2 0 0).slots (Az z)) 4 4 [(0, .ref (z + aX 23 j 0)), (1, .int v1), (2, .int v2), (3, .int v3)] [] := by
  intro n
  induction n with
  | zero =>
    intro v2 v3 hf
    exact none_e hf
  | succ n ih =>
    intro v2 v3 hf
    rw [f_X2_greatestWeightFor_4] at hf
    refine j_iload_n E 3 rfl dX2_greatestWeightFor_4 ?_
    refine j_aload_n E 0 rfl dX2_greatestWeightFor_5 ?_
    refine j_get (f := 2) E (okb23 hj) cf_X2 fl_X2_32 (lt_ rfl) rfl ent23 rfl dX2_greatestWeightFor_6 ?_
    refine j_icmp_ge E 45 (by decide) dX2_greatestWeightFor_9 (fun c1 => ?_) (fun c1 => ?_)
    · rw [if_pos c1] at hf
      refine j_iload_n E 2 rfl dX2_greatestWeightFor_45 ?_
      refine j_sipush E 5000 sp_5000 dX2_greatestWeightFor_46 ?_
      refine j_min [] E ml_X2_65 st_Lib_Math_min_name in_J9 cd_Lib_Math_min_name (le_ rfl) (le_ rfl) (le_ rfl) (le_ rfl) dX2_greatestWeightFor_49 ?_
      cases hf
      exact j_iret E rfl (le_ rfl) (le_ rfl) dX2_greatestWeightFor_52
    · rw [if_neg c1] at hf
      refine j_aload_n E 0 rfl dX2_greatestWeightFor_12 ?_
      refine j_get (f := 0) E (okb23 hj) cf_X2 fl_X2_11 (lt_ rfl) rfl ent23 rfl dX2_greatestWeightFor_13 ?_
      refine j_iload_n E 3 rfl dX2_greatestWeightFor_16 ?_
      obtain ⟨g1, hf⟩ := gd_e hf
      refine j_aald (t := 5) E (okb24 hj) ent24 rfl g1 dX2_greatestWeightFor_17 ?_
      refine j_iload_n E 1 rfl dX2_greatestWeightFor_18 ?_
      obtain ⟨r1, h1, hf⟩ := bn1_e hf
      refine j_invV [] [.int r1] E (c_X9_takes hj (in_cl g1) h1) ml_X2_56 mv_X9_takes rfl ⟨le_ rfl, le_ rfl⟩ (rcX (okb26 hj (in_cl g1)) cf_X9 ent26) rfl rfl (le_ rfl) ⟨le_ rfl, le_ rfl⟩ dX2_greatestWeightFor_19 ?_
      refine j_if_eq E 39 (by decide) dX2_greatestWeightFor_22 (fun c2 => ?_) (fun c2 => ?_)
      · rw [if_pos c2] at hf
        refine j_iinc (ls' := [(3, .int (v3 + 1)), (0, .ref (z + aX 23 j 0)), (1, .int v1), (2, .int v2)]) E 3 rfl (lt_ rfl) (v3 + 1) (congrArg (fun q => v3 + q) ic_1) rfl dX2_greatestWeightFor_39 ?_
        refine j_goto E 4 (by decide) dX2_greatestWeightFor_42 ?_
        refine j_sub [1, 2, 3, 0] rfl ?_
        exact ih _ _ hf
      · rw [if_neg c2] at hf
        refine j_iload_n E 2 rfl dX2_greatestWeightFor_25 ?_
        refine j_aload_n E 0 rfl dX2_greatestWeightFor_26 ?_
        refine j_get (f := 0) E (okb23 hj) cf_X2 fl_X2_11 (lt_ rfl) rfl ent23 rfl dX2_greatestWeightFor_27 ?_
        refine j_iload_n E 3 rfl dX2_greatestWeightFor_30 ?_
        obtain ⟨g2, hf⟩ := gd_e hf
        refine j_aald (t := 5) E (okb24 hj) ent24 rfl g2 dX2_greatestWeightFor_31 ?_
        obtain ⟨r2, h2, hf⟩ := bn1_e hf
        refine j_invV [.int v2] [.int r2, .int v2] E (c_X9_room hj (in_cl g2) h2) ml_X2_45 mv_X9_room rfl ⟨le_ rfl, le_ rfl⟩ (rcX (okb26 hj (in_cl g2)) cf_X9 ent26) rfl rfl (le_ rfl) ⟨le_ rfl, le_ rfl⟩ dX2_greatestWeightFor_32 ?_
        refine j_max [] E ml_X2_59 st_Lib_Math_max_name in_J9 cd_Lib_Math_max_name (le_ rfl) (le_ rfl) (le_ rfl) (le_ rfl) dX2_greatestWeightFor_35 ?_
        obtain ⟨x1, hx1, hf⟩ := bnd_e hf
        refine j_name hx1 ?_
        refine j_istore_n (ls' := [(2, .int x1), (0, .ref (z + aX 23 j 0)), (1, .int v1), (3, .int v3)]) E (lt_ rfl) rfl dX2_greatestWeightFor_38 ?_
        refine j_iinc (ls' := [(3, .int (v3 + 1)), (2, .int x1), (0, .ref (z + aX 23 j 0)), (1, .int v1)]) E 3 rfl (lt_ rfl) (v3 + 1) (congrArg (fun q => v3 + q) ic_1) rfl dX2_greatestWeightFor_39 ?_
        refine j_goto E 4 (by decide) dX2_greatestWeightFor_42 ?_
        refine j_sub [2, 3, 1, 0] rfl ?_
        exact ih _ _ hf
set_option maxRecDepth 20000 in
theorem c_X2_greatestWeightFor {l : Launch} {D : DD} {z : Nat} {Y : YT} {X : XT} {j : Nat} (hj : j < 10) {v1 : Int32} {r : Int32} (hf : f_X2_greatestWeightFor X j v1 = some r) : CC l yX2_greatestWeightFor cX2_greatestWeightFor 4 (some .int) (rmk 2 0 0) D z [.ref (z + aX 23 j 0), .int v1] (GG D z (X, Y)) (some (.int r)) (GG D z (X, Y)) := by
  unfold f_X2_greatestWeightFor at hf
  refine cc_of pn_X2 (le_ rfl) (ls := [(0, .ref (z + aX 23 j 0)), (1, .int v1)]) rfl ?_
  intro p e s m args below meth c E
  refine j_iconst E 0 ic_0 dX2_greatestWeightFor_0 ?_
  refine j_istore_n (ls' := [(2, .int 0), (0, .ref (z + aX 23 j 0)), (1, .int v1)]) E (lt_ rfl) rfl dX2_greatestWeightFor_1 ?_
  refine j_iconst E 0 ic_0 dX2_greatestWeightFor_2 ?_
  refine j_istore_n (ls' := [(3, .int 0), (2, .int 0), (0, .ref (z + aX 23 j 0)), (1, .int v1)]) E (lt_ rfl) rfl dX2_greatestWeightFor_3 ?_
  refine j_sub [2, 3, 1, 0] rfl ?_
  exact b_X2_greatestWeightFor_4 hj E 2000 _ _ hf
def f_X2_canFillLot (X : XT) (j j1 i1 : Nat) (v2 : Int32) : Option Int32 :=
  if (X 26 j1 i1 1) < v2 then (some 0) else (if 12 ≤ (X 23 j 0 3) then (some 0) else (some 1))
set_option maxRecDepth 20000 in
theorem c_X2_canFillLot {l : Launch} {D : DD} {z : Nat} {Y : YT} {X : XT} {j j1 i1 : Nat} (hj : j < 10) (hj1 : j1 < 10) (hi1 : i1 < 5) {v2 : Int32} {r : Int32} (hf : f_X2_canFillLot X j j1 i1 v2 = some r) : CC l yX2_canFillLot cX2_canFillLot 3 (some .boolean) (rmk 1 0 0) D z [.ref (z + aX 23 j 0), .ref (z + aX 26 j1 i1), .int v2] (GG D z (X, Y)) (some (.int r)) (GG D z (X, Y)) := by
  unfold f_X2_canFillLot at hf
  refine cc_of pn_X2 (le_ rfl) (ls := [(0, .ref (z + aX 23 j 0)), (1, .ref (z + aX 26 j1 i1)), (2, .int v2)]) rfl ?_
  intro p e s m args below meth c E
  refine j_iload_n E 2 rfl dX2_canFillLot_0 ?_
  refine j_aload_n E 1 rfl dX2_canFillLot_1 ?_
  refine j_getN (f := 1) E (okb26 hj1 hi1) cf_X9 fl_X2_53 (lt_ rfl) rfl ent26 rfl dX2_canFillLot_2 ?_
  refine j_icmp_gt E 21 (by decide) dX2_canFillLot_5 (fun c1 => ?_) (fun c1 => ?_)
  · rw [if_pos c1] at hf
    refine j_iconst E 0 ic_0 dX2_canFillLot_21 ?_
    cases hf
    exact j_iret E rfl (le_ rfl) (le_ rfl) dX2_canFillLot_22
  · rw [if_neg c1] at hf
    refine j_aload_n E 0 rfl dX2_canFillLot_8 ?_
    refine j_get (f := 3) E (okb23 hj) cf_X2 fl_X2_36 (lt_ rfl) rfl ent23 rfl dX2_canFillLot_9 ?_
    refine j_bipush E 12 bp_12 dX2_canFillLot_12 ?_
    refine j_icmp_ge E 21 (by decide) dX2_canFillLot_14 (fun c2 => ?_) (fun c2 => ?_)
    · rw [if_pos c2] at hf
      refine j_iconst E 0 ic_0 dX2_canFillLot_21 ?_
      cases hf
      exact j_iret E rfl (le_ rfl) (le_ rfl) dX2_canFillLot_22
    · rw [if_neg c2] at hf
      refine j_iconst E 1 ic_1 dX2_canFillLot_17 ?_
      refine j_goto E 22 (by decide) dX2_canFillLot_18 ?_
      cases hf
      exact j_iret E rfl (le_ rfl) (le_ rfl) dX2_canFillLot_22
def f_X9_mean (X : XT) (j i : Nat) : Option Int32 :=
  if (X 26 j i 1) ≤ 0 then (some 0) else (gd (¬ (X 26 j i 1) = 0) (some ((X 26 j i 3) / (X 26 j i 1))))
set_option maxRecDepth 20000 in
theorem c_X9_mean {l : Launch} {D : DD} {z : Nat} {Y : YT} {X : XT} {j i : Nat} (hj : j < 10) (hi : i < 5) {r : Int32} (hf : f_X9_mean X j i = some r) : CC l yX9_mean cX9_mean 1 (some .int) (rmk 1 0 0) D z [.ref (z + aX 26 j i)] (GG D z (X, Y)) (some (.int r)) (GG D z (X, Y)) := by
  unfold f_X9_mean at hf
  refine cc_of pn_X9 (le_ rfl) (ls := [(0, .ref (z + aX 26 j i))]) rfl ?_
  intro p e s m args below meth c E
  refine j_aload_n E 0 rfl dX9_mean_0 ?_
  refine j_get (f := 1) E (okb26 hj hi) cf_X9 fl_X9_18 (lt_ rfl) rfl ent26 rfl dX9_mean_1 ?_
  refine j_if_le E 19 (by decide) dX9_mean_4 (fun c1 => ?_) (fun c1 => ?_)
  · rw [if_pos c1] at hf
    refine j_iconst E 0 ic_0 dX9_mean_19 ?_
    cases hf
    exact j_iret E rfl (le_ rfl) (le_ rfl) dX9_mean_20
  · rw [if_neg c1] at hf
    refine j_aload_n E 0 rfl dX9_mean_7 ?_
    refine j_get (f := 3) E (okb26 hj hi) cf_X9 fl_X9_21 (lt_ rfl) rfl ent26 rfl dX9_mean_8 ?_
    refine j_aload_n E 0 rfl dX9_mean_11 ?_
    refine j_get (f := 1) E (okb26 hj hi) cf_X9 fl_X9_18 (lt_ rfl) rfl ent26 rfl dX9_mean_12 ?_
    obtain ⟨g1, hf⟩ := gd_e hf
    refine j_idiv E g1 dX9_mean_15 ?_
    refine j_goto E 20 (by decide) dX9_mean_16 ?_
    cases hf
    exact j_iret E rfl (le_ rfl) (le_ rfl) dX9_mean_20
def f_X9_draw (X : XT) (j i : Nat) (v1 : Int32) : Option XT :=
  bn1 (f_X9_mean X j i) (fun r1 => bnd (xs X 26 j i 3 ((X 26 j i 3) - (v1 * r1))) (fun X1 => bnd (xs X1 26 j i 1 ((X1 26 j i 1) - v1)) (fun X2 => if (X2 26 j i 1) = 0 then (bn1 (f_X9_makeEmpty X2 j i) (fun X3 => some X3)) else (some X2))))
set_option maxRecDepth 20000 in
theorem c_X9_draw {l : Launch} {D : DD} {z : Nat} {Y : YT} {X : XT} {j i : Nat} (hj : j < 10) (hi : i < 5) {v1 : Int32} {X' : XT} (hf : f_X9_draw X j i v1 = some X') : CC l yX9_draw cX9_draw 2 none (rmk 2 0 0) D z [.ref (z + aX 26 j i), .int v1] (GG D z (X, Y)) none (GG D z (X', Y)) := by
  unfold f_X9_draw at hf
  refine cc_of pn_X9 (le_ rfl) (ls := [(0, .ref (z + aX 26 j i)), (1, .int v1)]) rfl ?_
  intro p e s m args below meth c E
  refine j_aload_n E 0 rfl dX9_draw_0 ?_
  refine j_dup E rfl dX9_draw_1 ?_
  refine j_get (f := 3) E (okb26 hj hi) cf_X9 fl_X9_21 (lt_ rfl) rfl ent26 rfl dX9_draw_2 ?_
  refine j_iload_n E 1 rfl dX9_draw_5 ?_
  refine j_aload_n E 0 rfl dX9_draw_6 ?_
  obtain ⟨r1, h1, hf⟩ := bn1_e hf
  refine j_invV [.int v1, .int (X 26 j i 3), .ref (z + aX 26 j i)] [.int r1, .int v1, .int (X 26 j i 3), .ref (z + aX 26 j i)] E (c_X9_mean hj hi h1) ml_X9_24 mv_X9_mean rfl ⟨le_ rfl, le_ rfl⟩ (rcX (okb26 hj hi) cf_X9 ent26) rfl rfl (le_ rfl) ⟨le_ rfl, le_ rfl⟩ dX9_draw_7 ?_
  refine j_imul E dX9_draw_10 ?_
  refine j_isub E dX9_draw_11 ?_
  obtain ⟨X1, hX1, hf⟩ := bnd_e hf
  refine j_put (f := 3) E (okb26 hj hi) cf_X9 fl_X9_21 (lt_ rfl) ⟨rfl, rfl⟩ (fit_i _) ent26 pe26_3 (lt_ rfl) hX1 dX9_draw_12 ?_
  refine j_aload_n E 0 rfl dX9_draw_15 ?_
  refine j_dup E rfl dX9_draw_16 ?_
  refine j_get (f := 1) E (okb26 hj hi) cf_X9 fl_X9_18 (lt_ rfl) rfl ent26 rfl dX9_draw_17 ?_
  refine j_iload_n E 1 rfl dX9_draw_20 ?_
  refine j_isub E dX9_draw_21 ?_
  obtain ⟨X2, hX2, hf⟩ := bnd_e hf
  refine j_put (f := 1) E (okb26 hj hi) cf_X9 fl_X9_18 (lt_ rfl) ⟨rfl, rfl⟩ (fit_i _) ent26 pe26_1 (lt_ rfl) hX2 dX9_draw_22 ?_
  refine j_aload_n E 0 rfl dX9_draw_25 ?_
  refine j_get (f := 1) E (okb26 hj hi) cf_X9 fl_X9_18 (lt_ rfl) rfl ent26 rfl dX9_draw_26 ?_
  refine j_if_ne E 36 (by decide) dX9_draw_29 (fun c1 => ?_) (fun c1 => ?_)
  · rw [if_neg c1] at hf
    cases hf
    exact j_vret E (le_ rfl) (le_ rfl) dX9_draw_36
  · rw [if_pos c1] at hf
    refine j_aload_n E 0 rfl dX9_draw_32 ?_
    obtain ⟨X3, h2, hf⟩ := bn1_e hf
    refine j_invV [] [] E (c_X9_makeEmpty hj hi h2) ml_X9_28 mv_X9_makeEmpty rfl ⟨le_ rfl, le_ rfl⟩ (rcX (okb26 hj hi) cf_X9 ent26) rfl rfl (le_ rfl) ⟨le_ rfl, le_ rfl⟩ dX9_draw_33 ?_
    cases hf
    exact j_vret E (le_ rfl) (le_ rfl) dX9_draw_36
def f_X2_fillLot (X : XT) (j j1 i1 : Nat) (v2 : Int32) : Option (Int32 × XT) :=
  if (X 23 j 0 3) < 12 then (gd (¬ ((X 23 j 0 3) < 0 ∨ 12 ≤ (X 23 j 0 3).toNatClampNeg)) (bnd (xs X 27 j (X 23 j 0 3).toNatClampNeg 0 (X 26 j1 i1 2)) (fun X1 => bn1 (f_X9_mean X1 j1 i1) (fun r1 => bnd (xs X1 27 j (X 23 j 0 3).toNatClampNeg 1 r1) (fun X2 => bnd (xs X2 27 j (X 23 j 0 3).toNatClampNeg 2 v2) (fun X3 => bnd (xs X3 27 j (X 23 j 0 3).toNatClampNeg 3 v2) (fun X4 => bn1 (f_X9_draw X4 j1 i1 v2) (fun X5 => bnd (xs X5 23 j 0 3 ((X5 23 j 0 3) + 1)) (fun X6 => some (((X6 23 j 0 3) - 1), X6)))))))))) else (some ((-1), X))
set_option maxRecDepth 20000 in
theorem c_X2_fillLot {l : Launch} {D : DD} {z : Nat} {Y : YT} {X : XT} {j j1 i1 : Nat} (hj : j < 10) (hj1 : j1 < 10) (hi1 : i1 < 5) {v2 : Int32} {r : Int32} {X' : XT} (hf : f_X2_fillLot X j j1 i1 v2 = some (r, X')) : CC l yX2_fillLot cX2_fillLot 4 (some .int) (rmk 3 0 0) D z [.ref (z + aX 23 j 0), .ref (z + aX 26 j1 i1), .int v2] (GG D z (X, Y)) (some (.int r)) (GG D z (X', Y)) := by
  unfold f_X2_fillLot at hf
  refine cc_of pn_X2 (le_ rfl) (ls := [(0, .ref (z + aX 23 j 0)), (1, .ref (z + aX 26 j1 i1)), (2, .int v2)]) rfl ?_
  intro p e s m args below meth c E
  refine j_aload_n E 0 rfl dX2_fillLot_0 ?_
  refine j_get (f := 3) E (okb23 hj) cf_X2 fl_X2_36 (lt_ rfl) rfl ent23 rfl dX2_fillLot_1 ?_
  refine j_bipush E 12 bp_12 dX2_fillLot_4 ?_
  refine j_icmp_lt E 11 (by decide) dX2_fillLot_6 (fun c1 => ?_) (fun c1 => ?_)
  · rw [if_pos c1] at hf
    refine j_aload_n E 0 rfl dX2_fillLot_11 ?_
    refine j_get (f := 1) E (okb23 hj) cf_X2 fl_X2_19 (lt_ rfl) rfl ent23 rfl dX2_fillLot_12 ?_
    refine j_aload_n E 0 rfl dX2_fillLot_15 ?_
    refine j_get (f := 3) E (okb23 hj) cf_X2 fl_X2_36 (lt_ rfl) rfl ent23 rfl dX2_fillLot_16 ?_
    obtain ⟨g1, hf⟩ := gd_e hf
    refine j_aald (t := 6) E (okb25 hj) ent25 rfl g1 dX2_fillLot_19 ?_
    refine j_astore_n (ls' := [(3, .ref (z + aX 27 j (X 23 j 0 3).toNatClampNeg)), (0, .ref (z + aX 23 j 0)), (1, .ref (z + aX 26 j1 i1)), (2, .int v2)]) E (lt_ rfl) rfl dX2_fillLot_20 ?_
    refine j_aload_n E 0 rfl dX2_fillLot_21 ?_
    refine j_aload_n E 2 rfl dX2_fillLot_22 ?_
    refine j_getN (f := 2) E (okb26 hj1 hi1) cf_X9 fl_X2_68 (lt_ rfl) rfl ent26 rfl dX2_fillLot_23 ?_
    obtain ⟨X1, hX1, hf⟩ := bnd_e hf
    refine j_putN (f := 0) E (okb27 hj (in_cl g1)) cf_X7 fl_X2_71 (lt_ rfl) ⟨rfl, rfl⟩ (fit_i _) ent27 pe27_0 (lt_ rfl) hX1 dX2_fillLot_26 ?_
    refine j_aload_n E 0 rfl dX2_fillLot_29 ?_
    refine j_aload_n E 2 rfl dX2_fillLot_30 ?_
    obtain ⟨r1, h1, hf⟩ := bn1_e hf
    refine j_invV [.ref (z + aX 27 j (X 23 j 0 3).toNatClampNeg)] [.int r1, .ref (z + aX 27 j (X 23 j 0 3).toNatClampNeg)] E (c_X9_mean hj1 hi1 h1) ml_X2_72 mv_X9_mean rfl ⟨le_ rfl, le_ rfl⟩ (rcX (okb26 hj1 hi1) cf_X9 ent26) rfl rfl (le_ rfl) ⟨le_ rfl, le_ rfl⟩ dX2_fillLot_31 ?_
    obtain ⟨X2, hX2, hf⟩ := bnd_e hf
    refine j_putN (f := 1) E (okb27 hj (in_cl g1)) cf_X7 fl_X2_75 (lt_ rfl) ⟨rfl, rfl⟩ (fit_i _) ent27 pe27_1 (lt_ rfl) hX2 dX2_fillLot_34 ?_
    refine j_aload_n E 0 rfl dX2_fillLot_37 ?_
    refine j_iload_n E 3 rfl dX2_fillLot_38 ?_
    obtain ⟨X3, hX3, hf⟩ := bnd_e hf
    refine j_putN (f := 2) E (okb27 hj (in_cl g1)) cf_X7 fl_X2_78 (lt_ rfl) ⟨rfl, rfl⟩ (fit_i _) ent27 pe27_2 (lt_ rfl) hX3 dX2_fillLot_39 ?_
    refine j_aload_n E 0 rfl dX2_fillLot_42 ?_
    refine j_iload_n E 3 rfl dX2_fillLot_43 ?_
    obtain ⟨X4, hX4, hf⟩ := bnd_e hf
    refine j_putN (f := 3) E (okb27 hj (in_cl g1)) cf_X7 fl_X2_81 (lt_ rfl) ⟨rfl, rfl⟩ (fit_i _) ent27 pe27_3 (lt_ rfl) hX4 dX2_fillLot_44 ?_
    refine j_aload_n E 2 rfl dX2_fillLot_47 ?_
    refine j_iload_n E 3 rfl dX2_fillLot_48 ?_
    obtain ⟨X5, h2, hf⟩ := bn1_e hf
    refine j_invV [] [] E (c_X9_draw hj1 hi1 h2) ml_X2_84 mv_X9_draw rfl ⟨le_ rfl, le_ rfl⟩ (rcX (okb26 hj1 hi1) cf_X9 ent26) rfl rfl (le_ rfl) ⟨le_ rfl, le_ rfl⟩ dX2_fillLot_49 ?_
    refine j_aload_n E 1 rfl dX2_fillLot_52 ?_
    refine j_dup E rfl dX2_fillLot_53 ?_
    refine j_get (f := 3) E (okb23 hj) cf_X2 fl_X2_36 (lt_ rfl) rfl ent23 rfl dX2_fillLot_54 ?_
    refine j_iconst E 1 ic_1 dX2_fillLot_57 ?_
    refine j_iadd E dX2_fillLot_58 ?_
    obtain ⟨X6, hX6, hf⟩ := bnd_e hf
    refine j_put (f := 3) E (okb23 hj) cf_X2 fl_X2_36 (lt_ rfl) ⟨rfl, rfl⟩ (fit_i _) ent23 pe23_3 (lt_ rfl) hX6 dX2_fillLot_59 ?_
    refine j_aload_n E 1 rfl dX2_fillLot_62 ?_
    refine j_get (f := 3) E (okb23 hj) cf_X2 fl_X2_36 (lt_ rfl) rfl ent23 rfl dX2_fillLot_63 ?_
    refine j_iconst E 1 ic_1 dX2_fillLot_66 ?_
    refine j_isub E dX2_fillLot_67 ?_
    cases hf
    exact j_iret E rfl (le_ rfl) (le_ rfl) dX2_fillLot_68
  · rw [if_neg c1] at hf
    refine j_iconst E (-1) ic_m1 dX2_fillLot_9 ?_
    cases hf
    exact j_iret E rfl (le_ rfl) (le_ rfl) dX2_fillLot_10
def f_X2_sweetestUnsold_6 (X : XT) (j : Nat) : Nat → Int32 → Int32 → Int32 → Option Int32
  | 0, _, _, _ => none
  | n + 1, v1, v2, v3 => if (X 23 j 0 3) ≤ v3 then (some v1) else (gd (¬ (v3 < 0 ∨ 12 ≤ v3.toNatClampNeg)) (if (X 27 j v3.toNatClampNeg 3) ≤ 0 then (f_X2_sweetestUnsold_6 X j n v1 v2 (v3 + 1)) else (gd (¬ (v3 < 0 ∨ 12 ≤ v3.toNatClampNeg)) (if (X 27 j v3.toNatClampNeg 1) ≤ v2 then (f_X2_sweetestUnsold_6 X j n v1 v2 (v3 + 1)) else (gd (¬ (v3 < 0 ∨ 12 ≤ v3.toNatClampNeg)) (f_X2_sweetestUnsold_6 X j n v3 (X 27 j v3.toNatClampNeg 1) (v3 + 1)))))))
def f_X2_sweetestUnsold (X : XT) (j : Nat) : Option Int32 :=
  f_X2_sweetestUnsold_6 X j 2000 (-1) (-1) 0
set_option maxRecDepth 20000 in
theorem b_X2_sweetestUnsold_6 {p : Program} {l : Launch} {e : Env} {s : State} {m : MethodId} {args : Array Value} {below : List Frame} {meth : Method} {c : Code} {D : DD} {z : Nat} {Y : YT} {X : XT} {j : Nat} (hj : j < 10) (E : Cx p s m args meth c D z RX2 cX2_sweetestUnsold 4 (some .int)) {r : Int32} : ∀ (n : Nat) (v1 : Int32) (v2 : Int32) (v3 : Int32) (hf : f_X2_sweetestUnsold_6 X j n v1 v2 v3 = some r), J p l e (rmk 1 0 0) s m args below meth c D z (GG D z (X, Y)) 0 0 (MQ below (QC z (some (.int r)) (GG D z (X, Y))) args s (rmk 1 0 0).cells (rmk 1 0 0).slots (Az z)) 4 6 [(0, .ref (z + aX 23 j 0)), (1, .int v1), (2, .int v2), (3, .int v3)] [] := by
  intro n
  induction n with
  | zero =>
    intro v1 v2 v3 hf
    exact none_e hf
  | succ n ih =>
    intro v1 v2 v3 hf
    rw [f_X2_sweetestUnsold_6] at hf
    refine j_iload_n E 3 rfl dX2_sweetestUnsold_6 ?_
    refine j_aload_n E 0 rfl dX2_sweetestUnsold_7 ?_
    refine j_get (f := 3) E (okb23 hj) cf_X2 fl_X2_36 (lt_ rfl) rfl ent23 rfl dX2_sweetestUnsold_8 ?_
    refine j_icmp_ge E 57 (by decide) dX2_sweetestUnsold_11 (fun c1 => ?_) (fun c1 => ?_)
    · rw [if_pos c1] at hf
      refine j_iload_n E 1 rfl dX2_sweetestUnsold_57 ?_
      cases hf
      exact j_iret E rfl (le_ rfl) (le_ rfl) dX2_sweetestUnsold_58
    · rw [if_neg c1] at hf
      refine j_aload_n E 0 rfl dX2_sweetestUnsold_14 ?_
      refine j_get (f := 1) E (okb23 hj) cf_X2 fl_X2_19 (lt_ rfl) rfl ent23 rfl dX2_sweetestUnsold_15 ?_
      refine j_iload_n E 3 rfl dX2_sweetestUnsold_18 ?_
      obtain ⟨g1, hf⟩ := gd_e hf
      refine j_aald (t := 6) E (okb25 hj) ent25 rfl g1 dX2_sweetestUnsold_19 ?_
      refine j_getN (f := 3) E (okb27 hj (in_cl g1)) cf_X7 fl_X2_81 (lt_ rfl) rfl ent27 rfl dX2_sweetestUnsold_20 ?_
      refine j_if_le E 51 (by decide) dX2_sweetestUnsold_23 (fun c2 => ?_) (fun c2 => ?_)
      · rw [if_pos c2] at hf
        refine j_iinc (ls' := [(3, .int (v3 + 1)), (0, .ref (z + aX 23 j 0)), (1, .int v1), (2, .int v2)]) E 3 rfl (lt_ rfl) (v3 + 1) (congrArg (fun q => v3 + q) ic_1) rfl dX2_sweetestUnsold_51 ?_
        refine j_goto E 6 (by decide) dX2_sweetestUnsold_54 ?_
        refine j_sub [1, 2, 3, 0] rfl ?_
        exact ih _ _ _ hf
      · rw [if_neg c2] at hf
        refine j_aload_n E 0 rfl dX2_sweetestUnsold_26 ?_
        refine j_get (f := 1) E (okb23 hj) cf_X2 fl_X2_19 (lt_ rfl) rfl ent23 rfl dX2_sweetestUnsold_27 ?_
        refine j_iload_n E 3 rfl dX2_sweetestUnsold_30 ?_
        obtain ⟨g2, hf⟩ := gd_e hf
        refine j_aald (t := 6) E (okb25 hj) ent25 rfl g2 dX2_sweetestUnsold_31 ?_
        refine j_getN (f := 1) E (okb27 hj (in_cl g2)) cf_X7 fl_X2_75 (lt_ rfl) rfl ent27 rfl dX2_sweetestUnsold_32 ?_
        refine j_iload_n E 2 rfl dX2_sweetestUnsold_35 ?_
        refine j_icmp_le E 51 (by decide) dX2_sweetestUnsold_36 (fun c3 => ?_) (fun c3 => ?_)
        · rw [if_pos c3] at hf
          refine j_iinc (ls' := [(3, .int (v3 + 1)), (0, .ref (z + aX 23 j 0)), (1, .int v1), (2, .int v2)]) E 3 rfl (lt_ rfl) (v3 + 1) (congrArg (fun q => v3 + q) ic_1) rfl dX2_sweetestUnsold_51 ?_
          refine j_goto E 6 (by decide) dX2_sweetestUnsold_54 ?_
          refine j_sub [1, 2, 3, 0] rfl ?_
          exact ih _ _ _ hf
        · rw [if_neg c3] at hf
          refine j_aload_n E 0 rfl dX2_sweetestUnsold_39 ?_
          refine j_get (f := 1) E (okb23 hj) cf_X2 fl_X2_19 (lt_ rfl) rfl ent23 rfl dX2_sweetestUnsold_40 ?_
          refine j_iload_n E 3 rfl dX2_sweetestUnsold_43 ?_
          obtain ⟨g3, hf⟩ := gd_e hf
          refine j_aald (t := 6) E (okb25 hj) ent25 rfl g3 dX2_sweetestUnsold_44 ?_
          refine j_getN (f := 1) E (okb27 hj (in_cl g3)) cf_X7 fl_X2_75 (lt_ rfl) rfl ent27 rfl dX2_sweetestUnsold_45 ?_
          refine j_istore_n (ls' := [(2, .int (X 27 j v3.toNatClampNeg 1)), (0, .ref (z + aX 23 j 0)), (1, .int v1), (3, .int v3)]) E (lt_ rfl) rfl dX2_sweetestUnsold_48 ?_
          refine j_iload_n E 3 rfl dX2_sweetestUnsold_49 ?_
          refine j_istore_n (ls' := [(1, .int v3), (2, .int (X 27 j v3.toNatClampNeg 1)), (0, .ref (z + aX 23 j 0)), (3, .int v3)]) E (lt_ rfl) rfl dX2_sweetestUnsold_50 ?_
          refine j_iinc (ls' := [(3, .int (v3 + 1)), (1, .int v3), (2, .int (X 27 j v3.toNatClampNeg 1)), (0, .ref (z + aX 23 j 0))]) E 3 rfl (lt_ rfl) (v3 + 1) (congrArg (fun q => v3 + q) ic_1) rfl dX2_sweetestUnsold_51 ?_
          refine j_goto E 6 (by decide) dX2_sweetestUnsold_54 ?_
          refine j_sub [3, 1, 2, 0] rfl ?_
          exact ih _ _ _ hf
set_option maxRecDepth 20000 in
theorem c_X2_sweetestUnsold {l : Launch} {D : DD} {z : Nat} {Y : YT} {X : XT} {j : Nat} (hj : j < 10) {r : Int32} (hf : f_X2_sweetestUnsold X j = some r) : CC l yX2_sweetestUnsold cX2_sweetestUnsold 4 (some .int) (rmk 1 0 0) D z [.ref (z + aX 23 j 0)] (GG D z (X, Y)) (some (.int r)) (GG D z (X, Y)) := by
  unfold f_X2_sweetestUnsold at hf
  refine cc_of pn_X2 (le_ rfl) (ls := [(0, .ref (z + aX 23 j 0))]) rfl ?_
  intro p e s m args below meth c E
  refine j_iconst E (-1) ic_m1 dX2_sweetestUnsold_0 ?_
  refine j_istore_n (ls' := [(1, .int (-1)), (0, .ref (z + aX 23 j 0))]) E (lt_ rfl) rfl dX2_sweetestUnsold_1 ?_
  refine j_iconst E (-1) ic_m1 dX2_sweetestUnsold_2 ?_
  refine j_istore_n (ls' := [(2, .int (-1)), (1, .int (-1)), (0, .ref (z + aX 23 j 0))]) E (lt_ rfl) rfl dX2_sweetestUnsold_3 ?_
  refine j_iconst E 0 ic_0 dX2_sweetestUnsold_4 ?_
  refine j_istore_n (ls' := [(3, .int 0), (2, .int (-1)), (1, .int (-1)), (0, .ref (z + aX 23 j 0))]) E (lt_ rfl) rfl dX2_sweetestUnsold_5 ?_
  refine j_sub [3, 2, 1, 0] rfl ?_
  exact b_X2_sweetestUnsold_6 hj E 2000 _ _ _ hf
def f_X2_stockOf_45 (X : XT) (j : Nat) (v1 : Int32) : Nat → Int32 → Int32 → Option Int32
  | 0, _, _ => none
  | n + 1, v2, v3 => if (X 23 j 0 3) ≤ v3 then (some v2) else (gd (¬ (v3 < 0 ∨ 12 ≤ v3.toNatClampNeg)) (if (X 27 j v3.toNatClampNeg 0) = v1 then (gd (¬ (v3 < 0 ∨ 12 ≤ v3.toNatClampNeg)) (bnd (v2 + (X 27 j v3.toNatClampNeg 3)) (fun x1 => f_X2_stockOf_45 X j v1 n x1 (v3 + 1)))) else (f_X2_stockOf_45 X j v1 n v2 (v3 + 1))))
def f_X2_stockOf_4 (X : XT) (j : Nat) (v1 : Int32) : Nat → Int32 → Int32 → Option Int32
  | 0, _, _ => none
  | n + 1, v2, v3 => if (X 23 j 0 2) ≤ v3 then (f_X2_stockOf_45 X j v1 2000 v2 0) else (gd (¬ (v3 < 0 ∨ 5 ≤ v3.toNatClampNeg)) (bn1 (f_X9_holds X j (v3.toNatClampNeg) v1) (fun r1 => if r1 = 0 then (f_X2_stockOf_4 X j v1 n v2 (v3 + 1)) else (gd (¬ (v3 < 0 ∨ 5 ≤ v3.toNatClampNeg)) (bnd (v2 + (X 26 j v3.toNatClampNeg 1)) (fun x1 => f_X2_stockOf_4 X j v1 n x1 (v3 + 1)))))))
def f_X2_stockOf (X : XT) (j : Nat) (v1 : Int32) : Option Int32 :=
  f_X2_stockOf_4 X j v1 2000 0 0
set_option maxRecDepth 20000 in
theorem b_X2_stockOf_45 {p : Program} {l : Launch} {e : Env} {s : State} {m : MethodId} {args : Array Value} {below : List Frame} {meth : Method} {c : Code} {D : DD} {z : Nat} {Y : YT} {X : XT} {j : Nat} (hj : j < 10) {v1 : Int32} (E : Cx p s m args meth c D z RX2 cX2_stockOf 4 (some .int)) {r : Int32} : ∀ (n : Nat) (v2 : Int32) (v3 : Int32) (hf : f_X2_stockOf_45 X j v1 n v2 v3 = some r), J p l e (rmk 2 0 0) s m args below meth c D z (GG D z (X, Y)) 0 0 (MQ below (QC z (some (.int r)) (GG D z (X, Y))) args s (rmk 2 0 0).cells (rmk 2 0 0).slots (Az z)) 4 45 [(0, .ref (z + aX 23 j 0)), (1, .int v1), (2, .int v2), (3, .int v3)] [] := by
  intro n
  induction n with
  | zero =>
    intro v2 v3 hf
    exact none_e hf
  | succ n ih =>
    intro v2 v3 hf
    rw [f_X2_stockOf_45] at hf
    refine j_iload_n E 3 rfl dX2_stockOf_45 ?_
    refine j_aload_n E 0 rfl dX2_stockOf_46 ?_
    refine j_get (f := 3) E (okb23 hj) cf_X2 fl_X2_36 (lt_ rfl) rfl ent23 rfl dX2_stockOf_47 ?_
    refine j_icmp_ge E 84 (by decide) dX2_stockOf_50 (fun c1 => ?_) (fun c1 => ?_)
    · rw [if_pos c1] at hf
      refine j_iload_n E 2 rfl dX2_stockOf_84 ?_
      cases hf
      exact j_iret E rfl (le_ rfl) (le_ rfl) dX2_stockOf_85
    · rw [if_neg c1] at hf
      refine j_aload_n E 0 rfl dX2_stockOf_53 ?_
      refine j_get (f := 1) E (okb23 hj) cf_X2 fl_X2_19 (lt_ rfl) rfl ent23 rfl dX2_stockOf_54 ?_
      refine j_iload_n E 3 rfl dX2_stockOf_57 ?_
      obtain ⟨g1, hf⟩ := gd_e hf
      refine j_aald (t := 6) E (okb25 hj) ent25 rfl g1 dX2_stockOf_58 ?_
      refine j_getN (f := 0) E (okb27 hj (in_cl g1)) cf_X7 fl_X2_71 (lt_ rfl) rfl ent27 rfl dX2_stockOf_59 ?_
      refine j_iload_n E 1 rfl dX2_stockOf_62 ?_
      refine j_icmp_ne E 78 (by decide) dX2_stockOf_63 (fun c2 => ?_) (fun c2 => ?_)
      · rw [if_neg c2] at hf
        refine j_iinc (ls' := [(3, .int (v3 + 1)), (0, .ref (z + aX 23 j 0)), (1, .int v1), (2, .int v2)]) E 3 rfl (lt_ rfl) (v3 + 1) (congrArg (fun q => v3 + q) ic_1) rfl dX2_stockOf_78 ?_
        refine j_goto E 45 (by decide) dX2_stockOf_81 ?_
        refine j_sub [1, 2, 3, 0] rfl ?_
        exact ih _ _ hf
      · rw [if_pos c2] at hf
        refine j_iload_n E 2 rfl dX2_stockOf_66 ?_
        refine j_aload_n E 0 rfl dX2_stockOf_67 ?_
        refine j_get (f := 1) E (okb23 hj) cf_X2 fl_X2_19 (lt_ rfl) rfl ent23 rfl dX2_stockOf_68 ?_
        refine j_iload_n E 3 rfl dX2_stockOf_71 ?_
        obtain ⟨g2, hf⟩ := gd_e hf
        refine j_aald (t := 6) E (okb25 hj) ent25 rfl g2 dX2_stockOf_72 ?_
        refine j_getN (f := 3) E (okb27 hj (in_cl g2)) cf_X7 fl_X2_81 (lt_ rfl) rfl ent27 rfl dX2_stockOf_73 ?_
        refine j_iadd E dX2_stockOf_76 ?_
        obtain ⟨x1, hx1, hf⟩ := bnd_e hf
        refine j_name hx1 ?_
        refine j_istore_n (ls' := [(2, .int x1), (0, .ref (z + aX 23 j 0)), (1, .int v1), (3, .int v3)]) E (lt_ rfl) rfl dX2_stockOf_77 ?_
        refine j_iinc (ls' := [(3, .int (v3 + 1)), (2, .int x1), (0, .ref (z + aX 23 j 0)), (1, .int v1)]) E 3 rfl (lt_ rfl) (v3 + 1) (congrArg (fun q => v3 + q) ic_1) rfl dX2_stockOf_78 ?_
        refine j_goto E 45 (by decide) dX2_stockOf_81 ?_
        refine j_sub [2, 3, 1, 0] rfl ?_
        exact ih _ _ hf
set_option maxRecDepth 20000 in
theorem b_X2_stockOf_4 {p : Program} {l : Launch} {e : Env} {s : State} {m : MethodId} {args : Array Value} {below : List Frame} {meth : Method} {c : Code} {D : DD} {z : Nat} {Y : YT} {X : XT} {j : Nat} (hj : j < 10) {v1 : Int32} (E : Cx p s m args meth c D z RX2 cX2_stockOf 4 (some .int)) {r : Int32} : ∀ (n : Nat) (v2 : Int32) (v3 : Int32) (hf : f_X2_stockOf_4 X j v1 n v2 v3 = some r), J p l e (rmk 2 0 0) s m args below meth c D z (GG D z (X, Y)) 0 0 (MQ below (QC z (some (.int r)) (GG D z (X, Y))) args s (rmk 2 0 0).cells (rmk 2 0 0).slots (Az z)) 4 4 [(0, .ref (z + aX 23 j 0)), (1, .int v1), (2, .int v2), (3, .int v3)] [] := by
  intro n
  induction n with
  | zero =>
    intro v2 v3 hf
    exact none_e hf
  | succ n ih =>
    intro v2 v3 hf
    rw [f_X2_stockOf_4] at hf
    refine j_iload_n E 3 rfl dX2_stockOf_4 ?_
    refine j_aload_n E 0 rfl dX2_stockOf_5 ?_
    refine j_get (f := 2) E (okb23 hj) cf_X2 fl_X2_32 (lt_ rfl) rfl ent23 rfl dX2_stockOf_6 ?_
    refine j_icmp_ge E 43 (by decide) dX2_stockOf_9 (fun c1 => ?_) (fun c1 => ?_)
    · rw [if_pos c1] at hf
      refine j_iconst E 0 ic_0 dX2_stockOf_43 ?_
      refine j_istore_n (ls' := [(3, .int 0), (0, .ref (z + aX 23 j 0)), (1, .int v1), (2, .int v2)]) E (lt_ rfl) rfl dX2_stockOf_44 ?_
      refine j_sub [1, 2, 3, 0] rfl ?_
      exact b_X2_stockOf_45 hj E 2000 _ _ hf
    · rw [if_neg c1] at hf
      refine j_aload_n E 0 rfl dX2_stockOf_12 ?_
      refine j_get (f := 0) E (okb23 hj) cf_X2 fl_X2_11 (lt_ rfl) rfl ent23 rfl dX2_stockOf_13 ?_
      refine j_iload_n E 3 rfl dX2_stockOf_16 ?_
      obtain ⟨g1, hf⟩ := gd_e hf
      refine j_aald (t := 5) E (okb24 hj) ent24 rfl g1 dX2_stockOf_17 ?_
      refine j_iload_n E 1 rfl dX2_stockOf_18 ?_
      obtain ⟨r1, h1, hf⟩ := bn1_e hf
      refine j_invV [] [.int r1] E (c_X9_holds hj (in_cl g1) h1) ml_X2_49 mv_X9_holds rfl ⟨le_ rfl, le_ rfl⟩ (rcX (okb26 hj (in_cl g1)) cf_X9 ent26) rfl rfl (le_ rfl) ⟨le_ rfl, le_ rfl⟩ dX2_stockOf_19 ?_
      refine j_if_eq E 37 (by decide) dX2_stockOf_22 (fun c2 => ?_) (fun c2 => ?_)
      · rw [if_pos c2] at hf
        refine j_iinc (ls' := [(3, .int (v3 + 1)), (0, .ref (z + aX 23 j 0)), (1, .int v1), (2, .int v2)]) E 3 rfl (lt_ rfl) (v3 + 1) (congrArg (fun q => v3 + q) ic_1) rfl dX2_stockOf_37 ?_
        refine j_goto E 4 (by decide) dX2_stockOf_40 ?_
        refine j_sub [1, 2, 3, 0] rfl ?_
        exact ih _ _ hf
      · rw [if_neg c2] at hf
        refine j_iload_n E 2 rfl dX2_stockOf_25 ?_
        refine j_aload_n E 0 rfl dX2_stockOf_26 ?_
        refine j_get (f := 0) E (okb23 hj) cf_X2 fl_X2_11 (lt_ rfl) rfl ent23 rfl dX2_stockOf_27 ?_
        refine j_iload_n E 3 rfl dX2_stockOf_30 ?_
        obtain ⟨g2, hf⟩ := gd_e hf
        refine j_aald (t := 5) E (okb24 hj) ent24 rfl g2 dX2_stockOf_31 ?_
        refine j_getN (f := 1) E (okb26 hj (in_cl g2)) cf_X9 fl_X2_53 (lt_ rfl) rfl ent26 rfl dX2_stockOf_32 ?_
        refine j_iadd E dX2_stockOf_35 ?_
        obtain ⟨x1, hx1, hf⟩ := bnd_e hf
        refine j_name hx1 ?_
        refine j_istore_n (ls' := [(2, .int x1), (0, .ref (z + aX 23 j 0)), (1, .int v1), (3, .int v3)]) E (lt_ rfl) rfl dX2_stockOf_36 ?_
        refine j_iinc (ls' := [(3, .int (v3 + 1)), (2, .int x1), (0, .ref (z + aX 23 j 0)), (1, .int v1)]) E 3 rfl (lt_ rfl) (v3 + 1) (congrArg (fun q => v3 + q) ic_1) rfl dX2_stockOf_37 ?_
        refine j_goto E 4 (by decide) dX2_stockOf_40 ?_
        refine j_sub [2, 3, 1, 0] rfl ?_
        exact ih _ _ hf
set_option maxRecDepth 20000 in
theorem c_X2_stockOf {l : Launch} {D : DD} {z : Nat} {Y : YT} {X : XT} {j : Nat} (hj : j < 10) {v1 : Int32} {r : Int32} (hf : f_X2_stockOf X j v1 = some r) : CC l yX2_stockOf cX2_stockOf 4 (some .int) (rmk 2 0 0) D z [.ref (z + aX 23 j 0), .int v1] (GG D z (X, Y)) (some (.int r)) (GG D z (X, Y)) := by
  unfold f_X2_stockOf at hf
  refine cc_of pn_X2 (le_ rfl) (ls := [(0, .ref (z + aX 23 j 0)), (1, .int v1)]) rfl ?_
  intro p e s m args below meth c E
  refine j_iconst E 0 ic_0 dX2_stockOf_0 ?_
  refine j_istore_n (ls' := [(2, .int 0), (0, .ref (z + aX 23 j 0)), (1, .int v1)]) E (lt_ rfl) rfl dX2_stockOf_1 ?_
  refine j_iconst E 0 ic_0 dX2_stockOf_2 ?_
  refine j_istore_n (ls' := [(3, .int 0), (2, .int 0), (0, .ref (z + aX 23 j 0)), (1, .int v1)]) E (lt_ rfl) rfl dX2_stockOf_3 ?_
  refine j_sub [2, 3, 1, 0] rfl ?_
  exact b_X2_stockOf_4 hj E 2000 _ _ hf
def f_X2_totalContent_4 (X : XT) (j : Nat) : Nat → Int32 → Int32 → Option Int32
  | 0, _, _ => none
  | n + 1, v1, v2 => if (X 23 j 0 2) ≤ v2 then (some v1) else (gd (¬ (v2 < 0 ∨ 5 ≤ v2.toNatClampNeg)) (bnd (v1 + (X 26 j v2.toNatClampNeg 1)) (fun x1 => f_X2_totalContent_4 X j n x1 (v2 + 1))))
def f_X2_totalContent (X : XT) (j : Nat) : Option Int32 :=
  f_X2_totalContent_4 X j 2000 0 0
set_option maxRecDepth 20000 in
theorem b_X2_totalContent_4 {p : Program} {l : Launch} {e : Env} {s : State} {m : MethodId} {args : Array Value} {below : List Frame} {meth : Method} {c : Code} {D : DD} {z : Nat} {Y : YT} {X : XT} {j : Nat} (hj : j < 10) (E : Cx p s m args meth c D z RX2 cX2_totalContent 3 (some .int)) {r : Int32} : ∀ (n : Nat) (v1 : Int32) (v2 : Int32) (hf : f_X2_totalContent_4 X j n v1 v2 = some r), J p l e (rmk 1 0 0) s m args below meth c D z (GG D z (X, Y)) 0 0 (MQ below (QC z (some (.int r)) (GG D z (X, Y))) args s (rmk 1 0 0).cells (rmk 1 0 0).slots (Az z)) 3 4 [(0, .ref (z + aX 23 j 0)), (1, .int v1), (2, .int v2)] [] := by
  intro n
  induction n with
  | zero =>
    intro v1 v2 hf
    exact none_e hf
  | succ n ih =>
    intro v1 v2 hf
    rw [f_X2_totalContent_4] at hf
    refine j_iload_n E 2 rfl dX2_totalContent_4 ?_
    refine j_aload_n E 0 rfl dX2_totalContent_5 ?_
    refine j_get (f := 2) E (okb23 hj) cf_X2 fl_X2_32 (lt_ rfl) rfl ent23 rfl dX2_totalContent_6 ?_
    refine j_icmp_ge E 30 (by decide) dX2_totalContent_9 (fun c1 => ?_) (fun c1 => ?_)
    · rw [if_pos c1] at hf
      refine j_iload_n E 1 rfl dX2_totalContent_30 ?_
      cases hf
      exact j_iret E rfl (le_ rfl) (le_ rfl) dX2_totalContent_31
    · rw [if_neg c1] at hf
      refine j_iload_n E 1 rfl dX2_totalContent_12 ?_
      refine j_aload_n E 0 rfl dX2_totalContent_13 ?_
      refine j_get (f := 0) E (okb23 hj) cf_X2 fl_X2_11 (lt_ rfl) rfl ent23 rfl dX2_totalContent_14 ?_
      refine j_iload_n E 2 rfl dX2_totalContent_17 ?_
      obtain ⟨g1, hf⟩ := gd_e hf
      refine j_aald (t := 5) E (okb24 hj) ent24 rfl g1 dX2_totalContent_18 ?_
      refine j_getN (f := 1) E (okb26 hj (in_cl g1)) cf_X9 fl_X2_53 (lt_ rfl) rfl ent26 rfl dX2_totalContent_19 ?_
      refine j_iadd E dX2_totalContent_22 ?_
      obtain ⟨x1, hx1, hf⟩ := bnd_e hf
      refine j_name hx1 ?_
      refine j_istore_n (ls' := [(1, .int x1), (0, .ref (z + aX 23 j 0)), (2, .int v2)]) E (lt_ rfl) rfl dX2_totalContent_23 ?_
      refine j_iinc (ls' := [(2, .int (v2 + 1)), (1, .int x1), (0, .ref (z + aX 23 j 0))]) E 2 rfl (lt_ rfl) (v2 + 1) (congrArg (fun q => v2 + q) ic_1) rfl dX2_totalContent_24 ?_
      refine j_goto E 4 (by decide) dX2_totalContent_27 ?_
      refine j_sub [2, 1, 0] rfl ?_
      exact ih _ _ hf
set_option maxRecDepth 20000 in
theorem c_X2_totalContent {l : Launch} {D : DD} {z : Nat} {Y : YT} {X : XT} {j : Nat} (hj : j < 10) {r : Int32} (hf : f_X2_totalContent X j = some r) : CC l yX2_totalContent cX2_totalContent 3 (some .int) (rmk 1 0 0) D z [.ref (z + aX 23 j 0)] (GG D z (X, Y)) (some (.int r)) (GG D z (X, Y)) := by
  unfold f_X2_totalContent at hf
  refine cc_of pn_X2 (le_ rfl) (ls := [(0, .ref (z + aX 23 j 0))]) rfl ?_
  intro p e s m args below meth c E
  refine j_iconst E 0 ic_0 dX2_totalContent_0 ?_
  refine j_istore_n (ls' := [(1, .int 0), (0, .ref (z + aX 23 j 0))]) E (lt_ rfl) rfl dX2_totalContent_1 ?_
  refine j_iconst E 0 ic_0 dX2_totalContent_2 ?_
  refine j_istore_n (ls' := [(2, .int 0), (1, .int 0), (0, .ref (z + aX 23 j 0))]) E (lt_ rfl) rfl dX2_totalContent_3 ?_
  refine j_sub [2, 1, 0] rfl ?_
  exact b_X2_totalContent_4 hj E 2000 _ _ hf
def f_X2_totalCapacity_4 (X : XT) (j : Nat) : Nat → Int32 → Int32 → Option Int32
  | 0, _, _ => none
  | n + 1, v1, v2 => if (X 23 j 0 2) ≤ v2 then (some v1) else (gd (¬ (v2 < 0 ∨ 5 ≤ v2.toNatClampNeg)) (bnd (v1 + (X 26 j v2.toNatClampNeg 0)) (fun x1 => f_X2_totalCapacity_4 X j n x1 (v2 + 1))))
def f_X2_totalCapacity (X : XT) (j : Nat) : Option Int32 :=
  f_X2_totalCapacity_4 X j 2000 0 0
set_option maxRecDepth 20000 in
theorem b_X2_totalCapacity_4 {p : Program} {l : Launch} {e : Env} {s : State} {m : MethodId} {args : Array Value} {below : List Frame} {meth : Method} {c : Code} {D : DD} {z : Nat} {Y : YT} {X : XT} {j : Nat} (hj : j < 10) (E : Cx p s m args meth c D z RX2 cX2_totalCapacity 3 (some .int)) {r : Int32} : ∀ (n : Nat) (v1 : Int32) (v2 : Int32) (hf : f_X2_totalCapacity_4 X j n v1 v2 = some r), J p l e (rmk 1 0 0) s m args below meth c D z (GG D z (X, Y)) 0 0 (MQ below (QC z (some (.int r)) (GG D z (X, Y))) args s (rmk 1 0 0).cells (rmk 1 0 0).slots (Az z)) 3 4 [(0, .ref (z + aX 23 j 0)), (1, .int v1), (2, .int v2)] [] := by
  intro n
  induction n with
  | zero =>
    intro v1 v2 hf
    exact none_e hf
  | succ n ih =>
    intro v1 v2 hf
    rw [f_X2_totalCapacity_4] at hf
    refine j_iload_n E 2 rfl dX2_totalCapacity_4 ?_
    refine j_aload_n E 0 rfl dX2_totalCapacity_5 ?_
    refine j_get (f := 2) E (okb23 hj) cf_X2 fl_X2_32 (lt_ rfl) rfl ent23 rfl dX2_totalCapacity_6 ?_
    refine j_icmp_ge E 30 (by decide) dX2_totalCapacity_9 (fun c1 => ?_) (fun c1 => ?_)
    · rw [if_pos c1] at hf
      refine j_iload_n E 1 rfl dX2_totalCapacity_30 ?_
      cases hf
      exact j_iret E rfl (le_ rfl) (le_ rfl) dX2_totalCapacity_31
    · rw [if_neg c1] at hf
      refine j_iload_n E 1 rfl dX2_totalCapacity_12 ?_
      refine j_aload_n E 0 rfl dX2_totalCapacity_13 ?_
      refine j_get (f := 0) E (okb23 hj) cf_X2 fl_X2_11 (lt_ rfl) rfl ent23 rfl dX2_totalCapacity_14 ?_
      refine j_iload_n E 2 rfl dX2_totalCapacity_17 ?_
      obtain ⟨g1, hf⟩ := gd_e hf
      refine j_aald (t := 5) E (okb24 hj) ent24 rfl g1 dX2_totalCapacity_18 ?_
      refine j_getN (f := 0) E (okb26 hj (in_cl g1)) cf_X9 fl_X2_42 (lt_ rfl) rfl ent26 rfl dX2_totalCapacity_19 ?_
      refine j_iadd E dX2_totalCapacity_22 ?_
      obtain ⟨x1, hx1, hf⟩ := bnd_e hf
      refine j_name hx1 ?_
      refine j_istore_n (ls' := [(1, .int x1), (0, .ref (z + aX 23 j 0)), (2, .int v2)]) E (lt_ rfl) rfl dX2_totalCapacity_23 ?_
      refine j_iinc (ls' := [(2, .int (v2 + 1)), (1, .int x1), (0, .ref (z + aX 23 j 0))]) E 2 rfl (lt_ rfl) (v2 + 1) (congrArg (fun q => v2 + q) ic_1) rfl dX2_totalCapacity_24 ?_
      refine j_goto E 4 (by decide) dX2_totalCapacity_27 ?_
      refine j_sub [2, 1, 0] rfl ?_
      exact ih _ _ hf
set_option maxRecDepth 20000 in
theorem c_X2_totalCapacity {l : Launch} {D : DD} {z : Nat} {Y : YT} {X : XT} {j : Nat} (hj : j < 10) {r : Int32} (hf : f_X2_totalCapacity X j = some r) : CC l yX2_totalCapacity cX2_totalCapacity 3 (some .int) (rmk 1 0 0) D z [.ref (z + aX 23 j 0)] (GG D z (X, Y)) (some (.int r)) (GG D z (X, Y)) := by
  unfold f_X2_totalCapacity at hf
  refine cc_of pn_X2 (le_ rfl) (ls := [(0, .ref (z + aX 23 j 0))]) rfl ?_
  intro p e s m args below meth c E
  refine j_iconst E 0 ic_0 dX2_totalCapacity_0 ?_
  refine j_istore_n (ls' := [(1, .int 0), (0, .ref (z + aX 23 j 0))]) E (lt_ rfl) rfl dX2_totalCapacity_1 ?_
  refine j_iconst E 0 ic_0 dX2_totalCapacity_2 ?_
  refine j_istore_n (ls' := [(2, .int 0), (1, .int 0), (0, .ref (z + aX 23 j 0))]) E (lt_ rfl) rfl dX2_totalCapacity_3 ?_
  refine j_sub [2, 1, 0] rfl ?_
  exact b_X2_totalCapacity_4 hj E 2000 _ _ hf
def f_X2_totalBottled_4 (X : XT) (j : Nat) : Nat → Int32 → Int32 → Option Int32
  | 0, _, _ => none
  | n + 1, v1, v2 => if (X 23 j 0 3) ≤ v2 then (some v1) else (gd (¬ (v2 < 0 ∨ 12 ≤ v2.toNatClampNeg)) (bnd (v1 + (X 27 j v2.toNatClampNeg 2)) (fun x1 => f_X2_totalBottled_4 X j n x1 (v2 + 1))))
def f_X2_totalBottled (X : XT) (j : Nat) : Option Int32 :=
  f_X2_totalBottled_4 X j 2000 0 0
set_option maxRecDepth 20000 in
theorem b_X2_totalBottled_4 {p : Program} {l : Launch} {e : Env} {s : State} {m : MethodId} {args : Array Value} {below : List Frame} {meth : Method} {c : Code} {D : DD} {z : Nat} {Y : YT} {X : XT} {j : Nat} (hj : j < 10) (E : Cx p s m args meth c D z RX2 cX2_totalBottled 3 (some .int)) {r : Int32} : ∀ (n : Nat) (v1 : Int32) (v2 : Int32) (hf : f_X2_totalBottled_4 X j n v1 v2 = some r), J p l e (rmk 1 0 0) s m args below meth c D z (GG D z (X, Y)) 0 0 (MQ below (QC z (some (.int r)) (GG D z (X, Y))) args s (rmk 1 0 0).cells (rmk 1 0 0).slots (Az z)) 3 4 [(0, .ref (z + aX 23 j 0)), (1, .int v1), (2, .int v2)] [] := by
  intro n
  induction n with
  | zero =>
    intro v1 v2 hf
    exact none_e hf
  | succ n ih =>
    intro v1 v2 hf
    rw [f_X2_totalBottled_4] at hf
    refine j_iload_n E 2 rfl dX2_totalBottled_4 ?_
    refine j_aload_n E 0 rfl dX2_totalBottled_5 ?_
    refine j_get (f := 3) E (okb23 hj) cf_X2 fl_X2_36 (lt_ rfl) rfl ent23 rfl dX2_totalBottled_6 ?_
    refine j_icmp_ge E 30 (by decide) dX2_totalBottled_9 (fun c1 => ?_) (fun c1 => ?_)
    · rw [if_pos c1] at hf
      refine j_iload_n E 1 rfl dX2_totalBottled_30 ?_
      cases hf
      exact j_iret E rfl (le_ rfl) (le_ rfl) dX2_totalBottled_31
    · rw [if_neg c1] at hf
      refine j_iload_n E 1 rfl dX2_totalBottled_12 ?_
      refine j_aload_n E 0 rfl dX2_totalBottled_13 ?_
      refine j_get (f := 1) E (okb23 hj) cf_X2 fl_X2_19 (lt_ rfl) rfl ent23 rfl dX2_totalBottled_14 ?_
      refine j_iload_n E 2 rfl dX2_totalBottled_17 ?_
      obtain ⟨g1, hf⟩ := gd_e hf
      refine j_aald (t := 6) E (okb25 hj) ent25 rfl g1 dX2_totalBottled_18 ?_
      refine j_getN (f := 2) E (okb27 hj (in_cl g1)) cf_X7 fl_X2_78 (lt_ rfl) rfl ent27 rfl dX2_totalBottled_19 ?_
      refine j_iadd E dX2_totalBottled_22 ?_
      obtain ⟨x1, hx1, hf⟩ := bnd_e hf
      refine j_name hx1 ?_
      refine j_istore_n (ls' := [(1, .int x1), (0, .ref (z + aX 23 j 0)), (2, .int v2)]) E (lt_ rfl) rfl dX2_totalBottled_23 ?_
      refine j_iinc (ls' := [(2, .int (v2 + 1)), (1, .int x1), (0, .ref (z + aX 23 j 0))]) E 2 rfl (lt_ rfl) (v2 + 1) (congrArg (fun q => v2 + q) ic_1) rfl dX2_totalBottled_24 ?_
      refine j_goto E 4 (by decide) dX2_totalBottled_27 ?_
      refine j_sub [2, 1, 0] rfl ?_
      exact ih _ _ hf
set_option maxRecDepth 20000 in
theorem c_X2_totalBottled {l : Launch} {D : DD} {z : Nat} {Y : YT} {X : XT} {j : Nat} (hj : j < 10) {r : Int32} (hf : f_X2_totalBottled X j = some r) : CC l yX2_totalBottled cX2_totalBottled 3 (some .int) (rmk 1 0 0) D z [.ref (z + aX 23 j 0)] (GG D z (X, Y)) (some (.int r)) (GG D z (X, Y)) := by
  unfold f_X2_totalBottled at hf
  refine cc_of pn_X2 (le_ rfl) (ls := [(0, .ref (z + aX 23 j 0))]) rfl ?_
  intro p e s m args below meth c E
  refine j_iconst E 0 ic_0 dX2_totalBottled_0 ?_
  refine j_istore_n (ls' := [(1, .int 0), (0, .ref (z + aX 23 j 0))]) E (lt_ rfl) rfl dX2_totalBottled_1 ?_
  refine j_iconst E 0 ic_0 dX2_totalBottled_2 ?_
  refine j_istore_n (ls' := [(2, .int 0), (1, .int 0), (0, .ref (z + aX 23 j 0))]) E (lt_ rfl) rfl dX2_totalBottled_3 ?_
  refine j_sub [2, 1, 0] rfl ?_
  exact b_X2_totalBottled_4 hj E 2000 _ _ hf
def f_X3_totalWeight_4 (X : XT) (j : Nat) : Nat → Int32 → Int32 → Option Int32
  | 0, _, _ => none
  | n + 1, v1, v2 => if (X 20 j 0 1) ≤ v2 then (some v1) else (gd (¬ (v2 < 0 ∨ 20 ≤ v2.toNatClampNeg)) (bnd (v1 + (X 22 j v2.toNatClampNeg 3)) (fun x1 => f_X3_totalWeight_4 X j n x1 (v2 + 1))))
def f_X3_totalWeight (X : XT) (j : Nat) : Option Int32 :=
  f_X3_totalWeight_4 X j 2000 0 0
set_option maxRecDepth 20000 in
theorem b_X3_totalWeight_4 {p : Program} {l : Launch} {e : Env} {s : State} {m : MethodId} {args : Array Value} {below : List Frame} {meth : Method} {c : Code} {D : DD} {z : Nat} {Y : YT} {X : XT} {j : Nat} (hj : j < 10) (E : Cx p s m args meth c D z RX3 cX3_totalWeight 3 (some .int)) {r : Int32} : ∀ (n : Nat) (v1 : Int32) (v2 : Int32) (hf : f_X3_totalWeight_4 X j n v1 v2 = some r), J p l e (rmk 1 0 0) s m args below meth c D z (GG D z (X, Y)) 0 0 (MQ below (QC z (some (.int r)) (GG D z (X, Y))) args s (rmk 1 0 0).cells (rmk 1 0 0).slots (Az z)) 3 4 [(0, .ref (z + aX 20 j 0)), (1, .int v1), (2, .int v2)] [] := by
  intro n
  induction n with
  | zero =>
    intro v1 v2 hf
    exact none_e hf
  | succ n ih =>
    intro v1 v2 hf
    rw [f_X3_totalWeight_4] at hf
    refine j_iload_n E 2 rfl dX3_totalWeight_4 ?_
    refine j_aload_n E 0 rfl dX3_totalWeight_5 ?_
    refine j_get (f := 1) E (okb20 hj) cf_X3 fl_X3_22 (lt_ rfl) rfl ent20 rfl dX3_totalWeight_6 ?_
    refine j_icmp_ge E 30 (by decide) dX3_totalWeight_9 (fun c1 => ?_) (fun c1 => ?_)
    · rw [if_pos c1] at hf
      refine j_iload_n E 1 rfl dX3_totalWeight_30 ?_
      cases hf
      exact j_iret E rfl (le_ rfl) (le_ rfl) dX3_totalWeight_31
    · rw [if_neg c1] at hf
      refine j_iload_n E 1 rfl dX3_totalWeight_12 ?_
      refine j_aload_n E 0 rfl dX3_totalWeight_13 ?_
      refine j_get (f := 0) E (okb20 hj) cf_X3 fl_X3_11 (lt_ rfl) rfl ent20 rfl dX3_totalWeight_14 ?_
      refine j_iload_n E 2 rfl dX3_totalWeight_17 ?_
      obtain ⟨g1, hf⟩ := gd_e hf
      refine j_aald (t := 4) E (okb21 hj) ent21 rfl g1 dX3_totalWeight_18 ?_
      refine j_getN (f := 3) E (okb22 hj (in_cl g1)) cf_X6 fl_X3_39 (lt_ rfl) rfl ent22 rfl dX3_totalWeight_19 ?_
      refine j_iadd E dX3_totalWeight_22 ?_
      obtain ⟨x1, hx1, hf⟩ := bnd_e hf
      refine j_name hx1 ?_
      refine j_istore_n (ls' := [(1, .int x1), (0, .ref (z + aX 20 j 0)), (2, .int v2)]) E (lt_ rfl) rfl dX3_totalWeight_23 ?_
      refine j_iinc (ls' := [(2, .int (v2 + 1)), (1, .int x1), (0, .ref (z + aX 20 j 0))]) E 2 rfl (lt_ rfl) (v2 + 1) (congrArg (fun q => v2 + q) ic_1) rfl dX3_totalWeight_24 ?_
      refine j_goto E 4 (by decide) dX3_totalWeight_27 ?_
      refine j_sub [2, 1, 0] rfl ?_
      exact ih _ _ hf
set_option maxRecDepth 20000 in
theorem c_X3_totalWeight {l : Launch} {D : DD} {z : Nat} {Y : YT} {X : XT} {j : Nat} (hj : j < 10) {r : Int32} (hf : f_X3_totalWeight X j = some r) : CC l yX3_totalWeight cX3_totalWeight 3 (some .int) (rmk 1 0 0) D z [.ref (z + aX 20 j 0)] (GG D z (X, Y)) (some (.int r)) (GG D z (X, Y)) := by
  unfold f_X3_totalWeight at hf
  refine cc_of pn_X3 (le_ rfl) (ls := [(0, .ref (z + aX 20 j 0))]) rfl ?_
  intro p e s m args below meth c E
  refine j_iconst E 0 ic_0 dX3_totalWeight_0 ?_
  refine j_istore_n (ls' := [(1, .int 0), (0, .ref (z + aX 20 j 0))]) E (lt_ rfl) rfl dX3_totalWeight_1 ?_
  refine j_iconst E 0 ic_0 dX3_totalWeight_2 ?_
  refine j_istore_n (ls' := [(2, .int 0), (1, .int 0), (0, .ref (z + aX 20 j 0))]) E (lt_ rfl) rfl dX3_totalWeight_3 ?_
  refine j_sub [2, 1, 0] rfl ?_
  exact b_X3_totalWeight_4 hj E 2000 _ _ hf
def f_X3_totalSugar_4 (X : XT) (j : Nat) : Nat → Int32 → Int32 → Option Int32
  | 0, _, _ => none
  | n + 1, v1, v2 => if (X 20 j 0 1) ≤ v2 then (some v1) else (gd (¬ (v2 < 0 ∨ 20 ≤ v2.toNatClampNeg)) (gd (¬ (v2 < 0 ∨ 20 ≤ v2.toNatClampNeg)) (bnd (v1 + ((X 22 j v2.toNatClampNeg 3) * (X 22 j v2.toNatClampNeg 4))) (fun x1 => f_X3_totalSugar_4 X j n x1 (v2 + 1)))))
def f_X3_totalSugar (X : XT) (j : Nat) : Option Int32 :=
  f_X3_totalSugar_4 X j 2000 0 0
set_option maxRecDepth 20000 in
theorem b_X3_totalSugar_4 {p : Program} {l : Launch} {e : Env} {s : State} {m : MethodId} {args : Array Value} {below : List Frame} {meth : Method} {c : Code} {D : DD} {z : Nat} {Y : YT} {X : XT} {j : Nat} (hj : j < 10) (E : Cx p s m args meth c D z RX3 cX3_totalSugar 3 (some .int)) {r : Int32} : ∀ (n : Nat) (v1 : Int32) (v2 : Int32) (hf : f_X3_totalSugar_4 X j n v1 v2 = some r), J p l e (rmk 1 0 0) s m args below meth c D z (GG D z (X, Y)) 0 0 (MQ below (QC z (some (.int r)) (GG D z (X, Y))) args s (rmk 1 0 0).cells (rmk 1 0 0).slots (Az z)) 3 4 [(0, .ref (z + aX 20 j 0)), (1, .int v1), (2, .int v2)] [] := by
  intro n
  induction n with
  | zero =>
    intro v1 v2 hf
    exact none_e hf
  | succ n ih =>
    intro v1 v2 hf
    rw [f_X3_totalSugar_4] at hf
    refine j_iload_n E 2 rfl dX3_totalSugar_4 ?_
    refine j_aload_n E 0 rfl dX3_totalSugar_5 ?_
    refine j_get (f := 1) E (okb20 hj) cf_X3 fl_X3_22 (lt_ rfl) rfl ent20 rfl dX3_totalSugar_6 ?_
    refine j_icmp_ge E 40 (by decide) dX3_totalSugar_9 (fun c1 => ?_) (fun c1 => ?_)
    · rw [if_pos c1] at hf
      refine j_iload_n E 1 rfl dX3_totalSugar_40 ?_
      cases hf
      exact j_iret E rfl (le_ rfl) (le_ rfl) dX3_totalSugar_41
    · rw [if_neg c1] at hf
      refine j_iload_n E 1 rfl dX3_totalSugar_12 ?_
      refine j_aload_n E 0 rfl dX3_totalSugar_13 ?_
      refine j_get (f := 0) E (okb20 hj) cf_X3 fl_X3_11 (lt_ rfl) rfl ent20 rfl dX3_totalSugar_14 ?_
      refine j_iload_n E 2 rfl dX3_totalSugar_17 ?_
      obtain ⟨g1, hf⟩ := gd_e hf
      refine j_aald (t := 4) E (okb21 hj) ent21 rfl g1 dX3_totalSugar_18 ?_
      refine j_getN (f := 3) E (okb22 hj (in_cl g1)) cf_X6 fl_X3_39 (lt_ rfl) rfl ent22 rfl dX3_totalSugar_19 ?_
      refine j_aload_n E 0 rfl dX3_totalSugar_22 ?_
      refine j_get (f := 0) E (okb20 hj) cf_X3 fl_X3_11 (lt_ rfl) rfl ent20 rfl dX3_totalSugar_23 ?_
      refine j_iload_n E 2 rfl dX3_totalSugar_26 ?_
      obtain ⟨g2, hf⟩ := gd_e hf
      refine j_aald (t := 4) E (okb21 hj) ent21 rfl g2 dX3_totalSugar_27 ?_
      refine j_getN (f := 4) E (okb22 hj (in_cl g2)) cf_X6 fl_X3_42 (lt_ rfl) rfl ent22 rfl dX3_totalSugar_28 ?_
      refine j_imul E dX3_totalSugar_31 ?_
      refine j_iadd E dX3_totalSugar_32 ?_
      obtain ⟨x1, hx1, hf⟩ := bnd_e hf
      refine j_name hx1 ?_
      refine j_istore_n (ls' := [(1, .int x1), (0, .ref (z + aX 20 j 0)), (2, .int v2)]) E (lt_ rfl) rfl dX3_totalSugar_33 ?_
      refine j_iinc (ls' := [(2, .int (v2 + 1)), (1, .int x1), (0, .ref (z + aX 20 j 0))]) E 2 rfl (lt_ rfl) (v2 + 1) (congrArg (fun q => v2 + q) ic_1) rfl dX3_totalSugar_34 ?_
      refine j_goto E 4 (by decide) dX3_totalSugar_37 ?_
      refine j_sub [2, 1, 0] rfl ?_
      exact ih _ _ hf
set_option maxRecDepth 20000 in
theorem c_X3_totalSugar {l : Launch} {D : DD} {z : Nat} {Y : YT} {X : XT} {j : Nat} (hj : j < 10) {r : Int32} (hf : f_X3_totalSugar X j = some r) : CC l yX3_totalSugar cX3_totalSugar 3 (some .int) (rmk 1 0 0) D z [.ref (z + aX 20 j 0)] (GG D z (X, Y)) (some (.int r)) (GG D z (X, Y)) := by
  unfold f_X3_totalSugar at hf
  refine cc_of pn_X3 (le_ rfl) (ls := [(0, .ref (z + aX 20 j 0))]) rfl ?_
  intro p e s m args below meth c E
  refine j_iconst E 0 ic_0 dX3_totalSugar_0 ?_
  refine j_istore_n (ls' := [(1, .int 0), (0, .ref (z + aX 20 j 0))]) E (lt_ rfl) rfl dX3_totalSugar_1 ?_
  refine j_iconst E 0 ic_0 dX3_totalSugar_2 ?_
  refine j_istore_n (ls' := [(2, .int 0), (1, .int 0), (0, .ref (z + aX 20 j 0))]) E (lt_ rfl) rfl dX3_totalSugar_3 ?_
  refine j_sub [2, 1, 0] rfl ?_
  exact b_X3_totalSugar_4 hj E 2000 _ _ hf
def f_X3_totalPayments_4 (X : XT) (j : Nat) : Nat → Int32 → Int32 → Option Int32
  | 0, _, _ => none
  | n + 1, v1, v2 => if (X 20 j 0 1) ≤ v2 then (some v1) else (gd (¬ (v2 < 0 ∨ 20 ≤ v2.toNatClampNeg)) (bnd (v1 + (X 22 j v2.toNatClampNeg 8)) (fun x1 => f_X3_totalPayments_4 X j n x1 (v2 + 1))))
def f_X3_totalPayments (X : XT) (j : Nat) : Option Int32 :=
  f_X3_totalPayments_4 X j 2000 0 0
set_option maxRecDepth 20000 in
theorem b_X3_totalPayments_4 {p : Program} {l : Launch} {e : Env} {s : State} {m : MethodId} {args : Array Value} {below : List Frame} {meth : Method} {c : Code} {D : DD} {z : Nat} {Y : YT} {X : XT} {j : Nat} (hj : j < 10) (E : Cx p s m args meth c D z RX3 cX3_totalPayments 3 (some .int)) {r : Int32} : ∀ (n : Nat) (v1 : Int32) (v2 : Int32) (hf : f_X3_totalPayments_4 X j n v1 v2 = some r), J p l e (rmk 1 0 0) s m args below meth c D z (GG D z (X, Y)) 0 0 (MQ below (QC z (some (.int r)) (GG D z (X, Y))) args s (rmk 1 0 0).cells (rmk 1 0 0).slots (Az z)) 3 4 [(0, .ref (z + aX 20 j 0)), (1, .int v1), (2, .int v2)] [] := by
  intro n
  induction n with
  | zero =>
    intro v1 v2 hf
    exact none_e hf
  | succ n ih =>
    intro v1 v2 hf
    rw [f_X3_totalPayments_4] at hf
    refine j_iload_n E 2 rfl dX3_totalPayments_4 ?_
    refine j_aload_n E 0 rfl dX3_totalPayments_5 ?_
    refine j_get (f := 1) E (okb20 hj) cf_X3 fl_X3_22 (lt_ rfl) rfl ent20 rfl dX3_totalPayments_6 ?_
    refine j_icmp_ge E 30 (by decide) dX3_totalPayments_9 (fun c1 => ?_) (fun c1 => ?_)
    · rw [if_pos c1] at hf
      refine j_iload_n E 1 rfl dX3_totalPayments_30 ?_
      cases hf
      exact j_iret E rfl (le_ rfl) (le_ rfl) dX3_totalPayments_31
    · rw [if_neg c1] at hf
      refine j_iload_n E 1 rfl dX3_totalPayments_12 ?_
      refine j_aload_n E 0 rfl dX3_totalPayments_13 ?_
      refine j_get (f := 0) E (okb20 hj) cf_X3 fl_X3_11 (lt_ rfl) rfl ent20 rfl dX3_totalPayments_14 ?_
      refine j_iload_n E 2 rfl dX3_totalPayments_17 ?_
      obtain ⟨g1, hf⟩ := gd_e hf
      refine j_aald (t := 4) E (okb21 hj) ent21 rfl g1 dX3_totalPayments_18 ?_
      refine j_getN (f := 8) E (okb22 hj (in_cl g1)) cf_X6 fl_X3_36 (lt_ rfl) rfl ent22 rfl dX3_totalPayments_19 ?_
      refine j_iadd E dX3_totalPayments_22 ?_
      obtain ⟨x1, hx1, hf⟩ := bnd_e hf
      refine j_name hx1 ?_
      refine j_istore_n (ls' := [(1, .int x1), (0, .ref (z + aX 20 j 0)), (2, .int v2)]) E (lt_ rfl) rfl dX3_totalPayments_23 ?_
      refine j_iinc (ls' := [(2, .int (v2 + 1)), (1, .int x1), (0, .ref (z + aX 20 j 0))]) E 2 rfl (lt_ rfl) (v2 + 1) (congrArg (fun q => v2 + q) ic_1) rfl dX3_totalPayments_24 ?_
      refine j_goto E 4 (by decide) dX3_totalPayments_27 ?_
      refine j_sub [2, 1, 0] rfl ?_
      exact ih _ _ hf
set_option maxRecDepth 20000 in
theorem c_X3_totalPayments {l : Launch} {D : DD} {z : Nat} {Y : YT} {X : XT} {j : Nat} (hj : j < 10) {r : Int32} (hf : f_X3_totalPayments X j = some r) : CC l yX3_totalPayments cX3_totalPayments 3 (some .int) (rmk 1 0 0) D z [.ref (z + aX 20 j 0)] (GG D z (X, Y)) (some (.int r)) (GG D z (X, Y)) := by
  unfold f_X3_totalPayments at hf
  refine cc_of pn_X3 (le_ rfl) (ls := [(0, .ref (z + aX 20 j 0))]) rfl ?_
  intro p e s m args below meth c E
  refine j_iconst E 0 ic_0 dX3_totalPayments_0 ?_
  refine j_istore_n (ls' := [(1, .int 0), (0, .ref (z + aX 20 j 0))]) E (lt_ rfl) rfl dX3_totalPayments_1 ?_
  refine j_iconst E 0 ic_0 dX3_totalPayments_2 ?_
  refine j_istore_n (ls' := [(2, .int 0), (1, .int 0), (0, .ref (z + aX 20 j 0))]) E (lt_ rfl) rfl dX3_totalPayments_3 ?_
  refine j_sub [2, 1, 0] rfl ?_
  exact b_X3_totalPayments_4 hj E 2000 _ _ hf
def f_X3_paymentsTo_4 (X : XT) (j : Nat) (v1 : Int32) : Nat → Int32 → Int32 → Option Int32
  | 0, _, _ => none
  | n + 1, v2, v3 => if (X 20 j 0 1) ≤ v3 then (some v2) else (gd (¬ (v3 < 0 ∨ 20 ≤ v3.toNatClampNeg)) (if (X 22 j v3.toNatClampNeg 1) = v1 then (gd (¬ (v3 < 0 ∨ 20 ≤ v3.toNatClampNeg)) (bnd (v2 + (X 22 j v3.toNatClampNeg 8)) (fun x1 => f_X3_paymentsTo_4 X j v1 n x1 (v3 + 1)))) else (f_X3_paymentsTo_4 X j v1 n v2 (v3 + 1))))
def f_X3_paymentsTo (X : XT) (j : Nat) (v1 : Int32) : Option Int32 :=
  f_X3_paymentsTo_4 X j v1 2000 0 0
set_option maxRecDepth 20000 in
theorem b_X3_paymentsTo_4 {p : Program} {l : Launch} {e : Env} {s : State} {m : MethodId} {args : Array Value} {below : List Frame} {meth : Method} {c : Code} {D : DD} {z : Nat} {Y : YT} {X : XT} {j : Nat} (hj : j < 10) {v1 : Int32} (E : Cx p s m args meth c D z RX3 cX3_paymentsTo 4 (some .int)) {r : Int32} : ∀ (n : Nat) (v2 : Int32) (v3 : Int32) (hf : f_X3_paymentsTo_4 X j v1 n v2 v3 = some r), J p l e (rmk 1 0 0) s m args below meth c D z (GG D z (X, Y)) 0 0 (MQ below (QC z (some (.int r)) (GG D z (X, Y))) args s (rmk 1 0 0).cells (rmk 1 0 0).slots (Az z)) 4 4 [(0, .ref (z + aX 20 j 0)), (1, .int v1), (2, .int v2), (3, .int v3)] [] := by
  intro n
  induction n with
  | zero =>
    intro v2 v3 hf
    exact none_e hf
  | succ n ih =>
    intro v2 v3 hf
    rw [f_X3_paymentsTo_4] at hf
    refine j_iload_n E 3 rfl dX3_paymentsTo_4 ?_
    refine j_aload_n E 0 rfl dX3_paymentsTo_5 ?_
    refine j_get (f := 1) E (okb20 hj) cf_X3 fl_X3_22 (lt_ rfl) rfl ent20 rfl dX3_paymentsTo_6 ?_
    refine j_icmp_ge E 43 (by decide) dX3_paymentsTo_9 (fun c1 => ?_) (fun c1 => ?_)
    · rw [if_pos c1] at hf
      refine j_iload_n E 2 rfl dX3_paymentsTo_43 ?_
      cases hf
      exact j_iret E rfl (le_ rfl) (le_ rfl) dX3_paymentsTo_44
    · rw [if_neg c1] at hf
      refine j_aload_n E 0 rfl dX3_paymentsTo_12 ?_
      refine j_get (f := 0) E (okb20 hj) cf_X3 fl_X3_11 (lt_ rfl) rfl ent20 rfl dX3_paymentsTo_13 ?_
      refine j_iload_n E 3 rfl dX3_paymentsTo_16 ?_
      obtain ⟨g1, hf⟩ := gd_e hf
      refine j_aald (t := 4) E (okb21 hj) ent21 rfl g1 dX3_paymentsTo_17 ?_
      refine j_getN (f := 1) E (okb22 hj (in_cl g1)) cf_X6 fl_X3_45 (lt_ rfl) rfl ent22 rfl dX3_paymentsTo_18 ?_
      refine j_iload_n E 1 rfl dX3_paymentsTo_21 ?_
      refine j_icmp_ne E 37 (by decide) dX3_paymentsTo_22 (fun c2 => ?_) (fun c2 => ?_)
      · rw [if_neg c2] at hf
        refine j_iinc (ls' := [(3, .int (v3 + 1)), (0, .ref (z + aX 20 j 0)), (1, .int v1), (2, .int v2)]) E 3 rfl (lt_ rfl) (v3 + 1) (congrArg (fun q => v3 + q) ic_1) rfl dX3_paymentsTo_37 ?_
        refine j_goto E 4 (by decide) dX3_paymentsTo_40 ?_
        refine j_sub [1, 2, 3, 0] rfl ?_
        exact ih _ _ hf
      · rw [if_pos c2] at hf
        refine j_iload_n E 2 rfl dX3_paymentsTo_25 ?_
        refine j_aload_n E 0 rfl dX3_paymentsTo_26 ?_
        refine j_get (f := 0) E (okb20 hj) cf_X3 fl_X3_11 (lt_ rfl) rfl ent20 rfl dX3_paymentsTo_27 ?_
        refine j_iload_n E 3 rfl dX3_paymentsTo_30 ?_
        obtain ⟨g2, hf⟩ := gd_e hf
        refine j_aald (t := 4) E (okb21 hj) ent21 rfl g2 dX3_paymentsTo_31 ?_
        refine j_getN (f := 8) E (okb22 hj (in_cl g2)) cf_X6 fl_X3_36 (lt_ rfl) rfl ent22 rfl dX3_paymentsTo_32 ?_
        refine j_iadd E dX3_paymentsTo_35 ?_
        obtain ⟨x1, hx1, hf⟩ := bnd_e hf
        refine j_name hx1 ?_
        refine j_istore_n (ls' := [(2, .int x1), (0, .ref (z + aX 20 j 0)), (1, .int v1), (3, .int v3)]) E (lt_ rfl) rfl dX3_paymentsTo_36 ?_
        refine j_iinc (ls' := [(3, .int (v3 + 1)), (2, .int x1), (0, .ref (z + aX 20 j 0)), (1, .int v1)]) E 3 rfl (lt_ rfl) (v3 + 1) (congrArg (fun q => v3 + q) ic_1) rfl dX3_paymentsTo_37 ?_
        refine j_goto E 4 (by decide) dX3_paymentsTo_40 ?_
        refine j_sub [2, 3, 1, 0] rfl ?_
        exact ih _ _ hf
set_option maxRecDepth 20000 in
theorem c_X3_paymentsTo {l : Launch} {D : DD} {z : Nat} {Y : YT} {X : XT} {j : Nat} (hj : j < 10) {v1 : Int32} {r : Int32} (hf : f_X3_paymentsTo X j v1 = some r) : CC l yX3_paymentsTo cX3_paymentsTo 4 (some .int) (rmk 1 0 0) D z [.ref (z + aX 20 j 0), .int v1] (GG D z (X, Y)) (some (.int r)) (GG D z (X, Y)) := by
  unfold f_X3_paymentsTo at hf
  refine cc_of pn_X3 (le_ rfl) (ls := [(0, .ref (z + aX 20 j 0)), (1, .int v1)]) rfl ?_
  intro p e s m args below meth c E
  refine j_iconst E 0 ic_0 dX3_paymentsTo_0 ?_
  refine j_istore_n (ls' := [(2, .int 0), (0, .ref (z + aX 20 j 0)), (1, .int v1)]) E (lt_ rfl) rfl dX3_paymentsTo_1 ?_
  refine j_iconst E 0 ic_0 dX3_paymentsTo_2 ?_
  refine j_istore_n (ls' := [(3, .int 0), (2, .int 0), (0, .ref (z + aX 20 j 0)), (1, .int v1)]) E (lt_ rfl) rfl dX3_paymentsTo_3 ?_
  refine j_sub [2, 3, 1, 0] rfl ?_
  exact b_X3_paymentsTo_4 hj E 2000 _ _ hf
def f_X6_isOfPair (X : XT) (j i : Nat) (v1 : Int32) (v2 : Int32) : Option Int32 :=
  if (X 22 j i 2) = v1 then (if (X 22 j i 5) = v2 then (some 1) else (some 0)) else (some 0)
set_option maxRecDepth 20000 in
theorem c_X6_isOfPair {l : Launch} {D : DD} {z : Nat} {Y : YT} {X : XT} {j i : Nat} (hj : j < 10) (hi : i < 20) {v1 : Int32} {v2 : Int32} {r : Int32} (hf : f_X6_isOfPair X j i v1 v2 = some r) : CC l yX6_isOfPair cX6_isOfPair 3 (some .boolean) (rmk 1 0 0) D z [.ref (z + aX 22 j i), .int v1, .int v2] (GG D z (X, Y)) (some (.int r)) (GG D z (X, Y)) := by
  unfold f_X6_isOfPair at hf
  refine cc_of pn_X6 (le_ rfl) (ls := [(0, .ref (z + aX 22 j i)), (1, .int v1), (2, .int v2)]) rfl ?_
  intro p e s m args below meth c E
  refine j_aload_n E 0 rfl dX6_isOfPair_0 ?_
  refine j_get (f := 2) E (okb22 hj hi) cf_X6 fl_X6_16 (lt_ rfl) rfl ent22 rfl dX6_isOfPair_1 ?_
  refine j_iload_n E 1 rfl dX6_isOfPair_4 ?_
  refine j_icmp_ne E 20 (by decide) dX6_isOfPair_5 (fun c1 => ?_) (fun c1 => ?_)
  · rw [if_neg c1] at hf
    refine j_iconst E 0 ic_0 dX6_isOfPair_20 ?_
    cases hf
    exact j_iret E rfl (le_ rfl) (le_ rfl) dX6_isOfPair_21
  · rw [if_pos c1] at hf
    refine j_aload_n E 0 rfl dX6_isOfPair_8 ?_
    refine j_get (f := 5) E (okb22 hj hi) cf_X6 fl_X6_25 (lt_ rfl) rfl ent22 rfl dX6_isOfPair_9 ?_
    refine j_iload_n E 2 rfl dX6_isOfPair_12 ?_
    refine j_icmp_ne E 20 (by decide) dX6_isOfPair_13 (fun c2 => ?_) (fun c2 => ?_)
    · rw [if_neg c2] at hf
      refine j_iconst E 0 ic_0 dX6_isOfPair_20 ?_
      cases hf
      exact j_iret E rfl (le_ rfl) (le_ rfl) dX6_isOfPair_21
    · rw [if_pos c2] at hf
      refine j_iconst E 1 ic_1 dX6_isOfPair_16 ?_
      refine j_goto E 21 (by decide) dX6_isOfPair_17 ?_
      cases hf
      exact j_iret E rfl (le_ rfl) (le_ rfl) dX6_isOfPair_21
def f_X3_weightOfPair_5 (X : XT) (j : Nat) (v1 : Int32) (v2 : Int32) : Nat → Int32 → Int32 → Option Int32
  | 0, _, _ => none
  | n + 1, v3, v4 => if (X 20 j 0 1) ≤ v4 then (some v3) else (gd (¬ (v4 < 0 ∨ 20 ≤ v4.toNatClampNeg)) (bn1 (f_X6_isOfPair X j (v4.toNatClampNeg) v1 v2) (fun r1 => if r1 = 0 then (f_X3_weightOfPair_5 X j v1 v2 n v3 (v4 + 1)) else (gd (¬ (v4 < 0 ∨ 20 ≤ v4.toNatClampNeg)) (bnd (v3 + (X 22 j v4.toNatClampNeg 3)) (fun x1 => f_X3_weightOfPair_5 X j v1 v2 n x1 (v4 + 1)))))))
def f_X3_weightOfPair (X : XT) (j : Nat) (v1 : Int32) (v2 : Int32) : Option Int32 :=
  f_X3_weightOfPair_5 X j v1 v2 2000 0 0
set_option maxRecDepth 20000 in
theorem b_X3_weightOfPair_5 {p : Program} {l : Launch} {e : Env} {s : State} {m : MethodId} {args : Array Value} {below : List Frame} {meth : Method} {c : Code} {D : DD} {z : Nat} {Y : YT} {X : XT} {j : Nat} (hj : j < 10) {v1 : Int32} {v2 : Int32} (E : Cx p s m args meth c D z RX3 cX3_weightOfPair 5 (some .int)) {r : Int32} : ∀ (n : Nat) (v3 : Int32) (v4 : Int32) (hf : f_X3_weightOfPair_5 X j v1 v2 n v3 v4 = some r), J p l e (rmk 2 0 0) s m args below meth c D z (GG D z (X, Y)) 0 0 (MQ below (QC z (some (.int r)) (GG D z (X, Y))) args s (rmk 2 0 0).cells (rmk 2 0 0).slots (Az z)) 5 5 [(0, .ref (z + aX 20 j 0)), (1, .int v1), (2, .int v2), (3, .int v3), (4, .int v4)] [] := by
  intro n
  induction n with
  | zero =>
    intro v3 v4 hf
    exact none_e hf
  | succ n ih =>
    intro v3 v4 hf
    rw [f_X3_weightOfPair_5] at hf
    refine j_iload E 4 rfl dX3_weightOfPair_5 ?_
    refine j_aload_n E 0 rfl dX3_weightOfPair_7 ?_
    refine j_get (f := 1) E (okb20 hj) cf_X3 fl_X3_22 (lt_ rfl) rfl ent20 rfl dX3_weightOfPair_8 ?_
    refine j_icmp_ge E 48 (by decide) dX3_weightOfPair_11 (fun c1 => ?_) (fun c1 => ?_)
    · rw [if_pos c1] at hf
      refine j_iload_n E 3 rfl dX3_weightOfPair_48 ?_
      cases hf
      exact j_iret E rfl (le_ rfl) (le_ rfl) dX3_weightOfPair_49
    · rw [if_neg c1] at hf
      refine j_aload_n E 0 rfl dX3_weightOfPair_14 ?_
      refine j_get (f := 0) E (okb20 hj) cf_X3 fl_X3_11 (lt_ rfl) rfl ent20 rfl dX3_weightOfPair_15 ?_
      refine j_iload E 4 rfl dX3_weightOfPair_18 ?_
      obtain ⟨g1, hf⟩ := gd_e hf
      refine j_aald (t := 4) E (okb21 hj) ent21 rfl g1 dX3_weightOfPair_20 ?_
      refine j_iload_n E 1 rfl dX3_weightOfPair_21 ?_
      refine j_iload_n E 2 rfl dX3_weightOfPair_22 ?_
      obtain ⟨r1, h1, hf⟩ := bn1_e hf
      refine j_invV [] [.int r1] E (c_X6_isOfPair hj (in_cl g1) h1) ml_X3_58 mv_X6_isOfPair rfl ⟨le_ rfl, le_ rfl⟩ (rcX (okb22 hj (in_cl g1)) cf_X6 ent22) rfl rfl (le_ rfl) ⟨le_ rfl, le_ rfl⟩ dX3_weightOfPair_23 ?_
      refine j_if_eq E 42 (by decide) dX3_weightOfPair_26 (fun c2 => ?_) (fun c2 => ?_)
      · rw [if_pos c2] at hf
        refine j_iinc (ls' := [(4, .int (v4 + 1)), (0, .ref (z + aX 20 j 0)), (1, .int v1), (2, .int v2), (3, .int v3)]) E 4 rfl (lt_ rfl) (v4 + 1) (congrArg (fun q => v4 + q) ic_1) rfl dX3_weightOfPair_42 ?_
        refine j_goto E 5 (by decide) dX3_weightOfPair_45 ?_
        refine j_sub [1, 2, 3, 4, 0] rfl ?_
        exact ih _ _ hf
      · rw [if_neg c2] at hf
        refine j_iload_n E 3 rfl dX3_weightOfPair_29 ?_
        refine j_aload_n E 0 rfl dX3_weightOfPair_30 ?_
        refine j_get (f := 0) E (okb20 hj) cf_X3 fl_X3_11 (lt_ rfl) rfl ent20 rfl dX3_weightOfPair_31 ?_
        refine j_iload E 4 rfl dX3_weightOfPair_34 ?_
        obtain ⟨g2, hf⟩ := gd_e hf
        refine j_aald (t := 4) E (okb21 hj) ent21 rfl g2 dX3_weightOfPair_36 ?_
        refine j_getN (f := 3) E (okb22 hj (in_cl g2)) cf_X6 fl_X3_39 (lt_ rfl) rfl ent22 rfl dX3_weightOfPair_37 ?_
        refine j_iadd E dX3_weightOfPair_40 ?_
        obtain ⟨x1, hx1, hf⟩ := bnd_e hf
        refine j_name hx1 ?_
        refine j_istore_n (ls' := [(3, .int x1), (0, .ref (z + aX 20 j 0)), (1, .int v1), (2, .int v2), (4, .int v4)]) E (lt_ rfl) rfl dX3_weightOfPair_41 ?_
        refine j_iinc (ls' := [(4, .int (v4 + 1)), (3, .int x1), (0, .ref (z + aX 20 j 0)), (1, .int v1), (2, .int v2)]) E 4 rfl (lt_ rfl) (v4 + 1) (congrArg (fun q => v4 + q) ic_1) rfl dX3_weightOfPair_42 ?_
        refine j_goto E 5 (by decide) dX3_weightOfPair_45 ?_
        refine j_sub [2, 3, 4, 1, 0] rfl ?_
        exact ih _ _ hf
set_option maxRecDepth 20000 in
theorem c_X3_weightOfPair {l : Launch} {D : DD} {z : Nat} {Y : YT} {X : XT} {j : Nat} (hj : j < 10) {v1 : Int32} {v2 : Int32} {r : Int32} (hf : f_X3_weightOfPair X j v1 v2 = some r) : CC l yX3_weightOfPair cX3_weightOfPair 5 (some .int) (rmk 2 0 0) D z [.ref (z + aX 20 j 0), .int v1, .int v2] (GG D z (X, Y)) (some (.int r)) (GG D z (X, Y)) := by
  unfold f_X3_weightOfPair at hf
  refine cc_of pn_X3 (le_ rfl) (ls := [(0, .ref (z + aX 20 j 0)), (1, .int v1), (2, .int v2)]) rfl ?_
  intro p e s m args below meth c E
  refine j_iconst E 0 ic_0 dX3_weightOfPair_0 ?_
  refine j_istore_n (ls' := [(3, .int 0), (0, .ref (z + aX 20 j 0)), (1, .int v1), (2, .int v2)]) E (lt_ rfl) rfl dX3_weightOfPair_1 ?_
  refine j_iconst E 0 ic_0 dX3_weightOfPair_2 ?_
  refine j_istore (ls' := [(4, .int 0), (3, .int 0), (0, .ref (z + aX 20 j 0)), (1, .int v1), (2, .int v2)]) E (lt_ rfl) rfl dX3_weightOfPair_3 ?_
  refine j_sub [2, 3, 4, 1, 0] rfl ?_
  exact b_X3_weightOfPair_5 hj E 2000 _ _ hf
def f_X3_isNewPair_2 (X : XT) (j j1 i1 : Nat) (v2 : Int32) : Nat → Int32 → Option Int32
  | 0, _ => none
  | n + 1, v3 => if v2 ≤ v3 then (some 1) else (if (X 20 j 0 1) ≤ v3 then (some 1) else (gd (¬ (v3 < 0 ∨ 20 ≤ v3.toNatClampNeg)) (bn1 (f_X6_isOfPair X j (v3.toNatClampNeg) (X 22 j1 i1 2) (X 22 j1 i1 5)) (fun r1 => if r1 = 0 then (f_X3_isNewPair_2 X j j1 i1 v2 n (v3 + 1)) else (some 0)))))
def f_X3_isNewPair (X : XT) (j j1 i1 : Nat) (v2 : Int32) : Option Int32 :=
  f_X3_isNewPair_2 X j j1 i1 v2 2000 0
set_option maxRecDepth 20000 in
theorem b_X3_isNewPair_2 {p : Program} {l : Launch} {e : Env} {s : State} {m : MethodId} {args : Array Value} {below : List Frame} {meth : Method} {c : Code} {D : DD} {z : Nat} {Y : YT} {X : XT} {j j1 i1 : Nat} (hj : j < 10) (hj1 : j1 < 10) (hi1 : i1 < 20) {v2 : Int32} (E : Cx p s m args meth c D z RX3 cX3_isNewPair 4 (some .boolean)) {r : Int32} : ∀ (n : Nat) (v3 : Int32) (hf : f_X3_isNewPair_2 X j j1 i1 v2 n v3 = some r), J p l e (rmk 2 0 0) s m args below meth c D z (GG D z (X, Y)) 0 0 (MQ below (QC z (some (.int r)) (GG D z (X, Y))) args s (rmk 2 0 0).cells (rmk 2 0 0).slots (Az z)) 4 2 [(0, .ref (z + aX 20 j 0)), (1, .ref (z + aX 22 j1 i1)), (2, .int v2), (3, .int v3)] [] := by
  intro n
  induction n with
  | zero =>
    intro v3 hf
    exact none_e hf
  | succ n ih =>
    intro v3 hf
    rw [f_X3_isNewPair_2] at hf
    refine j_iload_n E 3 rfl dX3_isNewPair_2 ?_
    refine j_iload_n E 2 rfl dX3_isNewPair_3 ?_
    refine j_icmp_ge E 43 (by decide) dX3_isNewPair_4 (fun c1 => ?_) (fun c1 => ?_)
    · rw [if_pos c1] at hf
      refine j_iconst E 1 ic_1 dX3_isNewPair_43 ?_
      cases hf
      exact j_iret E rfl (le_ rfl) (le_ rfl) dX3_isNewPair_44
    · rw [if_neg c1] at hf
      refine j_iload_n E 3 rfl dX3_isNewPair_7 ?_
      refine j_aload_n E 0 rfl dX3_isNewPair_8 ?_
      refine j_get (f := 1) E (okb20 hj) cf_X3 fl_X3_22 (lt_ rfl) rfl ent20 rfl dX3_isNewPair_9 ?_
      refine j_icmp_ge E 43 (by decide) dX3_isNewPair_12 (fun c2 => ?_) (fun c2 => ?_)
      · rw [if_pos c2] at hf
        refine j_iconst E 1 ic_1 dX3_isNewPair_43 ?_
        cases hf
        exact j_iret E rfl (le_ rfl) (le_ rfl) dX3_isNewPair_44
      · rw [if_neg c2] at hf
        refine j_aload_n E 0 rfl dX3_isNewPair_15 ?_
        refine j_get (f := 0) E (okb20 hj) cf_X3 fl_X3_11 (lt_ rfl) rfl ent20 rfl dX3_isNewPair_16 ?_
        refine j_iload_n E 3 rfl dX3_isNewPair_19 ?_
        obtain ⟨g1, hf⟩ := gd_e hf
        refine j_aald (t := 4) E (okb21 hj) ent21 rfl g1 dX3_isNewPair_20 ?_
        refine j_aload_n E 1 rfl dX3_isNewPair_21 ?_
        refine j_getN (f := 2) E (okb22 hj1 hi1) cf_X6 fl_X3_52 (lt_ rfl) rfl ent22 rfl dX3_isNewPair_22 ?_
        refine j_aload_n E 1 rfl dX3_isNewPair_25 ?_
        refine j_getN (f := 5) E (okb22 hj1 hi1) cf_X6 fl_X3_62 (lt_ rfl) rfl ent22 rfl dX3_isNewPair_26 ?_
        obtain ⟨r1, h1, hf⟩ := bn1_e hf
        refine j_invV [] [.int r1] E (c_X6_isOfPair hj (in_cl g1) h1) ml_X3_58 mv_X6_isOfPair rfl ⟨le_ rfl, le_ rfl⟩ (rcX (okb22 hj (in_cl g1)) cf_X6 ent22) rfl rfl (le_ rfl) ⟨le_ rfl, le_ rfl⟩ dX3_isNewPair_29 ?_
        refine j_if_eq E 37 (by decide) dX3_isNewPair_32 (fun c3 => ?_) (fun c3 => ?_)
        · rw [if_pos c3] at hf
          refine j_iinc (ls' := [(3, .int (v3 + 1)), (0, .ref (z + aX 20 j 0)), (1, .ref (z + aX 22 j1 i1)), (2, .int v2)]) E 3 rfl (lt_ rfl) (v3 + 1) (congrArg (fun q => v3 + q) ic_1) rfl dX3_isNewPair_37 ?_
          refine j_goto E 2 (by decide) dX3_isNewPair_40 ?_
          refine j_sub [1, 2, 3, 0] rfl ?_
          exact ih _ hf
        · rw [if_neg c3] at hf
          refine j_iconst E 0 ic_0 dX3_isNewPair_35 ?_
          cases hf
          exact j_iret E rfl (le_ rfl) (le_ rfl) dX3_isNewPair_36
set_option maxRecDepth 20000 in
theorem c_X3_isNewPair {l : Launch} {D : DD} {z : Nat} {Y : YT} {X : XT} {j j1 i1 : Nat} (hj : j < 10) (hj1 : j1 < 10) (hi1 : i1 < 20) {v2 : Int32} {r : Int32} (hf : f_X3_isNewPair X j j1 i1 v2 = some r) : CC l yX3_isNewPair cX3_isNewPair 4 (some .boolean) (rmk 2 0 0) D z [.ref (z + aX 20 j 0), .ref (z + aX 22 j1 i1), .int v2] (GG D z (X, Y)) (some (.int r)) (GG D z (X, Y)) := by
  unfold f_X3_isNewPair at hf
  refine cc_of pn_X3 (le_ rfl) (ls := [(0, .ref (z + aX 20 j 0)), (1, .ref (z + aX 22 j1 i1)), (2, .int v2)]) rfl ?_
  intro p e s m args below meth c E
  refine j_iconst E 0 ic_0 dX3_isNewPair_0 ?_
  refine j_istore_n (ls' := [(3, .int 0), (0, .ref (z + aX 20 j 0)), (1, .ref (z + aX 22 j1 i1)), (2, .int v2)]) E (lt_ rfl) rfl dX3_isNewPair_1 ?_
  refine j_sub [1, 2, 3, 0] rfl ?_
  exact b_X3_isNewPair_2 hj hj1 hi1 E 2000 _ hf
def f_X3_countPairs_4 (X : XT) (j : Nat) : Nat → Int32 → Int32 → Option Int32
  | 0, _, _ => none
  | n + 1, v1, v2 => if (X 20 j 0 1) ≤ v2 then (some v1) else (gd (¬ (v2 < 0 ∨ 20 ≤ v2.toNatClampNeg)) (bn1 (f_X3_isNewPair X j j (v2.toNatClampNeg) v2) (fun r1 => if r1 = 0 then (f_X3_countPairs_4 X j n v1 (v2 + 1)) else (f_X3_countPairs_4 X j n (v1 + 1) (v2 + 1)))))
def f_X3_countPairs (X : XT) (j : Nat) : Option Int32 :=
  f_X3_countPairs_4 X j 2000 0 0
set_option maxRecDepth 20000 in
theorem b_X3_countPairs_4 {p : Program} {l : Launch} {e : Env} {s : State} {m : MethodId} {args : Array Value} {below : List Frame} {meth : Method} {c : Code} {D : DD} {z : Nat} {Y : YT} {X : XT} {j : Nat} (hj : j < 10) (E : Cx p s m args meth c D z RX3 cX3_countPairs 3 (some .int)) {r : Int32} : ∀ (n : Nat) (v1 : Int32) (v2 : Int32) (hf : f_X3_countPairs_4 X j n v1 v2 = some r), J p l e (rmk 3 0 0) s m args below meth c D z (GG D z (X, Y)) 0 0 (MQ below (QC z (some (.int r)) (GG D z (X, Y))) args s (rmk 3 0 0).cells (rmk 3 0 0).slots (Az z)) 3 4 [(0, .ref (z + aX 20 j 0)), (1, .int v1), (2, .int v2)] [] := by
  intro n
  induction n with
  | zero =>
    intro v1 v2 hf
    exact none_e hf
  | succ n ih =>
    intro v1 v2 hf
    rw [f_X3_countPairs_4] at hf
    refine j_iload_n E 2 rfl dX3_countPairs_4 ?_
    refine j_aload_n E 0 rfl dX3_countPairs_5 ?_
    refine j_get (f := 1) E (okb20 hj) cf_X3 fl_X3_22 (lt_ rfl) rfl ent20 rfl dX3_countPairs_6 ?_
    refine j_icmp_ge E 35 (by decide) dX3_countPairs_9 (fun c1 => ?_) (fun c1 => ?_)
    · rw [if_pos c1] at hf
      refine j_iload_n E 1 rfl dX3_countPairs_35 ?_
      cases hf
      exact j_iret E rfl (le_ rfl) (le_ rfl) dX3_countPairs_36
    · rw [if_neg c1] at hf
      refine j_aload_n E 0 rfl dX3_countPairs_12 ?_
      refine j_aload_n E 0 rfl dX3_countPairs_13 ?_
      refine j_get (f := 0) E (okb20 hj) cf_X3 fl_X3_11 (lt_ rfl) rfl ent20 rfl dX3_countPairs_14 ?_
      refine j_iload_n E 2 rfl dX3_countPairs_17 ?_
      obtain ⟨g1, hf⟩ := gd_e hf
      refine j_aald (t := 4) E (okb21 hj) ent21 rfl g1 dX3_countPairs_18 ?_
      refine j_iload_n E 2 rfl dX3_countPairs_19 ?_
      obtain ⟨r1, h1, hf⟩ := bn1_e hf
      refine j_invV [] [.int r1] E (c_X3_isNewPair hj hj (in_cl g1) h1) ml_X3_65 mv_X3_isNewPair rfl ⟨le_ rfl, le_ rfl⟩ (rcX (okb20 hj) cf_X3 ent20) rfl rfl (le_ rfl) ⟨le_ rfl, le_ rfl⟩ dX3_countPairs_20 ?_
      refine j_if_eq E 29 (by decide) dX3_countPairs_23 (fun c2 => ?_) (fun c2 => ?_)
      · rw [if_pos c2] at hf
        refine j_iinc (ls' := [(2, .int (v2 + 1)), (0, .ref (z + aX 20 j 0)), (1, .int v1)]) E 2 rfl (lt_ rfl) (v2 + 1) (congrArg (fun q => v2 + q) ic_1) rfl dX3_countPairs_29 ?_
        refine j_goto E 4 (by decide) dX3_countPairs_32 ?_
        refine j_sub [1, 2, 0] rfl ?_
        exact ih _ _ hf
      · rw [if_neg c2] at hf
        refine j_iinc (ls' := [(1, .int (v1 + 1)), (0, .ref (z + aX 20 j 0)), (2, .int v2)]) E 1 rfl (lt_ rfl) (v1 + 1) (congrArg (fun q => v1 + q) ic_1) rfl dX3_countPairs_26 ?_
        refine j_iinc (ls' := [(2, .int (v2 + 1)), (1, .int (v1 + 1)), (0, .ref (z + aX 20 j 0))]) E 2 rfl (lt_ rfl) (v2 + 1) (congrArg (fun q => v2 + q) ic_1) rfl dX3_countPairs_29 ?_
        refine j_goto E 4 (by decide) dX3_countPairs_32 ?_
        refine j_sub [2, 1, 0] rfl ?_
        exact ih _ _ hf
set_option maxRecDepth 20000 in
theorem c_X3_countPairs {l : Launch} {D : DD} {z : Nat} {Y : YT} {X : XT} {j : Nat} (hj : j < 10) {r : Int32} (hf : f_X3_countPairs X j = some r) : CC l yX3_countPairs cX3_countPairs 3 (some .int) (rmk 3 0 0) D z [.ref (z + aX 20 j 0)] (GG D z (X, Y)) (some (.int r)) (GG D z (X, Y)) := by
  unfold f_X3_countPairs at hf
  refine cc_of pn_X3 (le_ rfl) (ls := [(0, .ref (z + aX 20 j 0))]) rfl ?_
  intro p e s m args below meth c E
  refine j_iconst E 0 ic_0 dX3_countPairs_0 ?_
  refine j_istore_n (ls' := [(1, .int 0), (0, .ref (z + aX 20 j 0))]) E (lt_ rfl) rfl dX3_countPairs_1 ?_
  refine j_iconst E 0 ic_0 dX3_countPairs_2 ?_
  refine j_istore_n (ls' := [(2, .int 0), (1, .int 0), (0, .ref (z + aX 20 j 0))]) E (lt_ rfl) rfl dX3_countPairs_3 ?_
  refine j_sub [2, 1, 0] rfl ?_
  exact b_X3_countPairs_4 hj E 2000 _ _ hf
def f_X6_pairCode (X : XT) (j i : Nat) : Option Int32 :=
  some ((10 * (X 22 j i 2)) + (X 22 j i 5))
set_option maxRecDepth 20000 in
theorem c_X6_pairCode {l : Launch} {D : DD} {z : Nat} {Y : YT} {X : XT} {j i : Nat} (hj : j < 10) (hi : i < 20) {r : Int32} (hf : f_X6_pairCode X j i = some r) : CC l yX6_pairCode cX6_pairCode 1 (some .int) (rmk 1 0 0) D z [.ref (z + aX 22 j i)] (GG D z (X, Y)) (some (.int r)) (GG D z (X, Y)) := by
  unfold f_X6_pairCode at hf
  refine cc_of pn_X6 (le_ rfl) (ls := [(0, .ref (z + aX 22 j i))]) rfl ?_
  intro p e s m args below meth c E
  refine j_bipush E 10 bp_10 dX6_pairCode_0 ?_
  refine j_aload_n E 0 rfl dX6_pairCode_2 ?_
  refine j_get (f := 2) E (okb22 hj hi) cf_X6 fl_X6_16 (lt_ rfl) rfl ent22 rfl dX6_pairCode_3 ?_
  refine j_imul E dX6_pairCode_6 ?_
  refine j_aload_n E 0 rfl dX6_pairCode_7 ?_
  refine j_get (f := 5) E (okb22 hj hi) cf_X6 fl_X6_25 (lt_ rfl) rfl ent22 rfl dX6_pairCode_8 ?_
  refine j_iadd E dX6_pairCode_11 ?_
  cases hf
  exact j_iret E rfl (le_ rfl) (le_ rfl) dX6_pairCode_12
def f_X3_pairAtRank_4 (X : XT) (j : Nat) (v1 : Int32) : Nat → Int32 → Int32 → Option Int32
  | 0, _, _ => none
  | n + 1, v2, v3 => if (X 20 j 0 1) ≤ v3 then (some (-1)) else (gd (¬ (v3 < 0 ∨ 20 ≤ v3.toNatClampNeg)) (bn1 (f_X3_isNewPair X j j (v3.toNatClampNeg) v3) (fun r1 => if r1 = 0 then (f_X3_pairAtRank_4 X j v1 n v2 (v3 + 1)) else (if v2 = v1 then (gd (¬ (v3 < 0 ∨ 20 ≤ v3.toNatClampNeg)) (bn1 (f_X6_pairCode X j (v3.toNatClampNeg)) (fun r2 => some r2))) else (f_X3_pairAtRank_4 X j v1 n (v2 + 1) (v3 + 1))))))
def f_X3_pairAtRank (X : XT) (j : Nat) (v1 : Int32) : Option Int32 :=
  f_X3_pairAtRank_4 X j v1 2000 0 0
set_option maxRecDepth 20000 in
theorem b_X3_pairAtRank_4 {p : Program} {l : Launch} {e : Env} {s : State} {m : MethodId} {args : Array Value} {below : List Frame} {meth : Method} {c : Code} {D : DD} {z : Nat} {Y : YT} {X : XT} {j : Nat} (hj : j < 10) {v1 : Int32} (E : Cx p s m args meth c D z RX3 cX3_pairAtRank 4 (some .int)) {r : Int32} : ∀ (n : Nat) (v2 : Int32) (v3 : Int32) (hf : f_X3_pairAtRank_4 X j v1 n v2 v3 = some r), J p l e (rmk 3 0 0) s m args below meth c D z (GG D z (X, Y)) 0 0 (MQ below (QC z (some (.int r)) (GG D z (X, Y))) args s (rmk 3 0 0).cells (rmk 3 0 0).slots (Az z)) 4 4 [(0, .ref (z + aX 20 j 0)), (1, .int v1), (2, .int v2), (3, .int v3)] [] := by
  intro n
  induction n with
  | zero =>
    intro v2 v3 hf
    exact none_e hf
  | succ n ih =>
    intro v2 v3 hf
    rw [f_X3_pairAtRank_4] at hf
    refine j_iload_n E 3 rfl dX3_pairAtRank_4 ?_
    refine j_aload_n E 0 rfl dX3_pairAtRank_5 ?_
    refine j_get (f := 1) E (okb20 hj) cf_X3 fl_X3_22 (lt_ rfl) rfl ent20 rfl dX3_pairAtRank_6 ?_
    refine j_icmp_ge E 50 (by decide) dX3_pairAtRank_9 (fun c1 => ?_) (fun c1 => ?_)
    · rw [if_pos c1] at hf
      refine j_iconst E (-1) ic_m1 dX3_pairAtRank_50 ?_
      cases hf
      exact j_iret E rfl (le_ rfl) (le_ rfl) dX3_pairAtRank_51
    · rw [if_neg c1] at hf
      refine j_aload_n E 0 rfl dX3_pairAtRank_12 ?_
      refine j_aload_n E 0 rfl dX3_pairAtRank_13 ?_
      refine j_get (f := 0) E (okb20 hj) cf_X3 fl_X3_11 (lt_ rfl) rfl ent20 rfl dX3_pairAtRank_14 ?_
      refine j_iload_n E 3 rfl dX3_pairAtRank_17 ?_
      obtain ⟨g1, hf⟩ := gd_e hf
      refine j_aald (t := 4) E (okb21 hj) ent21 rfl g1 dX3_pairAtRank_18 ?_
      refine j_iload_n E 3 rfl dX3_pairAtRank_19 ?_
      obtain ⟨r1, h1, hf⟩ := bn1_e hf
      refine j_invV [] [.int r1] E (c_X3_isNewPair hj hj (in_cl g1) h1) ml_X3_65 mv_X3_isNewPair rfl ⟨le_ rfl, le_ rfl⟩ (rcX (okb20 hj) cf_X3 ent20) rfl rfl (le_ rfl) ⟨le_ rfl, le_ rfl⟩ dX3_pairAtRank_20 ?_
      refine j_if_eq E 44 (by decide) dX3_pairAtRank_23 (fun c2 => ?_) (fun c2 => ?_)
      · rw [if_pos c2] at hf
        refine j_iinc (ls' := [(3, .int (v3 + 1)), (0, .ref (z + aX 20 j 0)), (1, .int v1), (2, .int v2)]) E 3 rfl (lt_ rfl) (v3 + 1) (congrArg (fun q => v3 + q) ic_1) rfl dX3_pairAtRank_44 ?_
        refine j_goto E 4 (by decide) dX3_pairAtRank_47 ?_
        refine j_sub [1, 2, 3, 0] rfl ?_
        exact ih _ _ hf
      · rw [if_neg c2] at hf
        refine j_iload_n E 2 rfl dX3_pairAtRank_26 ?_
        refine j_iload_n E 1 rfl dX3_pairAtRank_27 ?_
        refine j_icmp_ne E 41 (by decide) dX3_pairAtRank_28 (fun c3 => ?_) (fun c3 => ?_)
        · rw [if_neg c3] at hf
          refine j_iinc (ls' := [(2, .int (v2 + 1)), (0, .ref (z + aX 20 j 0)), (1, .int v1), (3, .int v3)]) E 2 rfl (lt_ rfl) (v2 + 1) (congrArg (fun q => v2 + q) ic_1) rfl dX3_pairAtRank_41 ?_
          refine j_iinc (ls' := [(3, .int (v3 + 1)), (2, .int (v2 + 1)), (0, .ref (z + aX 20 j 0)), (1, .int v1)]) E 3 rfl (lt_ rfl) (v3 + 1) (congrArg (fun q => v3 + q) ic_1) rfl dX3_pairAtRank_44 ?_
          refine j_goto E 4 (by decide) dX3_pairAtRank_47 ?_
          refine j_sub [2, 3, 1, 0] rfl ?_
          exact ih _ _ hf
        · rw [if_pos c3] at hf
          refine j_aload_n E 0 rfl dX3_pairAtRank_31 ?_
          refine j_get (f := 0) E (okb20 hj) cf_X3 fl_X3_11 (lt_ rfl) rfl ent20 rfl dX3_pairAtRank_32 ?_
          refine j_iload_n E 3 rfl dX3_pairAtRank_35 ?_
          obtain ⟨g2, hf⟩ := gd_e hf
          refine j_aald (t := 4) E (okb21 hj) ent21 rfl g2 dX3_pairAtRank_36 ?_
          obtain ⟨r2, h2, hf⟩ := bn1_e hf
          refine j_invV [] [.int r2] E (c_X6_pairCode hj (in_cl g2) h2) ml_X3_69 mv_X6_pairCode rfl ⟨le_ rfl, le_ rfl⟩ (rcX (okb22 hj (in_cl g2)) cf_X6 ent22) rfl rfl (le_ rfl) ⟨le_ rfl, le_ rfl⟩ dX3_pairAtRank_37 ?_
          cases hf
          exact j_iret E rfl (le_ rfl) (le_ rfl) dX3_pairAtRank_40
set_option maxRecDepth 20000 in
theorem c_X3_pairAtRank {l : Launch} {D : DD} {z : Nat} {Y : YT} {X : XT} {j : Nat} (hj : j < 10) {v1 : Int32} {r : Int32} (hf : f_X3_pairAtRank X j v1 = some r) : CC l yX3_pairAtRank cX3_pairAtRank 4 (some .int) (rmk 3 0 0) D z [.ref (z + aX 20 j 0), .int v1] (GG D z (X, Y)) (some (.int r)) (GG D z (X, Y)) := by
  unfold f_X3_pairAtRank at hf
  refine cc_of pn_X3 (le_ rfl) (ls := [(0, .ref (z + aX 20 j 0)), (1, .int v1)]) rfl ?_
  intro p e s m args below meth c E
  refine j_iconst E 0 ic_0 dX3_pairAtRank_0 ?_
  refine j_istore_n (ls' := [(2, .int 0), (0, .ref (z + aX 20 j 0)), (1, .int v1)]) E (lt_ rfl) rfl dX3_pairAtRank_1 ?_
  refine j_iconst E 0 ic_0 dX3_pairAtRank_2 ?_
  refine j_istore_n (ls' := [(3, .int 0), (2, .int 0), (0, .ref (z + aX 20 j 0)), (1, .int v1)]) E (lt_ rfl) rfl dX3_pairAtRank_3 ?_
  refine j_sub [2, 3, 1, 0] rfl ?_
  exact b_X3_pairAtRank_4 hj E 2000 _ _ hf
def f_X3_heaviestPair_6 (X : XT) (j : Nat) : Nat → Int32 → Int32 → Int32 → Option Int32
  | 0, _, _, _ => none
  | n + 1, v1, v2, v3 => if (X 20 j 0 1) ≤ v3 then (some v1) else (gd (¬ (v3 < 0 ∨ 20 ≤ v3.toNatClampNeg)) (gd (¬ (v3 < 0 ∨ 20 ≤ v3.toNatClampNeg)) (bn1 (f_X3_weightOfPair X j (X 22 j v3.toNatClampNeg 2) (X 22 j v3.toNatClampNeg 5)) (fun r1 => if r1 ≤ v2 then (f_X3_heaviestPair_6 X j n v1 v2 (v3 + 1)) else (gd (¬ (v3 < 0 ∨ 20 ≤ v3.toNatClampNeg)) (bn1 (f_X6_pairCode X j (v3.toNatClampNeg)) (fun r2 => f_X3_heaviestPair_6 X j n r2 r1 (v3 + 1))))))))
def f_X3_heaviestPair (X : XT) (j : Nat) : Option Int32 :=
  f_X3_heaviestPair_6 X j 2000 (-1) 0 0
set_option maxRecDepth 20000 in
theorem b_X3_heaviestPair_6 {p : Program} {l : Launch} {e : Env} {s : State} {m : MethodId} {args : Array Value} {below : List Frame} {meth : Method} {c : Code} {D : DD} {z : Nat} {Y : YT} {X : XT} {j : Nat} (hj : j < 10) (E : Cx p s m args meth c D z RX3 cX3_heaviestPair 5 (some .int)) {r : Int32} : ∀ (n : Nat) (v1 : Int32) (v2 : Int32) (v3 : Int32) (hf : f_X3_heaviestPair_6 X j n v1 v2 v3 = some r), J p l e (rmk 3 0 0) s m args below meth c D z (GG D z (X, Y)) 0 0 (MQ below (QC z (some (.int r)) (GG D z (X, Y))) args s (rmk 3 0 0).cells (rmk 3 0 0).slots (Az z)) 5 6 [(0, .ref (z + aX 20 j 0)), (1, .int v1), (2, .int v2), (3, .int v3)] [] := by
  intro n
  induction n with
  | zero =>
    intro v1 v2 v3 hf
    exact none_e hf
  | succ n ih =>
    intro v1 v2 v3 hf
    rw [f_X3_heaviestPair_6] at hf
    refine j_iload_n E 3 rfl dX3_heaviestPair_6 ?_
    refine j_aload_n E 0 rfl dX3_heaviestPair_7 ?_
    refine j_get (f := 1) E (okb20 hj) cf_X3 fl_X3_22 (lt_ rfl) rfl ent20 rfl dX3_heaviestPair_8 ?_
    refine j_icmp_ge E 63 (by decide) dX3_heaviestPair_11 (fun c1 => ?_) (fun c1 => ?_)
    · rw [if_pos c1] at hf
      refine j_iload_n E 1 rfl dX3_heaviestPair_63 ?_
      cases hf
      exact j_iret E rfl (le_ rfl) (le_ rfl) dX3_heaviestPair_64
    · rw [if_neg c1] at hf
      refine j_aload_n E 0 rfl dX3_heaviestPair_14 ?_
      refine j_aload_n E 0 rfl dX3_heaviestPair_15 ?_
      refine j_get (f := 0) E (okb20 hj) cf_X3 fl_X3_11 (lt_ rfl) rfl ent20 rfl dX3_heaviestPair_16 ?_
      refine j_iload_n E 3 rfl dX3_heaviestPair_19 ?_
      obtain ⟨g1, hf⟩ := gd_e hf
      refine j_aald (t := 4) E (okb21 hj) ent21 rfl g1 dX3_heaviestPair_20 ?_
      refine j_getN (f := 2) E (okb22 hj (in_cl g1)) cf_X6 fl_X3_52 (lt_ rfl) rfl ent22 rfl dX3_heaviestPair_21 ?_
      refine j_aload_n E 0 rfl dX3_heaviestPair_24 ?_
      refine j_get (f := 0) E (okb20 hj) cf_X3 fl_X3_11 (lt_ rfl) rfl ent20 rfl dX3_heaviestPair_25 ?_
      refine j_iload_n E 3 rfl dX3_heaviestPair_28 ?_
      obtain ⟨g2, hf⟩ := gd_e hf
      refine j_aald (t := 4) E (okb21 hj) ent21 rfl g2 dX3_heaviestPair_29 ?_
      refine j_getN (f := 5) E (okb22 hj (in_cl g2)) cf_X6 fl_X3_62 (lt_ rfl) rfl ent22 rfl dX3_heaviestPair_30 ?_
      obtain ⟨r1, h1, hf⟩ := bn1_e hf
      refine j_invV [] [.int r1] E (c_X3_weightOfPair hj h1) ml_X3_73 mv_X3_weightOfPair rfl ⟨le_ rfl, le_ rfl⟩ (rcX (okb20 hj) cf_X3 ent20) rfl rfl (le_ rfl) ⟨le_ rfl, le_ rfl⟩ dX3_heaviestPair_33 ?_
      refine j_istore (ls' := [(4, .int r1), (0, .ref (z + aX 20 j 0)), (1, .int v1), (2, .int v2), (3, .int v3)]) E (lt_ rfl) rfl dX3_heaviestPair_36 ?_
      refine j_iload E 0 rfl dX3_heaviestPair_38 ?_
      refine j_iload_n E 3 rfl dX3_heaviestPair_40 ?_
      refine j_icmp_le E 57 (by decide) dX3_heaviestPair_41 (fun c2 => ?_) (fun c2 => ?_)
      · rw [if_pos c2] at hf
        refine j_iinc (ls' := [(3, .int (v3 + 1)), (4, .int r1), (0, .ref (z + aX 20 j 0)), (1, .int v1), (2, .int v2)]) E 4 rfl (lt_ rfl) (v3 + 1) (congrArg (fun q => v3 + q) ic_1) rfl dX3_heaviestPair_57 ?_
        refine j_goto E 6 (by decide) dX3_heaviestPair_60 ?_
        refine j_sub [2, 3, 4, 0] rfl ?_
        exact ih _ _ _ hf
      · rw [if_neg c2] at hf
        refine j_iload E 0 rfl dX3_heaviestPair_44 ?_
        refine j_istore_n (ls' := [(2, .int r1), (4, .int r1), (0, .ref (z + aX 20 j 0)), (1, .int v1), (3, .int v3)]) E (lt_ rfl) rfl dX3_heaviestPair_46 ?_
        refine j_aload_n E 2 rfl dX3_heaviestPair_47 ?_
        refine j_get (f := 0) E (okb20 hj) cf_X3 fl_X3_11 (lt_ rfl) rfl ent20 rfl dX3_heaviestPair_48 ?_
        refine j_iload_n E 4 rfl dX3_heaviestPair_51 ?_
        obtain ⟨g3, hf⟩ := gd_e hf
        refine j_aald (t := 4) E (okb21 hj) ent21 rfl g3 dX3_heaviestPair_52 ?_
        obtain ⟨r2, h2, hf⟩ := bn1_e hf
        refine j_invV [] [.int r2] E (c_X6_pairCode hj (in_cl g3) h2) ml_X3_69 mv_X6_pairCode rfl ⟨le_ rfl, le_ rfl⟩ (rcX (okb22 hj (in_cl g3)) cf_X6 ent22) rfl rfl (le_ rfl) ⟨le_ rfl, le_ rfl⟩ dX3_heaviestPair_53 ?_
        refine j_istore_n (ls' := [(1, .int r2), (2, .int r1), (4, .int r1), (0, .ref (z + aX 20 j 0)), (3, .int v3)]) E (lt_ rfl) rfl dX3_heaviestPair_56 ?_
        refine j_iinc (ls' := [(3, .int (v3 + 1)), (1, .int r2), (2, .int r1), (4, .int r1), (0, .ref (z + aX 20 j 0))]) E 4 rfl (lt_ rfl) (v3 + 1) (congrArg (fun q => v3 + q) ic_1) rfl dX3_heaviestPair_57 ?_
        refine j_goto E 6 (by decide) dX3_heaviestPair_60 ?_
        refine j_sub [4, 1, 2, 0] rfl ?_
        exact ih _ _ _ hf
set_option maxRecDepth 20000 in
theorem c_X3_heaviestPair {l : Launch} {D : DD} {z : Nat} {Y : YT} {X : XT} {j : Nat} (hj : j < 10) {r : Int32} (hf : f_X3_heaviestPair X j = some r) : CC l yX3_heaviestPair cX3_heaviestPair 5 (some .int) (rmk 3 0 0) D z [.ref (z + aX 20 j 0)] (GG D z (X, Y)) (some (.int r)) (GG D z (X, Y)) := by
  unfold f_X3_heaviestPair at hf
  refine cc_of pn_X3 (le_ rfl) (ls := [(0, .ref (z + aX 20 j 0))]) rfl ?_
  intro p e s m args below meth c E
  refine j_iconst E (-1) ic_m1 dX3_heaviestPair_0 ?_
  refine j_istore_n (ls' := [(1, .int (-1)), (0, .ref (z + aX 20 j 0))]) E (lt_ rfl) rfl dX3_heaviestPair_1 ?_
  refine j_iconst E 0 ic_0 dX3_heaviestPair_2 ?_
  refine j_istore_n (ls' := [(2, .int 0), (1, .int (-1)), (0, .ref (z + aX 20 j 0))]) E (lt_ rfl) rfl dX3_heaviestPair_3 ?_
  refine j_iconst E 0 ic_0 dX3_heaviestPair_4 ?_
  refine j_istore_n (ls' := [(3, .int 0), (2, .int 0), (1, .int (-1)), (0, .ref (z + aX 20 j 0))]) E (lt_ rfl) rfl dX3_heaviestPair_5 ?_
  refine j_sub [3, 2, 1, 0] rfl ?_
  exact b_X3_heaviestPair_6 hj E 2000 _ _ _ hf
def f_X5_hasPlot (X : XT) (j : Nat) (v1 : Int32) : Option Int32 :=
  if v1 < 0 then (some 0) else (if (X 15 j 0 5) ≤ v1 then (some 0) else (some 1))
set_option maxRecDepth 20000 in
theorem c_X5_hasPlot {l : Launch} {D : DD} {z : Nat} {Y : YT} {X : XT} {j : Nat} (hj : j < 10) {v1 : Int32} {r : Int32} (hf : f_X5_hasPlot X j v1 = some r) : CC l yX5_hasPlot cX5_hasPlot 2 (some .boolean) (rmk 1 0 0) D z [.ref (z + aX 15 j 0), .int v1] (GG D z (X, Y)) (some (.int r)) (GG D z (X, Y)) := by
  unfold f_X5_hasPlot at hf
  refine cc_of pn_X5 (le_ rfl) (ls := [(0, .ref (z + aX 15 j 0)), (1, .int v1)]) rfl ?_
  intro p e s m args below meth c E
  refine j_iload_n E 1 rfl dX5_hasPlot_0 ?_
  refine j_if_lt E 16 (by decide) dX5_hasPlot_1 (fun c1 => ?_) (fun c1 => ?_)
  · rw [if_pos c1] at hf
    refine j_iconst E 0 ic_0 dX5_hasPlot_16 ?_
    cases hf
    exact j_iret E rfl (le_ rfl) (le_ rfl) dX5_hasPlot_17
  · rw [if_neg c1] at hf
    refine j_iload_n E 1 rfl dX5_hasPlot_4 ?_
    refine j_aload_n E 0 rfl dX5_hasPlot_5 ?_
    refine j_get (f := 5) E (okb15 hj) cf_X5 fl_X5_34 (lt_ rfl) rfl ent15 rfl dX5_hasPlot_6 ?_
    refine j_icmp_ge E 16 (by decide) dX5_hasPlot_9 (fun c2 => ?_) (fun c2 => ?_)
    · rw [if_pos c2] at hf
      refine j_iconst E 0 ic_0 dX5_hasPlot_16 ?_
      cases hf
      exact j_iret E rfl (le_ rfl) (le_ rfl) dX5_hasPlot_17
    · rw [if_neg c2] at hf
      refine j_iconst E 1 ic_1 dX5_hasPlot_12 ?_
      refine j_goto E 17 (by decide) dX5_hasPlot_13 ?_
      cases hf
      exact j_iret E rfl (le_ rfl) (le_ rfl) dX5_hasPlot_17
def f_X5_addGrower (X : XT) (j : Nat) (v1 : Int32) : Option XT :=
  if 6 ≤ (X 15 j 0 4) then (some X) else (gd (¬ ((X 15 j 0 4) < 0 ∨ 6 ≤ (X 15 j 0 4).toNatClampNeg)) (bnd (xs X 16 j 0 ((X 15 j 0 4).toNatClampNeg) v1) (fun X1 => bnd (xs X1 15 j 0 4 ((X1 15 j 0 4) + 1)) (fun X2 => some X2))))
set_option maxRecDepth 20000 in
theorem c_X5_addGrower {l : Launch} {D : DD} {z : Nat} {Y : YT} {X : XT} {j : Nat} (hj : j < 10) {v1 : Int32} {X' : XT} (hf : f_X5_addGrower X j v1 = some X') : CC l yX5_addGrower cX5_addGrower 2 none (rmk 1 0 0) D z [.ref (z + aX 15 j 0), .int v1] (GG D z (X, Y)) none (GG D z (X', Y)) := by
  unfold f_X5_addGrower at hf
  refine cc_of pn_X5 (le_ rfl) (ls := [(0, .ref (z + aX 15 j 0)), (1, .int v1)]) rfl ?_
  intro p e s m args below meth c E
  refine j_aload_n E 0 rfl dX5_addGrower_0 ?_
  refine j_get (f := 4) E (okb15 hj) cf_X5 fl_X5_30 (lt_ rfl) rfl ent15 rfl dX5_addGrower_1 ?_
  refine j_bipush E 6 bp_6 dX5_addGrower_4 ?_
  refine j_icmp_ge E 29 (by decide) dX5_addGrower_6 (fun c1 => ?_) (fun c1 => ?_)
  · rw [if_pos c1] at hf
    cases hf
    exact j_vret E (le_ rfl) (le_ rfl) dX5_addGrower_29
  · rw [if_neg c1] at hf
    refine j_aload_n E 0 rfl dX5_addGrower_9 ?_
    refine j_get (f := 0) E (okb15 hj) cf_X5 fl_X5_9 (lt_ rfl) rfl ent15 rfl dX5_addGrower_10 ?_
    refine j_aload_n E 0 rfl dX5_addGrower_13 ?_
    refine j_get (f := 4) E (okb15 hj) cf_X5 fl_X5_30 (lt_ rfl) rfl ent15 rfl dX5_addGrower_14 ?_
    refine j_iload_n E 1 rfl dX5_addGrower_17 ?_
    obtain ⟨g1, hf⟩ := gd_e hf
    obtain ⟨X1, hX1, hf⟩ := bnd_e hf
    refine j_iast E (okb16 hj) (fun _ => ent16) g1 ((X 15 j 0 4).toNatClampNeg) rfl hX1 dX5_addGrower_18 ?_
    refine j_aload_n E 0 rfl dX5_addGrower_19 ?_
    refine j_dup E rfl dX5_addGrower_20 ?_
    refine j_get (f := 4) E (okb15 hj) cf_X5 fl_X5_30 (lt_ rfl) rfl ent15 rfl dX5_addGrower_21 ?_
    refine j_iconst E 1 ic_1 dX5_addGrower_24 ?_
    refine j_iadd E dX5_addGrower_25 ?_
    obtain ⟨X2, hX2, hf⟩ := bnd_e hf
    refine j_put (f := 4) E (okb15 hj) cf_X5 fl_X5_30 (lt_ rfl) ⟨rfl, rfl⟩ (fit_i _) ent15 pe15_4 (lt_ rfl) hX2 dX5_addGrower_26 ?_
    cases hf
    exact j_vret E (le_ rfl) (le_ rfl) dX5_addGrower_29
def f_X5_addPlot (X : XT) (j : Nat) (v1 : Int32) (v2 : Int32) (v3 : Int32) : Option XT :=
  if 8 ≤ (X 15 j 0 5) then (some X) else (gd (¬ ((X 15 j 0 5) < 0 ∨ 8 ≤ (X 15 j 0 5).toNatClampNeg)) (bnd (xs X 17 j 0 ((X 15 j 0 5).toNatClampNeg) v1) (fun X1 => gd (¬ ((X1 15 j 0 5) < 0 ∨ 8 ≤ (X1 15 j 0 5).toNatClampNeg)) (bnd (xs X1 18 j 0 ((X1 15 j 0 5).toNatClampNeg) v2) (fun X2 => gd (¬ ((X2 15 j 0 5) < 0 ∨ 8 ≤ (X2 15 j 0 5).toNatClampNeg)) (bnd (xs X2 19 j 0 ((X2 15 j 0 5).toNatClampNeg) v3) (fun X3 => bnd (xs X3 15 j 0 5 ((X3 15 j 0 5) + 1)) (fun X4 => some X4))))))))
set_option maxRecDepth 20000 in
theorem c_X5_addPlot {l : Launch} {D : DD} {z : Nat} {Y : YT} {X : XT} {j : Nat} (hj : j < 10) {v1 : Int32} {v2 : Int32} {v3 : Int32} {X' : XT} (hf : f_X5_addPlot X j v1 v2 v3 = some X') : CC l yX5_addPlot cX5_addPlot 4 none (rmk 1 0 0) D z [.ref (z + aX 15 j 0), .int v1, .int v2, .int v3] (GG D z (X, Y)) none (GG D z (X', Y)) := by
  unfold f_X5_addPlot at hf
  refine cc_of pn_X5 (le_ rfl) (ls := [(0, .ref (z + aX 15 j 0)), (1, .int v1), (2, .int v2), (3, .int v3)]) rfl ?_
  intro p e s m args below meth c E
  refine j_aload_n E 0 rfl dX5_addPlot_0 ?_
  refine j_get (f := 5) E (okb15 hj) cf_X5 fl_X5_34 (lt_ rfl) rfl ent15 rfl dX5_addPlot_1 ?_
  refine j_bipush E 8 bp_8 dX5_addPlot_4 ?_
  refine j_icmp_ge E 49 (by decide) dX5_addPlot_6 (fun c1 => ?_) (fun c1 => ?_)
  · rw [if_pos c1] at hf
    cases hf
    exact j_vret E (le_ rfl) (le_ rfl) dX5_addPlot_49
  · rw [if_neg c1] at hf
    refine j_aload_n E 0 rfl dX5_addPlot_9 ?_
    refine j_get (f := 1) E (okb15 hj) cf_X5 fl_X5_15 (lt_ rfl) rfl ent15 rfl dX5_addPlot_10 ?_
    refine j_aload_n E 0 rfl dX5_addPlot_13 ?_
    refine j_get (f := 5) E (okb15 hj) cf_X5 fl_X5_34 (lt_ rfl) rfl ent15 rfl dX5_addPlot_14 ?_
    refine j_iload_n E 1 rfl dX5_addPlot_17 ?_
    obtain ⟨g1, hf⟩ := gd_e hf
    obtain ⟨X1, hX1, hf⟩ := bnd_e hf
    refine j_iast E (okb17 hj) (fun _ => ent17) g1 ((X 15 j 0 5).toNatClampNeg) rfl hX1 dX5_addPlot_18 ?_
    refine j_aload_n E 0 rfl dX5_addPlot_19 ?_
    refine j_get (f := 2) E (okb15 hj) cf_X5 fl_X5_18 (lt_ rfl) rfl ent15 rfl dX5_addPlot_20 ?_
    refine j_aload_n E 0 rfl dX5_addPlot_23 ?_
    refine j_get (f := 5) E (okb15 hj) cf_X5 fl_X5_34 (lt_ rfl) rfl ent15 rfl dX5_addPlot_24 ?_
    refine j_iload_n E 2 rfl dX5_addPlot_27 ?_
    obtain ⟨g2, hf⟩ := gd_e hf
    obtain ⟨X2, hX2, hf⟩ := bnd_e hf
    refine j_iast E (okb18 hj) (fun _ => ent18) g2 ((X1 15 j 0 5).toNatClampNeg) rfl hX2 dX5_addPlot_28 ?_
    refine j_aload_n E 0 rfl dX5_addPlot_29 ?_
    refine j_get (f := 3) E (okb15 hj) cf_X5 fl_X5_21 (lt_ rfl) rfl ent15 rfl dX5_addPlot_30 ?_
    refine j_aload_n E 0 rfl dX5_addPlot_33 ?_
    refine j_get (f := 5) E (okb15 hj) cf_X5 fl_X5_34 (lt_ rfl) rfl ent15 rfl dX5_addPlot_34 ?_
    refine j_iload_n E 3 rfl dX5_addPlot_37 ?_
    obtain ⟨g3, hf⟩ := gd_e hf
    obtain ⟨X3, hX3, hf⟩ := bnd_e hf
    refine j_iast E (okb19 hj) (fun _ => ent19) g3 ((X2 15 j 0 5).toNatClampNeg) rfl hX3 dX5_addPlot_38 ?_
    refine j_aload_n E 0 rfl dX5_addPlot_39 ?_
    refine j_dup E rfl dX5_addPlot_40 ?_
    refine j_get (f := 5) E (okb15 hj) cf_X5 fl_X5_34 (lt_ rfl) rfl ent15 rfl dX5_addPlot_41 ?_
    refine j_iconst E 1 ic_1 dX5_addPlot_44 ?_
    refine j_iadd E dX5_addPlot_45 ?_
    obtain ⟨X4, hX4, hf⟩ := bnd_e hf
    refine j_put (f := 5) E (okb15 hj) cf_X5 fl_X5_34 (lt_ rfl) ⟨rfl, rfl⟩ (fit_i _) ent15 pe15_5 (lt_ rfl) hX4 dX5_addPlot_46 ?_
    cases hf
    exact j_vret E (le_ rfl) (le_ rfl) dX5_addPlot_49
def f_X5_countPlotsOf_4 (X : XT) (j : Nat) (v1 : Int32) : Nat → Int32 → Int32 → Option Int32
  | 0, _, _ => none
  | n + 1, v2, v3 => if (X 15 j 0 5) ≤ v3 then (some v2) else (gd (¬ (v3 < 0 ∨ 8 ≤ v3.toNatClampNeg)) (if (X 17 j 0 v3.toNatClampNeg) = v1 then (f_X5_countPlotsOf_4 X j v1 n (v2 + 1) (v3 + 1)) else (f_X5_countPlotsOf_4 X j v1 n v2 (v3 + 1))))
def f_X5_countPlotsOf (X : XT) (j : Nat) (v1 : Int32) : Option Int32 :=
  f_X5_countPlotsOf_4 X j v1 2000 0 0
set_option maxRecDepth 20000 in
theorem b_X5_countPlotsOf_4 {p : Program} {l : Launch} {e : Env} {s : State} {m : MethodId} {args : Array Value} {below : List Frame} {meth : Method} {c : Code} {D : DD} {z : Nat} {Y : YT} {X : XT} {j : Nat} (hj : j < 10) {v1 : Int32} (E : Cx p s m args meth c D z RX5 cX5_countPlotsOf 4 (some .int)) {r : Int32} : ∀ (n : Nat) (v2 : Int32) (v3 : Int32) (hf : f_X5_countPlotsOf_4 X j v1 n v2 v3 = some r), J p l e (rmk 1 0 0) s m args below meth c D z (GG D z (X, Y)) 0 0 (MQ below (QC z (some (.int r)) (GG D z (X, Y))) args s (rmk 1 0 0).cells (rmk 1 0 0).slots (Az z)) 4 4 [(0, .ref (z + aX 15 j 0)), (1, .int v1), (2, .int v2), (3, .int v3)] [] := by
  intro n
  induction n with
  | zero =>
    intro v2 v3 hf
    exact none_e hf
  | succ n ih =>
    intro v2 v3 hf
    rw [f_X5_countPlotsOf_4] at hf
    refine j_iload_n E 3 rfl dX5_countPlotsOf_4 ?_
    refine j_aload_n E 0 rfl dX5_countPlotsOf_5 ?_
    refine j_get (f := 5) E (okb15 hj) cf_X5 fl_X5_34 (lt_ rfl) rfl ent15 rfl dX5_countPlotsOf_6 ?_
    refine j_icmp_ge E 31 (by decide) dX5_countPlotsOf_9 (fun c1 => ?_) (fun c1 => ?_)
    · rw [if_pos c1] at hf
      refine j_iload_n E 2 rfl dX5_countPlotsOf_31 ?_
      cases hf
      exact j_iret E rfl (le_ rfl) (le_ rfl) dX5_countPlotsOf_32
    · rw [if_neg c1] at hf
      refine j_aload_n E 0 rfl dX5_countPlotsOf_12 ?_
      refine j_get (f := 1) E (okb15 hj) cf_X5 fl_X5_15 (lt_ rfl) rfl ent15 rfl dX5_countPlotsOf_13 ?_
      refine j_iload_n E 3 rfl dX5_countPlotsOf_16 ?_
      obtain ⟨g1, hf⟩ := gd_e hf
      refine j_iald E (okb17 hj) ent17 g1 (v3.toNatClampNeg) rfl dX5_countPlotsOf_17 ?_
      refine j_iload_n E 1 rfl dX5_countPlotsOf_18 ?_
      refine j_icmp_ne E 25 (by decide) dX5_countPlotsOf_19 (fun c2 => ?_) (fun c2 => ?_)
      · rw [if_neg c2] at hf
        refine j_iinc (ls' := [(3, .int (v3 + 1)), (0, .ref (z + aX 15 j 0)), (1, .int v1), (2, .int v2)]) E 3 rfl (lt_ rfl) (v3 + 1) (congrArg (fun q => v3 + q) ic_1) rfl dX5_countPlotsOf_25 ?_
        refine j_goto E 4 (by decide) dX5_countPlotsOf_28 ?_
        refine j_sub [1, 2, 3, 0] rfl ?_
        exact ih _ _ hf
      · rw [if_pos c2] at hf
        refine j_iinc (ls' := [(2, .int (v2 + 1)), (0, .ref (z + aX 15 j 0)), (1, .int v1), (3, .int v3)]) E 2 rfl (lt_ rfl) (v2 + 1) (congrArg (fun q => v2 + q) ic_1) rfl dX5_countPlotsOf_22 ?_
        refine j_iinc (ls' := [(3, .int (v3 + 1)), (2, .int (v2 + 1)), (0, .ref (z + aX 15 j 0)), (1, .int v1)]) E 3 rfl (lt_ rfl) (v3 + 1) (congrArg (fun q => v3 + q) ic_1) rfl dX5_countPlotsOf_25 ?_
        refine j_goto E 4 (by decide) dX5_countPlotsOf_28 ?_
        refine j_sub [2, 3, 1, 0] rfl ?_
        exact ih _ _ hf
set_option maxRecDepth 20000 in
theorem c_X5_countPlotsOf {l : Launch} {D : DD} {z : Nat} {Y : YT} {X : XT} {j : Nat} (hj : j < 10) {v1 : Int32} {r : Int32} (hf : f_X5_countPlotsOf X j v1 = some r) : CC l yX5_countPlotsOf cX5_countPlotsOf 4 (some .int) (rmk 1 0 0) D z [.ref (z + aX 15 j 0), .int v1] (GG D z (X, Y)) (some (.int r)) (GG D z (X, Y)) := by
  unfold f_X5_countPlotsOf at hf
  refine cc_of pn_X5 (le_ rfl) (ls := [(0, .ref (z + aX 15 j 0)), (1, .int v1)]) rfl ?_
  intro p e s m args below meth c E
  refine j_iconst E 0 ic_0 dX5_countPlotsOf_0 ?_
  refine j_istore_n (ls' := [(2, .int 0), (0, .ref (z + aX 15 j 0)), (1, .int v1)]) E (lt_ rfl) rfl dX5_countPlotsOf_1 ?_
  refine j_iconst E 0 ic_0 dX5_countPlotsOf_2 ?_
  refine j_istore_n (ls' := [(3, .int 0), (2, .int 0), (0, .ref (z + aX 15 j 0)), (1, .int v1)]) E (lt_ rfl) rfl dX5_countPlotsOf_3 ?_
  refine j_sub [2, 3, 1, 0] rfl ?_
  exact b_X5_countPlotsOf_4 hj E 2000 _ _ hf
def f_X9_canMoveTo (X : XT) (j i j1 i1 : Nat) : Option Int32 :=
  if (X 26 j i 1) ≤ 0 then (some 0) else (bn1 (f_X9_takes X j1 i1 (X 26 j i 2)) (fun r1 => if r1 = 0 then (some 0) else (bn1 (f_X9_room X j1 i1) (fun r2 => if r2 < (X 26 j i 1) then (some 0) else (some 1)))))
set_option maxRecDepth 20000 in
theorem c_X9_canMoveTo {l : Launch} {D : DD} {z : Nat} {Y : YT} {X : XT} {j i j1 i1 : Nat} (hj : j < 10) (hi : i < 5) (hj1 : j1 < 10) (hi1 : i1 < 5) {r : Int32} (hf : f_X9_canMoveTo X j i j1 i1 = some r) : CC l yX9_canMoveTo cX9_canMoveTo 2 (some .boolean) (rmk 2 0 0) D z [.ref (z + aX 26 j i), .ref (z + aX 26 j1 i1)] (GG D z (X, Y)) (some (.int r)) (GG D z (X, Y)) := by
  unfold f_X9_canMoveTo at hf
  refine cc_of pn_X9 (le_ rfl) (ls := [(0, .ref (z + aX 26 j i)), (1, .ref (z + aX 26 j1 i1))]) rfl ?_
  intro p e s m args below meth c E
  refine j_aload_n E 0 rfl dX9_canMoveTo_0 ?_
  refine j_get (f := 1) E (okb26 hj hi) cf_X9 fl_X9_18 (lt_ rfl) rfl ent26 rfl dX9_canMoveTo_1 ?_
  refine j_if_le E 33 (by decide) dX9_canMoveTo_4 (fun c1 => ?_) (fun c1 => ?_)
  · rw [if_pos c1] at hf
    refine j_iconst E 0 ic_0 dX9_canMoveTo_33 ?_
    cases hf
    exact j_iret E rfl (le_ rfl) (le_ rfl) dX9_canMoveTo_34
  · rw [if_neg c1] at hf
    refine j_aload_n E 1 rfl dX9_canMoveTo_7 ?_
    refine j_aload_n E 0 rfl dX9_canMoveTo_8 ?_
    refine j_get (f := 2) E (okb26 hj hi) cf_X9 fl_X9_9 (lt_ rfl) rfl ent26 rfl dX9_canMoveTo_9 ?_
    obtain ⟨r1, h1, hf⟩ := bn1_e hf
    refine j_invV [] [.int r1] E (c_X9_takes hj1 hi1 h1) ml_X9_31 mv_X9_takes rfl ⟨le_ rfl, le_ rfl⟩ (rcX (okb26 hj1 hi1) cf_X9 ent26) rfl rfl (le_ rfl) ⟨le_ rfl, le_ rfl⟩ dX9_canMoveTo_12 ?_
    refine j_if_eq E 33 (by decide) dX9_canMoveTo_15 (fun c2 => ?_) (fun c2 => ?_)
    · rw [if_pos c2] at hf
      refine j_iconst E 0 ic_0 dX9_canMoveTo_33 ?_
      cases hf
      exact j_iret E rfl (le_ rfl) (le_ rfl) dX9_canMoveTo_34
    · rw [if_neg c2] at hf
      refine j_aload_n E 0 rfl dX9_canMoveTo_18 ?_
      refine j_get (f := 1) E (okb26 hj hi) cf_X9 fl_X9_18 (lt_ rfl) rfl ent26 rfl dX9_canMoveTo_19 ?_
      refine j_aload_n E 1 rfl dX9_canMoveTo_22 ?_
      obtain ⟨r2, h2, hf⟩ := bn1_e hf
      refine j_invV [.int (X 26 j i 1)] [.int r2, .int (X 26 j i 1)] E (c_X9_room hj1 hi1 h2) ml_X9_35 mv_X9_room rfl ⟨le_ rfl, le_ rfl⟩ (rcX (okb26 hj1 hi1) cf_X9 ent26) rfl rfl (le_ rfl) ⟨le_ rfl, le_ rfl⟩ dX9_canMoveTo_23 ?_
      refine j_icmp_gt E 33 (by decide) dX9_canMoveTo_26 (fun c3 => ?_) (fun c3 => ?_)
      · rw [if_pos c3] at hf
        refine j_iconst E 0 ic_0 dX9_canMoveTo_33 ?_
        cases hf
        exact j_iret E rfl (le_ rfl) (le_ rfl) dX9_canMoveTo_34
      · rw [if_neg c3] at hf
        refine j_iconst E 1 ic_1 dX9_canMoveTo_29 ?_
        refine j_goto E 34 (by decide) dX9_canMoveTo_30 ?_
        cases hf
        exact j_iret E rfl (le_ rfl) (le_ rfl) dX9_canMoveTo_34
def f_X9_moveTo (X : XT) (j i j1 i1 : Nat) : Option XT :=
  bn1 (f_X9_pour X j1 i1 (X 26 j i 2) (X 26 j i 1) (X 26 j i 3)) (fun X1 => bn1 (f_X9_makeEmpty X1 j i) (fun X2 => some X2))
set_option maxRecDepth 20000 in
theorem c_X9_moveTo {l : Launch} {D : DD} {z : Nat} {Y : YT} {X : XT} {j i j1 i1 : Nat} (hj : j < 10) (hi : i < 5) (hj1 : j1 < 10) (hi1 : i1 < 5) {X' : XT} (hf : f_X9_moveTo X j i j1 i1 = some X') : CC l yX9_moveTo cX9_moveTo 2 none (rmk 2 0 0) D z [.ref (z + aX 26 j i), .ref (z + aX 26 j1 i1)] (GG D z (X, Y)) none (GG D z (X', Y)) := by
  unfold f_X9_moveTo at hf
  refine cc_of pn_X9 (le_ rfl) (ls := [(0, .ref (z + aX 26 j i)), (1, .ref (z + aX 26 j1 i1))]) rfl ?_
  intro p e s m args below meth c E
  refine j_aload_n E 1 rfl dX9_moveTo_0 ?_
  refine j_aload_n E 0 rfl dX9_moveTo_1 ?_
  refine j_get (f := 2) E (okb26 hj hi) cf_X9 fl_X9_9 (lt_ rfl) rfl ent26 rfl dX9_moveTo_2 ?_
  refine j_aload_n E 0 rfl dX9_moveTo_5 ?_
  refine j_get (f := 1) E (okb26 hj hi) cf_X9 fl_X9_18 (lt_ rfl) rfl ent26 rfl dX9_moveTo_6 ?_
  refine j_aload_n E 0 rfl dX9_moveTo_9 ?_
  refine j_get (f := 3) E (okb26 hj hi) cf_X9 fl_X9_21 (lt_ rfl) rfl ent26 rfl dX9_moveTo_10 ?_
  obtain ⟨X1, h1, hf⟩ := bn1_e hf
  refine j_invV [] [] E (c_X9_pour hj1 hi1 h1) ml_X9_38 mv_X9_pour rfl ⟨le_ rfl, le_ rfl⟩ (rcX (okb26 hj1 hi1) cf_X9 ent26) rfl rfl (le_ rfl) ⟨le_ rfl, le_ rfl⟩ dX9_moveTo_13 ?_
  refine j_aload_n E 0 rfl dX9_moveTo_16 ?_
  obtain ⟨X2, h2, hf⟩ := bn1_e hf
  refine j_invV [] [] E (c_X9_makeEmpty hj hi h2) ml_X9_28 mv_X9_makeEmpty rfl ⟨le_ rfl, le_ rfl⟩ (rcX (okb26 hj hi) cf_X9 ent26) rfl rfl (le_ rfl) ⟨le_ rfl, le_ rfl⟩ dX9_moveTo_17 ?_
  cases hf
  exact j_vret E (le_ rfl) (le_ rfl) dX9_moveTo_20
