def f_X12_takeNamed (M : MT) (v1 : Int32) : Option (Int32 × MT) :=
  bn1 (f_X12_isGood M) (fun r1 => if r1 = 0 then (some (0, M)) else (if v1 = 0 then (bn1 (f_X12_growerHere M) (fun r2 => if (M.1 0 7) = 1 then (bn1 (f_X12_requireNot M 0 1) (fun M1 => if r2 = (-1) then (bn1 (f_X12_requireNot M1 1 4) (fun M4 => bn1 (f_X12_isGood M4) (fun r4 => if r4 = 0 then (some ((if 0 < r2 then r2 else 0), M4)) else (bn1 (f_X12_goOn M4) (fun M5 => some ((if 0 < r2 then r2 else 0), M5)))))) else (bn1 (f_X12_requireNot M1 0 4) (fun M2 => bn1 (f_X12_isGood M2) (fun r3 => if r3 = 0 then (some ((if 0 < r2 then r2 else 0), M2)) else (bn1 (f_X12_goOn M2) (fun M3 => some ((if 0 < r2 then r2 else 0), M3)))))))) else (bn1 (f_X12_requireNot M 1 1) (fun M6 => if r2 = (-1) then (bn1 (f_X12_requireNot M6 1 4) (fun M9 => bn1 (f_X12_isGood M9) (fun r6 => if r6 = 0 then (some ((if 0 < r2 then r2 else 0), M9)) else (bn1 (f_X12_goOn M9) (fun M10 => some ((if 0 < r2 then r2 else 0), M10)))))) else (bn1 (f_X12_requireNot M6 0 4) (fun M7 => bn1 (f_X12_isGood M7) (fun r5 => if r5 = 0 then (some ((if 0 < r2 then r2 else 0), M7)) else (bn1 (f_X12_goOn M7) (fun M8 => some ((if 0 < r2 then r2 else 0), M8)))))))))) else (bn1 (f_X12_varietyHere M) (fun r7 => if (M.1 0 7) = 1 then (bn1 (f_X12_requireNot M 0 1) (fun M11 => if r7 = (-1) then (bn1 (f_X12_requireNot M11 1 4) (fun M14 => bn1 (f_X12_isGood M14) (fun r9 => if r9 = 0 then (some ((if 0 < r7 then r7 else 0), M14)) else (bn1 (f_X12_goOn M14) (fun M15 => some ((if 0 < r7 then r7 else 0), M15)))))) else (bn1 (f_X12_requireNot M11 0 4) (fun M12 => bn1 (f_X12_isGood M12) (fun r8 => if r8 = 0 then (some ((if 0 < r7 then r7 else 0), M12)) else (bn1 (f_X12_goOn M12) (fun M13 => some ((if 0 < r7 then r7 else 0), M13)))))))) else (bn1 (f_X12_requireNot M 1 1) (fun M16 => if r7 = (-1) then (bn1 (f_X12_requireNot M16 1 4) (fun M19 => bn1 (f_X12_isGood M19) (fun r11 => if r11 = 0 then (some ((if 0 < r7 then r7 else 0), M19)) else (bn1 (f_X12_goOn M19) (fun M20 => some ((if 0 < r7 then r7 else 0), M20)))))) else (bn1 (f_X12_requireNot M16 0 4) (fun M17 => bn1 (f_X12_isGood M17) (fun r10 => if r10 = 0 then (some ((if 0 < r7 then r7 else 0), M17)) else (bn1 (f_X12_goOn M17) (fun M18 => some ((if 0 < r7 then r7 else 0), M18))))))))))))
set_option maxRecDepth 20000 in
theorem c_X12_takeNamed {l : Launch} {D : DD} {z : Nat} {X : XT} {o : Int64} {f1 : Nat} {M : MT} {v1 : Int32} {r : Int32} {M' : MT} (hf : f_X12_takeNamed M v1 = some (r, M')) : CC l yX12_takeNamed cX12_takeNamed 3 (some .int) (rmk 3 0 0) D z [.ref (z + aM 0), .int v1] (GG D z (X, (f1 + 1, M, o))) (some (.int r)) (GG D z (X, (f1 + 1, M', o))) := by
  unfold f_X12_takeNamed at hf
  refine cc_of pn_X12 (le_ rfl) (ls := [(0, .ref (z + aM 0)), (1, .int v1)]) rfl ?_
  intro p e s m args below meth c E
  refine j_aload_n E 0 rfl dX12_takeNamed_0 ?_
  obtain ⟨r1, h1, hf⟩ := bn1_e hf
  refine j_invV [] [.int r1] E (c_X12_isGood h1) ml_X12_275 mv_X12_isGood rfl ⟨le_ rfl, le_ rfl⟩ (rcM cf_X12) rfl rfl (le_ rfl) ⟨le_ rfl, le_ rfl⟩ dX12_takeNamed_1 ?_
  refine j_if_ne E 9 (by decide) dX12_takeNamed_4 (fun c1 => ?_) (fun c1 => ?_)
  · rw [if_neg c1] at hf
    refine j_iload_n E 1 rfl dX12_takeNamed_9 ?_
    refine j_if_eq E 20 (by decide) dX12_takeNamed_10 (fun c2 => ?_) (fun c2 => ?_)
    · rw [if_pos c2] at hf
      refine j_aload_n E 0 rfl dX12_takeNamed_20 ?_
      obtain ⟨r2, h2, hf⟩ := bn1_e hf
      refine j_invV [] [.int r2] E (c_X12_growerHere h2) ml_X12_296 mv_X12_growerHere rfl ⟨le_ rfl, le_ rfl⟩ (rcM cf_X12) rfl rfl (le_ rfl) ⟨le_ rfl, le_ rfl⟩ dX12_takeNamed_21 ?_
      refine j_istore_n (ls' := [(2, .int r2), (0, .ref (z + aM 0)), (1, .int v1)]) E (lt_ rfl) rfl dX12_takeNamed_24 ?_
      refine j_aload_n E 1 rfl dX12_takeNamed_25 ?_
      refine j_aload_n E 1 rfl dX12_takeNamed_26 ?_
      refine j_getM (f := 7) E cf_X12 fl_X12_239 (lt_ rfl) rfl rfl dX12_takeNamed_27 ?_
      refine j_iconst E 1 ic_1 dX12_takeNamed_30 ?_
      refine j_icmp_eq E 38 (by decide) dX12_takeNamed_31 (fun c3 => ?_) (fun c3 => ?_)
      · rw [if_pos c3] at hf
        refine j_iconst E 0 ic_0 dX12_takeNamed_38 ?_
        refine j_iconst E 1 ic_1 dX12_takeNamed_39 ?_
        obtain ⟨M1, h3, hf⟩ := bn1_e hf
        refine j_invV [] [] E (c_X12_requireNot h3) ml_X12_289 mv_X12_requireNot rfl ⟨le_ rfl, le_ rfl⟩ (rcM cf_X12) rfl rfl (le_ rfl) ⟨le_ rfl, le_ rfl⟩ dX12_takeNamed_40 ?_
        refine j_aload_n E 1 rfl dX12_takeNamed_43 ?_
        refine j_iload_n E 0 rfl dX12_takeNamed_44 ?_
        refine j_iconst E (-1) ic_m1 dX12_takeNamed_45 ?_
        refine j_icmp_ne E 53 (by decide) dX12_takeNamed_46 (fun c4 => ?_) (fun c4 => ?_)
        · rw [if_neg c4] at hf
          refine j_iconst E 0 ic_0 dX12_takeNamed_53 ?_
          refine j_iconst E 4 ic_4 dX12_takeNamed_54 ?_
          obtain ⟨M2, h4, hf⟩ := bn1_e hf
          refine j_invV [] [] E (c_X12_requireNot h4) ml_X12_289 mv_X12_requireNot rfl ⟨le_ rfl, le_ rfl⟩ (rcM cf_X12) rfl rfl (le_ rfl) ⟨le_ rfl, le_ rfl⟩ dX12_takeNamed_55 ?_
          refine j_aload_n E 1 rfl dX12_takeNamed_58 ?_
          obtain ⟨r3, h5, hf⟩ := bn1_e hf
          refine j_invV [] [.int r3] E (c_X12_isGood h5) ml_X12_275 mv_X12_isGood rfl ⟨le_ rfl, le_ rfl⟩ (rcM cf_X12) rfl rfl (le_ rfl) ⟨le_ rfl, le_ rfl⟩ dX12_takeNamed_59 ?_
          refine j_if_eq E 69 (by decide) dX12_takeNamed_62 (fun c5 => ?_) (fun c5 => ?_)
          · rw [if_pos c5] at hf
            refine j_iconst E 0 ic_0 dX12_takeNamed_69 ?_
            refine j_iload_n E 0 rfl dX12_takeNamed_70 ?_
            refine j_max [] E ml_X12_299 st_Lib_Math_max_name in_J9 cd_Lib_Math_max_name (le_ rfl) (le_ rfl) (le_ rfl) (le_ rfl) dX12_takeNamed_71 ?_
            cases hf
            exact j_iret E rfl (le_ rfl) (le_ rfl) dX12_takeNamed_74
          · rw [if_neg c5] at hf
            refine j_aload_n E 1 rfl dX12_takeNamed_65 ?_
            obtain ⟨M3, h6, hf⟩ := bn1_e hf
            refine j_invV [] [] E (c_X12_goOn h6) ml_X12_259 mv_X12_goOn rfl ⟨le_ rfl, le_ rfl⟩ (rcM cf_X12) rfl rfl (le_ rfl) ⟨le_ rfl, le_ rfl⟩ dX12_takeNamed_66 ?_
            refine j_iconst E 0 ic_0 dX12_takeNamed_69 ?_
            refine j_iload_n E 0 rfl dX12_takeNamed_70 ?_
            refine j_max [] E ml_X12_299 st_Lib_Math_max_name in_J9 cd_Lib_Math_max_name (le_ rfl) (le_ rfl) (le_ rfl) (le_ rfl) dX12_takeNamed_71 ?_
            cases hf
            exact j_iret E rfl (le_ rfl) (le_ rfl) dX12_takeNamed_74
        · rw [if_pos c4] at hf
          refine j_iconst E 1 ic_1 dX12_takeNamed_49 ?_
          refine j_goto E 54 (by decide) dX12_takeNamed_50 ?_
          refine j_iconst E 4 ic_4 dX12_takeNamed_54 ?_
          obtain ⟨M4, h7, hf⟩ := bn1_e hf
          refine j_invV [] [] E (c_X12_requireNot h7) ml_X12_289 mv_X12_requireNot rfl ⟨le_ rfl, le_ rfl⟩ (rcM cf_X12) rfl rfl (le_ rfl) ⟨le_ rfl, le_ rfl⟩ dX12_takeNamed_55 ?_
          refine j_aload_n E 1 rfl dX12_takeNamed_58 ?_
          obtain ⟨r4, h8, hf⟩ := bn1_e hf
          refine j_invV [] [.int r4] E (c_X12_isGood h8) ml_X12_275 mv_X12_isGood rfl ⟨le_ rfl, le_ rfl⟩ (rcM cf_X12) rfl rfl (le_ rfl) ⟨le_ rfl, le_ rfl⟩ dX12_takeNamed_59 ?_
          refine j_if_eq E 69 (by decide) dX12_takeNamed_62 (fun c6 => ?_) (fun c6 => ?_)
          · rw [if_pos c6] at hf
            refine j_iconst E 0 ic_0 dX12_takeNamed_69 ?_
            refine j_iload_n E 0 rfl dX12_takeNamed_70 ?_
            refine j_max [] E ml_X12_299 st_Lib_Math_max_name in_J9 cd_Lib_Math_max_name (le_ rfl) (le_ rfl) (le_ rfl) (le_ rfl) dX12_takeNamed_71 ?_
            cases hf
            exact j_iret E rfl (le_ rfl) (le_ rfl) dX12_takeNamed_74
          · rw [if_neg c6] at hf
            refine j_aload_n E 1 rfl dX12_takeNamed_65 ?_
            obtain ⟨M5, h9, hf⟩ := bn1_e hf
            refine j_invV [] [] E (c_X12_goOn h9) ml_X12_259 mv_X12_goOn rfl ⟨le_ rfl, le_ rfl⟩ (rcM cf_X12) rfl rfl (le_ rfl) ⟨le_ rfl, le_ rfl⟩ dX12_takeNamed_66 ?_
            refine j_iconst E 0 ic_0 dX12_takeNamed_69 ?_
            refine j_iload_n E 0 rfl dX12_takeNamed_70 ?_
            refine j_max [] E ml_X12_299 st_Lib_Math_max_name in_J9 cd_Lib_Math_max_name (le_ rfl) (le_ rfl) (le_ rfl) (le_ rfl) dX12_takeNamed_71 ?_
            cases hf
            exact j_iret E rfl (le_ rfl) (le_ rfl) dX12_takeNamed_74
      · rw [if_neg c3] at hf
        refine j_iconst E 1 ic_1 dX12_takeNamed_34 ?_
        refine j_goto E 39 (by decide) dX12_takeNamed_35 ?_
        refine j_iconst E 1 ic_1 dX12_takeNamed_39 ?_
        obtain ⟨M6, h10, hf⟩ := bn1_e hf
        refine j_invV [] [] E (c_X12_requireNot h10) ml_X12_289 mv_X12_requireNot rfl ⟨le_ rfl, le_ rfl⟩ (rcM cf_X12) rfl rfl (le_ rfl) ⟨le_ rfl, le_ rfl⟩ dX12_takeNamed_40 ?_
        refine j_aload_n E 1 rfl dX12_takeNamed_43 ?_
        refine j_iload_n E 0 rfl dX12_takeNamed_44 ?_
        refine j_iconst E (-1) ic_m1 dX12_takeNamed_45 ?_
        refine j_icmp_ne E 53 (by decide) dX12_takeNamed_46 (fun c7 => ?_) (fun c7 => ?_)
        · rw [if_neg c7] at hf
          refine j_iconst E 0 ic_0 dX12_takeNamed_53 ?_
          refine j_iconst E 4 ic_4 dX12_takeNamed_54 ?_
          obtain ⟨M7, h11, hf⟩ := bn1_e hf
          refine j_invV [] [] E (c_X12_requireNot h11) ml_X12_289 mv_X12_requireNot rfl ⟨le_ rfl, le_ rfl⟩ (rcM cf_X12) rfl rfl (le_ rfl) ⟨le_ rfl, le_ rfl⟩ dX12_takeNamed_55 ?_
          refine j_aload_n E 1 rfl dX12_takeNamed_58 ?_
          obtain ⟨r5, h12, hf⟩ := bn1_e hf
          refine j_invV [] [.int r5] E (c_X12_isGood h12) ml_X12_275 mv_X12_isGood rfl ⟨le_ rfl, le_ rfl⟩ (rcM cf_X12) rfl rfl (le_ rfl) ⟨le_ rfl, le_ rfl⟩ dX12_takeNamed_59 ?_
          refine j_if_eq E 69 (by decide) dX12_takeNamed_62 (fun c8 => ?_) (fun c8 => ?_)
          · rw [if_pos c8] at hf
            refine j_iconst E 0 ic_0 dX12_takeNamed_69 ?_
            refine j_iload_n E 0 rfl dX12_takeNamed_70 ?_
            refine j_max [] E ml_X12_299 st_Lib_Math_max_name in_J9 cd_Lib_Math_max_name (le_ rfl) (le_ rfl) (le_ rfl) (le_ rfl) dX12_takeNamed_71 ?_
            cases hf
            exact j_iret E rfl (le_ rfl) (le_ rfl) dX12_takeNamed_74
          · rw [if_neg c8] at hf
            refine j_aload_n E 1 rfl dX12_takeNamed_65 ?_
            obtain ⟨M8, h13, hf⟩ := bn1_e hf
            refine j_invV [] [] E (c_X12_goOn h13) ml_X12_259 mv_X12_goOn rfl ⟨le_ rfl, le_ rfl⟩ (rcM cf_X12) rfl rfl (le_ rfl) ⟨le_ rfl, le_ rfl⟩ dX12_takeNamed_66 ?_
            refine j_iconst E 0 ic_0 dX12_takeNamed_69 ?_
            refine j_iload_n E 0 rfl dX12_takeNamed_70 ?_
            refine j_max [] E ml_X12_299 st_Lib_Math_max_name in_J9 cd_Lib_Math_max_name (le_ rfl) (le_ rfl) (le_ rfl) (le_ rfl) dX12_takeNamed_71 ?_
            cases hf
            exact j_iret E rfl (le_ rfl) (le_ rfl) dX12_takeNamed_74
        · rw [if_pos c7] at hf
          refine j_iconst E 1 ic_1 dX12_takeNamed_49 ?_
          refine j_goto E 54 (by decide) dX12_takeNamed_50 ?_
          refine j_iconst E 4 ic_4 dX12_takeNamed_54 ?_
          obtain ⟨M9, h14, hf⟩ := bn1_e hf
          refine j_invV [] [] E (c_X12_requireNot h14) ml_X12_289 mv_X12_requireNot rfl ⟨le_ rfl, le_ rfl⟩ (rcM cf_X12) rfl rfl (le_ rfl) ⟨le_ rfl, le_ rfl⟩ dX12_takeNamed_55 ?_
          refine j_aload_n E 1 rfl dX12_takeNamed_58 ?_
          obtain ⟨r6, h15, hf⟩ := bn1_e hf
          refine j_invV [] [.int r6] E (c_X12_isGood h15) ml_X12_275 mv_X12_isGood rfl ⟨le_ rfl, le_ rfl⟩ (rcM cf_X12) rfl rfl (le_ rfl) ⟨le_ rfl, le_ rfl⟩ dX12_takeNamed_59 ?_
          refine j_if_eq E 69 (by decide) dX12_takeNamed_62 (fun c9 => ?_) (fun c9 => ?_)
          · rw [if_pos c9] at hf
            refine j_iconst E 0 ic_0 dX12_takeNamed_69 ?_
            refine j_iload_n E 0 rfl dX12_takeNamed_70 ?_
            refine j_max [] E ml_X12_299 st_Lib_Math_max_name in_J9 cd_Lib_Math_max_name (le_ rfl) (le_ rfl) (le_ rfl) (le_ rfl) dX12_takeNamed_71 ?_
            cases hf
            exact j_iret E rfl (le_ rfl) (le_ rfl) dX12_takeNamed_74
          · rw [if_neg c9] at hf
            refine j_aload_n E 1 rfl dX12_takeNamed_65 ?_
            obtain ⟨M10, h16, hf⟩ := bn1_e hf
            refine j_invV [] [] E (c_X12_goOn h16) ml_X12_259 mv_X12_goOn rfl ⟨le_ rfl, le_ rfl⟩ (rcM cf_X12) rfl rfl (le_ rfl) ⟨le_ rfl, le_ rfl⟩ dX12_takeNamed_66 ?_
            refine j_iconst E 0 ic_0 dX12_takeNamed_69 ?_
            refine j_iload_n E 0 rfl dX12_takeNamed_70 ?_
            refine j_max [] E ml_X12_299 st_Lib_Math_max_name in_J9 cd_Lib_Math_max_name (le_ rfl) (le_ rfl) (le_ rfl) (le_ rfl) dX12_takeNamed_71 ?_
            cases hf
            exact j_iret E rfl (le_ rfl) (le_ rfl) dX12_takeNamed_74
    · rw [if_neg c2] at hf
      refine j_aload_n E 0 rfl dX12_takeNamed_13 ?_
      obtain ⟨r7, h17, hf⟩ := bn1_e hf
      refine j_invV [] [.int r7] E (c_X12_varietyHere h17) ml_X12_293 mv_X12_varietyHere rfl ⟨le_ rfl, le_ rfl⟩ (rcM cf_X12) rfl rfl (le_ rfl) ⟨le_ rfl, le_ rfl⟩ dX12_takeNamed_14 ?_
      refine j_goto E 24 (by decide) dX12_takeNamed_17 ?_
      refine j_istore_n (ls' := [(2, .int r7), (0, .ref (z + aM 0)), (1, .int v1)]) E (lt_ rfl) rfl dX12_takeNamed_24 ?_
      refine j_aload_n E 1 rfl dX12_takeNamed_25 ?_
      refine j_aload_n E 1 rfl dX12_takeNamed_26 ?_
      refine j_getM (f := 7) E cf_X12 fl_X12_239 (lt_ rfl) rfl rfl dX12_takeNamed_27 ?_
      refine j_iconst E 1 ic_1 dX12_takeNamed_30 ?_
      refine j_icmp_eq E 38 (by decide) dX12_takeNamed_31 (fun c10 => ?_) (fun c10 => ?_)
      · rw [if_pos c10] at hf
        refine j_iconst E 0 ic_0 dX12_takeNamed_38 ?_
        refine j_iconst E 1 ic_1 dX12_takeNamed_39 ?_
        obtain ⟨M11, h18, hf⟩ := bn1_e hf
        refine j_invV [] [] E (c_X12_requireNot h18) ml_X12_289 mv_X12_requireNot rfl ⟨le_ rfl, le_ rfl⟩ (rcM cf_X12) rfl rfl (le_ rfl) ⟨le_ rfl, le_ rfl⟩ dX12_takeNamed_40 ?_
        refine j_aload_n E 1 rfl dX12_takeNamed_43 ?_
        refine j_iload_n E 0 rfl dX12_takeNamed_44 ?_
        refine j_iconst E (-1) ic_m1 dX12_takeNamed_45 ?_
        refine j_icmp_ne E 53 (by decide) dX12_takeNamed_46 (fun c11 => ?_) (fun c11 => ?_)
        · rw [if_neg c11] at hf
          refine j_iconst E 0 ic_0 dX12_takeNamed_53 ?_
          refine j_iconst E 4 ic_4 dX12_takeNamed_54 ?_
          obtain ⟨M12, h19, hf⟩ := bn1_e hf
          refine j_invV [] [] E (c_X12_requireNot h19) ml_X12_289 mv_X12_requireNot rfl ⟨le_ rfl, le_ rfl⟩ (rcM cf_X12) rfl rfl (le_ rfl) ⟨le_ rfl, le_ rfl⟩ dX12_takeNamed_55 ?_
          refine j_aload_n E 1 rfl dX12_takeNamed_58 ?_
          obtain ⟨r8, h20, hf⟩ := bn1_e hf
          refine j_invV [] [.int r8] E (c_X12_isGood h20) ml_X12_275 mv_X12_isGood rfl ⟨le_ rfl, le_ rfl⟩ (rcM cf_X12) rfl rfl (le_ rfl) ⟨le_ rfl, le_ rfl⟩ dX12_takeNamed_59 ?_
          refine j_if_eq E 69 (by decide) dX12_takeNamed_62 (fun c12 => ?_) (fun c12 => ?_)
          · rw [if_pos c12] at hf
            refine j_iconst E 0 ic_0 dX12_takeNamed_69 ?_
            refine j_iload_n E 0 rfl dX12_takeNamed_70 ?_
            refine j_max [] E ml_X12_299 st_Lib_Math_max_name in_J9 cd_Lib_Math_max_name (le_ rfl) (le_ rfl) (le_ rfl) (le_ rfl) dX12_takeNamed_71 ?_
            cases hf
            exact j_iret E rfl (le_ rfl) (le_ rfl) dX12_takeNamed_74
          · rw [if_neg c12] at hf
            refine j_aload_n E 1 rfl dX12_takeNamed_65 ?_
            obtain ⟨M13, h21, hf⟩ := bn1_e hf
            refine j_invV [] [] E (c_X12_goOn h21) ml_X12_259 mv_X12_goOn rfl ⟨le_ rfl, le_ rfl⟩ (rcM cf_X12) rfl rfl (le_ rfl) ⟨le_ rfl, le_ rfl⟩ dX12_takeNamed_66 ?_
            refine j_iconst E 0 ic_0 dX12_takeNamed_69 ?_
            refine j_iload_n E 0 rfl dX12_takeNamed_70 ?_
            refine j_max [] E ml_X12_299 st_Lib_Math_max_name in_J9 cd_Lib_Math_max_name (le_ rfl) (le_ rfl) (le_ rfl) (le_ rfl) dX12_takeNamed_71 ?_
            cases hf
            exact j_iret E rfl (le_ rfl) (le_ rfl) dX12_takeNamed_74
        · rw [if_pos c11] at hf
          refine j_iconst E 1 ic_1 dX12_takeNamed_49 ?_
          refine j_goto E 54 (by decide) dX12_takeNamed_50 ?_
          refine j_iconst E 4 ic_4 dX12_takeNamed_54 ?_
          obtain ⟨M14, h22, hf⟩ := bn1_e hf
          refine j_invV [] [] E (c_X12_requireNot h22) ml_X12_289 mv_X12_requireNot rfl ⟨le_ rfl, le_ rfl⟩ (rcM cf_X12) rfl rfl (le_ rfl) ⟨le_ rfl, le_ rfl⟩ dX12_takeNamed_55 ?_
          refine j_aload_n E 1 rfl dX12_takeNamed_58 ?_
          obtain ⟨r9, h23, hf⟩ := bn1_e hf
          refine j_invV [] [.int r9] E (c_X12_isGood h23) ml_X12_275 mv_X12_isGood rfl ⟨le_ rfl, le_ rfl⟩ (rcM cf_X12) rfl rfl (le_ rfl) ⟨le_ rfl, le_ rfl⟩ dX12_takeNamed_59 ?_
          refine j_if_eq E 69 (by decide) dX12_takeNamed_62 (fun c13 => ?_) (fun c13 => ?_)
          · rw [if_pos c13] at hf
            refine j_iconst E 0 ic_0 dX12_takeNamed_69 ?_
            refine j_iload_n E 0 rfl dX12_takeNamed_70 ?_
            refine j_max [] E ml_X12_299 st_Lib_Math_max_name in_J9 cd_Lib_Math_max_name (le_ rfl) (le_ rfl) (le_ rfl) (le_ rfl) dX12_takeNamed_71 ?_
            cases hf
            exact j_iret E rfl (le_ rfl) (le_ rfl) dX12_takeNamed_74
          · rw [if_neg c13] at hf
            refine j_aload_n E 1 rfl dX12_takeNamed_65 ?_
            obtain ⟨M15, h24, hf⟩ := bn1_e hf
            refine j_invV [] [] E (c_X12_goOn h24) ml_X12_259 mv_X12_goOn rfl ⟨le_ rfl, le_ rfl⟩ (rcM cf_X12) rfl rfl (le_ rfl) ⟨le_ rfl, le_ rfl⟩ dX12_takeNamed_66 ?_
            refine j_iconst E 0 ic_0 dX12_takeNamed_69 ?_
            refine j_iload_n E 0 rfl dX12_takeNamed_70 ?_
            refine j_max [] E ml_X12_299 st_Lib_Math_max_name in_J9 cd_Lib_Math_max_name (le_ rfl) (le_ rfl) (le_ rfl) (le_ rfl) dX12_takeNamed_71 ?_
            cases hf
            exact j_iret E rfl (le_ rfl) (le_ rfl) dX12_takeNamed_74
      · rw [if_neg c10] at hf
        refine j_iconst E 1 ic_1 dX12_takeNamed_34 ?_
        refine j_goto E 39 (by decide) dX12_takeNamed_35 ?_
        refine j_iconst E 1 ic_1 dX12_takeNamed_39 ?_
        obtain ⟨M16, h25, hf⟩ := bn1_e hf
        refine j_invV [] [] E (c_X12_requireNot h25) ml_X12_289 mv_X12_requireNot rfl ⟨le_ rfl, le_ rfl⟩ (rcM cf_X12) rfl rfl (le_ rfl) ⟨le_ rfl, le_ rfl⟩ dX12_takeNamed_40 ?_
        refine j_aload_n E 1 rfl dX12_takeNamed_43 ?_
        refine j_iload_n E 0 rfl dX12_takeNamed_44 ?_
        refine j_iconst E (-1) ic_m1 dX12_takeNamed_45 ?_
        refine j_icmp_ne E 53 (by decide) dX12_takeNamed_46 (fun c14 => ?_) (fun c14 => ?_)
        · rw [if_neg c14] at hf
          refine j_iconst E 0 ic_0 dX12_takeNamed_53 ?_
          refine j_iconst E 4 ic_4 dX12_takeNamed_54 ?_
          obtain ⟨M17, h26, hf⟩ := bn1_e hf
          refine j_invV [] [] E (c_X12_requireNot h26) ml_X12_289 mv_X12_requireNot rfl ⟨le_ rfl, le_ rfl⟩ (rcM cf_X12) rfl rfl (le_ rfl) ⟨le_ rfl, le_ rfl⟩ dX12_takeNamed_55 ?_
          refine j_aload_n E 1 rfl dX12_takeNamed_58 ?_
          obtain ⟨r10, h27, hf⟩ := bn1_e hf
          refine j_invV [] [.int r10] E (c_X12_isGood h27) ml_X12_275 mv_X12_isGood rfl ⟨le_ rfl, le_ rfl⟩ (rcM cf_X12) rfl rfl (le_ rfl) ⟨le_ rfl, le_ rfl⟩ dX12_takeNamed_59 ?_
          refine j_if_eq E 69 (by decide) dX12_takeNamed_62 (fun c15 => ?_) (fun c15 => ?_)
          · rw [if_pos c15] at hf
            refine j_iconst E 0 ic_0 dX12_takeNamed_69 ?_
            refine j_iload_n E 0 rfl dX12_takeNamed_70 ?_
            refine j_max [] E ml_X12_299 st_Lib_Math_max_name in_J9 cd_Lib_Math_max_name (le_ rfl) (le_ rfl) (le_ rfl) (le_ rfl) dX12_takeNamed_71 ?_
            cases hf
            exact j_iret E rfl (le_ rfl) (le_ rfl) dX12_takeNamed_74
          · rw [if_neg c15] at hf
            refine j_aload_n E 1 rfl dX12_takeNamed_65 ?_
            obtain ⟨M18, h28, hf⟩ := bn1_e hf
            refine j_invV [] [] E (c_X12_goOn h28) ml_X12_259 mv_X12_goOn rfl ⟨le_ rfl, le_ rfl⟩ (rcM cf_X12) rfl rfl (le_ rfl) ⟨le_ rfl, le_ rfl⟩ dX12_takeNamed_66 ?_
            refine j_iconst E 0 ic_0 dX12_takeNamed_69 ?_
            refine j_iload_n E 0 rfl dX12_takeNamed_70 ?_
            refine j_max [] E ml_X12_299 st_Lib_Math_max_name in_J9 cd_Lib_Math_max_name (le_ rfl) (le_ rfl) (le_ rfl) (le_ rfl) dX12_takeNamed_71 ?_
            cases hf
            exact j_iret E rfl (le_ rfl) (le_ rfl) dX12_takeNamed_74
        · rw [if_pos c14] at hf
          refine j_iconst E 1 ic_1 dX12_takeNamed_49 ?_
          refine j_goto E 54 (by decide) dX12_takeNamed_50 ?_
          refine j_iconst E 4 ic_4 dX12_takeNamed_54 ?_
          obtain ⟨M19, h29, hf⟩ := bn1_e hf
          refine j_invV [] [] E (c_X12_requireNot h29) ml_X12_289 mv_X12_requireNot rfl ⟨le_ rfl, le_ rfl⟩ (rcM cf_X12) rfl rfl (le_ rfl) ⟨le_ rfl, le_ rfl⟩ dX12_takeNamed_55 ?_
          refine j_aload_n E 1 rfl dX12_takeNamed_58 ?_
          obtain ⟨r11, h30, hf⟩ := bn1_e hf
          refine j_invV [] [.int r11] E (c_X12_isGood h30) ml_X12_275 mv_X12_isGood rfl ⟨le_ rfl, le_ rfl⟩ (rcM cf_X12) rfl rfl (le_ rfl) ⟨le_ rfl, le_ rfl⟩ dX12_takeNamed_59 ?_
          refine j_if_eq E 69 (by decide) dX12_takeNamed_62 (fun c16 => ?_) (fun c16 => ?_)
          · rw [if_pos c16] at hf
            refine j_iconst E 0 ic_0 dX12_takeNamed_69 ?_
            refine j_iload_n E 0 rfl dX12_takeNamed_70 ?_
            refine j_max [] E ml_X12_299 st_Lib_Math_max_name in_J9 cd_Lib_Math_max_name (le_ rfl) (le_ rfl) (le_ rfl) (le_ rfl) dX12_takeNamed_71 ?_
            cases hf
            exact j_iret E rfl (le_ rfl) (le_ rfl) dX12_takeNamed_74
          · rw [if_neg c16] at hf
            refine j_aload_n E 1 rfl dX12_takeNamed_65 ?_
            obtain ⟨M20, h31, hf⟩ := bn1_e hf
            refine j_invV [] [] E (c_X12_goOn h31) ml_X12_259 mv_X12_goOn rfl ⟨le_ rfl, le_ rfl⟩ (rcM cf_X12) rfl rfl (le_ rfl) ⟨le_ rfl, le_ rfl⟩ dX12_takeNamed_66 ?_
            refine j_iconst E 0 ic_0 dX12_takeNamed_69 ?_
            refine j_iload_n E 0 rfl dX12_takeNamed_70 ?_
            refine j_max [] E ml_X12_299 st_Lib_Math_max_name in_J9 cd_Lib_Math_max_name (le_ rfl) (le_ rfl) (le_ rfl) (le_ rfl) dX12_takeNamed_71 ?_
            cases hf
            exact j_iret E rfl (le_ rfl) (le_ rfl) dX12_takeNamed_74
  · rw [if_pos c1] at hf
    refine j_iconst E 0 ic_0 dX12_takeNamed_7 ?_
    cases hf
    exact j_iret E rfl (le_ rfl) (le_ rfl) dX12_takeNamed_8
def f_X12_startMore (M : MT) (v1 : Int32) (v2 : Int32) : Option (Int32 × MT) :=
  gd (¬ (v1 < 0 ∨ 264 ≤ v1.toNatClampNeg)) (if (M.1 M.2.2 v1.toNatClampNeg) = v2 then (bn1 (f_X12_requireNot M 1 5) (fun M3 => bn1 (f_X12_isGood M3) (fun r4 => if r4 = 0 then (bn1 (f_X12_isGood M3) (fun r5 => gd (r5 &&& 1 = r5) (some (r5, M3)))) else (bn1 (f_X12_goOn M3) (fun M4 => bn1 (f_X12_isGood M4) (fun r6 => gd (r6 &&& 1 = r6) (some (r6, M4)))))))) else (bn1 (f_X12_requireNot M 0 5) (fun M1 => bn1 (f_X12_isGood M1) (fun r1 => if r1 = 0 then (bn1 (f_X12_isGood M1) (fun r2 => gd (r2 &&& 1 = r2) (some (r2, M1)))) else (bn1 (f_X12_goOn M1) (fun M2 => bn1 (f_X12_isGood M2) (fun r3 => gd (r3 &&& 1 = r3) (some (r3, M2)))))))))
set_option maxRecDepth 20000 in
theorem c_X12_startMore {l : Launch} {D : DD} {z : Nat} {X : XT} {o : Int64} {f1 : Nat} {M : MT} {v1 : Int32} {v2 : Int32} {r : Int32} {M' : MT} (hf : f_X12_startMore M v1 v2 = some (r, M')) : CC l yX12_startMore cX12_startMore 3 (some .boolean) (rmk 3 0 0) D z [.ref (z + aM 0), .int v1, .int v2] (GG D z (X, (f1 + 1, M, o))) (some (.int r)) (GG D z (X, (f1 + 1, M', o))) := by
  unfold f_X12_startMore at hf
  refine cc_of pn_X12 (le_ rfl) (ls := [(0, .ref (z + aM 0)), (1, .int v1), (2, .int v2)]) rfl ?_
  intro p e s m args below meth c E
  refine j_aload_n E 0 rfl dX12_startMore_0 ?_
  refine j_aload_n E 0 rfl dX12_startMore_1 ?_
  refine j_getM (f := 3) E cf_X12 fl_X12_24 (lt_ rfl) rfl rfl dX12_startMore_2 ?_
  refine j_iload_n E 1 rfl dX12_startMore_5 ?_
  obtain ⟨g1, hf⟩ := gd_e hf
  refine j_ialdR E rfl g1 (v1.toNatClampNeg) rfl dX12_startMore_6 ?_
  refine j_iload_n E 2 rfl dX12_startMore_7 ?_
  refine j_icmp_ne E 15 (by decide) dX12_startMore_8 (fun c1 => ?_) (fun c1 => ?_)
  · rw [if_neg c1] at hf
    refine j_iconst E 0 ic_0 dX12_startMore_15 ?_
    refine j_iconst E 5 ic_5 dX12_startMore_16 ?_
    obtain ⟨M1, h1, hf⟩ := bn1_e hf
    refine j_invV [] [] E (c_X12_requireNot h1) ml_X12_289 mv_X12_requireNot rfl ⟨le_ rfl, le_ rfl⟩ (rcM cf_X12) rfl rfl (le_ rfl) ⟨le_ rfl, le_ rfl⟩ dX12_startMore_17 ?_
    refine j_aload_n E 0 rfl dX12_startMore_20 ?_
    obtain ⟨r1, h2, hf⟩ := bn1_e hf
    refine j_invV [] [.int r1] E (c_X12_isGood h2) ml_X12_275 mv_X12_isGood rfl ⟨le_ rfl, le_ rfl⟩ (rcM cf_X12) rfl rfl (le_ rfl) ⟨le_ rfl, le_ rfl⟩ dX12_startMore_21 ?_
    refine j_if_eq E 31 (by decide) dX12_startMore_24 (fun c2 => ?_) (fun c2 => ?_)
    · rw [if_pos c2] at hf
      refine j_aload_n E 0 rfl dX12_startMore_31 ?_
      obtain ⟨r2, h3, hf⟩ := bn1_e hf
      refine j_invV [] [.int r2] E (c_X12_isGood h3) ml_X12_275 mv_X12_isGood rfl ⟨le_ rfl, le_ rfl⟩ (rcM cf_X12) rfl rfl (le_ rfl) ⟨le_ rfl, le_ rfl⟩ dX12_startMore_32 ?_
      obtain ⟨g2, hf⟩ := gd_e hf
      cases hf
      exact j_iret E (nz_ g2) (le_ rfl) (le_ rfl) dX12_startMore_35
    · rw [if_neg c2] at hf
      refine j_aload_n E 0 rfl dX12_startMore_27 ?_
      obtain ⟨M2, h4, hf⟩ := bn1_e hf
      refine j_invV [] [] E (c_X12_goOn h4) ml_X12_259 mv_X12_goOn rfl ⟨le_ rfl, le_ rfl⟩ (rcM cf_X12) rfl rfl (le_ rfl) ⟨le_ rfl, le_ rfl⟩ dX12_startMore_28 ?_
      refine j_aload_n E 0 rfl dX12_startMore_31 ?_
      obtain ⟨r3, h5, hf⟩ := bn1_e hf
      refine j_invV [] [.int r3] E (c_X12_isGood h5) ml_X12_275 mv_X12_isGood rfl ⟨le_ rfl, le_ rfl⟩ (rcM cf_X12) rfl rfl (le_ rfl) ⟨le_ rfl, le_ rfl⟩ dX12_startMore_32 ?_
      obtain ⟨g3, hf⟩ := gd_e hf
      cases hf
      exact j_iret E (nz_ g3) (le_ rfl) (le_ rfl) dX12_startMore_35
  · rw [if_pos c1] at hf
    refine j_iconst E 1 ic_1 dX12_startMore_11 ?_
    refine j_goto E 16 (by decide) dX12_startMore_12 ?_
    refine j_iconst E 5 ic_5 dX12_startMore_16 ?_
    obtain ⟨M3, h6, hf⟩ := bn1_e hf
    refine j_invV [] [] E (c_X12_requireNot h6) ml_X12_289 mv_X12_requireNot rfl ⟨le_ rfl, le_ rfl⟩ (rcM cf_X12) rfl rfl (le_ rfl) ⟨le_ rfl, le_ rfl⟩ dX12_startMore_17 ?_
    refine j_aload_n E 0 rfl dX12_startMore_20 ?_
    obtain ⟨r4, h7, hf⟩ := bn1_e hf
    refine j_invV [] [.int r4] E (c_X12_isGood h7) ml_X12_275 mv_X12_isGood rfl ⟨le_ rfl, le_ rfl⟩ (rcM cf_X12) rfl rfl (le_ rfl) ⟨le_ rfl, le_ rfl⟩ dX12_startMore_21 ?_
    refine j_if_eq E 31 (by decide) dX12_startMore_24 (fun c3 => ?_) (fun c3 => ?_)
    · rw [if_pos c3] at hf
      refine j_aload_n E 0 rfl dX12_startMore_31 ?_
      obtain ⟨r5, h8, hf⟩ := bn1_e hf
      refine j_invV [] [.int r5] E (c_X12_isGood h8) ml_X12_275 mv_X12_isGood rfl ⟨le_ rfl, le_ rfl⟩ (rcM cf_X12) rfl rfl (le_ rfl) ⟨le_ rfl, le_ rfl⟩ dX12_startMore_32 ?_
      obtain ⟨g4, hf⟩ := gd_e hf
      cases hf
      exact j_iret E (nz_ g4) (le_ rfl) (le_ rfl) dX12_startMore_35
    · rw [if_neg c3] at hf
      refine j_aload_n E 0 rfl dX12_startMore_27 ?_
      obtain ⟨M4, h9, hf⟩ := bn1_e hf
      refine j_invV [] [] E (c_X12_goOn h9) ml_X12_259 mv_X12_goOn rfl ⟨le_ rfl, le_ rfl⟩ (rcM cf_X12) rfl rfl (le_ rfl) ⟨le_ rfl, le_ rfl⟩ dX12_startMore_28 ?_
      refine j_aload_n E 0 rfl dX12_startMore_31 ?_
      obtain ⟨r6, h10, hf⟩ := bn1_e hf
      refine j_invV [] [.int r6] E (c_X12_isGood h10) ml_X12_275 mv_X12_isGood rfl ⟨le_ rfl, le_ rfl⟩ (rcM cf_X12) rfl rfl (le_ rfl) ⟨le_ rfl, le_ rfl⟩ dX12_startMore_32 ?_
      obtain ⟨g5, hf⟩ := gd_e hf
      cases hf
      exact j_iret E (nz_ g5) (le_ rfl) (le_ rfl) dX12_startMore_35
def f_X12_readCooperative_23 : Nat → MT → Int32 → Option MT
  | 0, _, _ => none
  | n + 1, M, v1 => if 264 ≤ v1 then (bn2 (f_X12_takeNumber M 1 200) (fun r1 M1 => gd (M.2.2 = M1.2.2) (bnd (mi M1 M1.2.2 0 r1) (fun M2 => bn2 (f_X12_takeNumber M2 0 99999) (fun r2 M3 => gd (M2.2.2 = M3.2.2) (bnd (mi M3 M3.2.2 1 r2) (fun M4 => bnd (mi M4 M4.2.2 2 (M4.1 M4.2.2 1)) (fun M5 => bn1 (f_X12_takeEnd M5 0) (fun M6 => some M6))))))))) else (gd (¬ (v1 < 0 ∨ 264 ≤ v1.toNatClampNeg)) (bnd (mi M M.2.2 (v1.toNatClampNeg) 0) (fun M7 => f_X12_readCooperative_23 n M7 (v1 + 1))))
def f_X12_readCooperative (M : MT) : Option MT :=
  bn1 (f_X12_isWord M (M.2.1 14)) (fun r1 => if r1 = 0 then (bn1 (f_X12_fault M 1) (fun M2 => some M2)) else (bn1 (f_X12_goOn M) (fun M1 => f_X12_readCooperative_23 2000 M1 0)))
set_option maxRecDepth 20000 in
theorem b_X12_readCooperative_23 {p : Program} {l : Launch} {e : Env} {s : State} {m : MethodId} {args : Array Value} {below : List Frame} {meth : Method} {c : Code} {D : DD} {z : Nat} {X : XT} {o : Int64} {f1 : Nat} (E : Cx p s m args meth c D z RX12 cX12_readCooperative 2 none) {M' : MT} : ∀ (n : Nat) (M : MT) (v1 : Int32) (hf : f_X12_readCooperative_23 n M v1 = some M'), J p l e (rmk 4 0 0) s m args below meth c D z (GG D z (X, (f1 + 1, M, o))) 0 0 (MQ below (QC z none (GG D z (X, (f1 + 1, M', o)))) args s (rmk 4 0 0).cells (rmk 4 0 0).slots (Az z)) 2 23 [(0, .ref (z + aM 0)), (1, .int v1)] [] := by
  intro n
  induction n with
  | zero =>
    intro M v1 hf
    exact none_e hf
  | succ n ih =>
    intro M v1 hf
    rw [f_X12_readCooperative_23] at hf
    refine j_iload_n E 1 rfl dX12_readCooperative_23 ?_
    refine j_sipush E 264 sp_264 dX12_readCooperative_24 ?_
    refine j_icmp_ge E 43 (by decide) dX12_readCooperative_27 (fun c1 => ?_) (fun c1 => ?_)
    · rw [if_pos c1] at hf
      refine j_aload_n E 0 rfl dX12_readCooperative_43 ?_
      refine j_getM (f := 3) E cf_X12 fl_X12_24 (lt_ rfl) rfl rfl dX12_readCooperative_44 ?_
      refine j_iconst E 0 ic_0 dX12_readCooperative_47 ?_
      refine j_aload_n E 0 rfl dX12_readCooperative_48 ?_
      refine j_iconst E 1 ic_1 dX12_readCooperative_49 ?_
      refine j_sipush E 200 sp_200 dX12_readCooperative_50 ?_
      obtain ⟨r1, M1, h1, hf⟩ := bn2_e hf
      refine j_invV [.int 0, .ref (z + aM M.2.2)] [.int r1, .int 0, .ref (z + aM M.2.2)] E (c_X12_takeNumber h1) ml_X12_308 mv_X12_takeNumber rfl ⟨le_ rfl, le_ rfl⟩ (rcM cf_X12) rfl rfl (le_ rfl) ⟨le_ rfl, le_ rfl⟩ dX12_readCooperative_53 ?_
      obtain ⟨g1, hf⟩ := gd_e hf
      obtain ⟨M2, hM2, hf⟩ := bnd_e hf
      refine j_iastR E g1 (vi_0 (lt_ rfl)) (0) tn_0 hM2 dX12_readCooperative_56 ?_
      refine j_aload_n E 0 rfl dX12_readCooperative_57 ?_
      refine j_getM (f := 3) E cf_X12 fl_X12_24 (lt_ rfl) rfl rfl dX12_readCooperative_58 ?_
      refine j_iconst E 1 ic_1 dX12_readCooperative_61 ?_
      refine j_aload_n E 0 rfl dX12_readCooperative_62 ?_
      refine j_iconst E 0 ic_0 dX12_readCooperative_63 ?_
      refine j_ldc E ct_X12_254 dX12_readCooperative_64 ?_
      obtain ⟨r2, M3, h2, hf⟩ := bn2_e hf
      refine j_invV [.int 1, .ref (z + aM M2.2.2)] [.int r2, .int 1, .ref (z + aM M2.2.2)] E (c_X12_takeNumber h2) ml_X12_308 mv_X12_takeNumber rfl ⟨le_ rfl, le_ rfl⟩ (rcM cf_X12) rfl rfl (le_ rfl) ⟨le_ rfl, le_ rfl⟩ dX12_readCooperative_66 ?_
      obtain ⟨g2, hf⟩ := gd_e hf
      obtain ⟨M4, hM4, hf⟩ := bnd_e hf
      refine j_iastR E g2 (vi_1 (lt_ rfl)) (1) tn_1 hM4 dX12_readCooperative_69 ?_
      refine j_aload_n E 0 rfl dX12_readCooperative_70 ?_
      refine j_getM (f := 3) E cf_X12 fl_X12_24 (lt_ rfl) rfl rfl dX12_readCooperative_71 ?_
      refine j_iconst E 2 ic_2 dX12_readCooperative_74 ?_
      refine j_aload_n E 0 rfl dX12_readCooperative_75 ?_
      refine j_getM (f := 3) E cf_X12 fl_X12_24 (lt_ rfl) rfl rfl dX12_readCooperative_76 ?_
      refine j_iconst E 1 ic_1 dX12_readCooperative_79 ?_
      refine j_ialdR E rfl (vi_1 (lt_ rfl)) (1) tn_1 dX12_readCooperative_80 ?_
      obtain ⟨M5, hM5, hf⟩ := bnd_e hf
      refine j_iastR E rfl (vi_2 (lt_ rfl)) (2) tn_2 hM5 dX12_readCooperative_81 ?_
      refine j_aload_n E 0 rfl dX12_readCooperative_82 ?_
      refine j_iconst E 0 ic_0 dX12_readCooperative_83 ?_
      obtain ⟨M6, h3, hf⟩ := bn1_e hf
      refine j_invV [] [] E (c_X12_takeEnd h3) ml_X12_311 mv_X12_takeEnd rfl ⟨le_ rfl, le_ rfl⟩ (rcM cf_X12) rfl rfl (le_ rfl) ⟨le_ rfl, le_ rfl⟩ dX12_readCooperative_84 ?_
      cases hf
      exact j_vret E (le_ rfl) (le_ rfl) dX12_readCooperative_87
    · rw [if_neg c1] at hf
      refine j_aload_n E 0 rfl dX12_readCooperative_30 ?_
      refine j_getM (f := 3) E cf_X12 fl_X12_24 (lt_ rfl) rfl rfl dX12_readCooperative_31 ?_
      refine j_iload_n E 1 rfl dX12_readCooperative_34 ?_
      refine j_iconst E 0 ic_0 dX12_readCooperative_35 ?_
      obtain ⟨g3, hf⟩ := gd_e hf
      obtain ⟨M7, hM7, hf⟩ := bnd_e hf
      refine j_iastR E rfl g3 (v1.toNatClampNeg) rfl hM7 dX12_readCooperative_36 ?_
      refine j_iinc (ls' := [(1, .int (v1 + 1)), (0, .ref (z + aM 0))]) E 1 rfl (lt_ rfl) (v1 + 1) (congrArg (fun q => v1 + q) ic_1) rfl dX12_readCooperative_37 ?_
      refine j_goto E 23 (by decide) dX12_readCooperative_40 ?_
      refine j_sub [1, 0] rfl ?_
      exact ih _ _ hf
set_option maxRecDepth 20000 in
theorem c_X12_readCooperative {l : Launch} {D : DD} {z : Nat} {X : XT} {o : Int64} {f1 : Nat} {M : MT} {M' : MT} (hf : f_X12_readCooperative M = some M') : CC l yX12_readCooperative cX12_readCooperative 2 none (rmk 4 0 0) D z [.ref (z + aM 0)] (GG D z (X, (f1 + 1, M, o))) none (GG D z (X, (f1 + 1, M', o))) := by
  unfold f_X12_readCooperative at hf
  refine cc_of pn_X12 (le_ rfl) (ls := [(0, .ref (z + aM 0))]) rfl ?_
  intro p e s m args below meth c E
  refine j_aload_n E 0 rfl dX12_readCooperative_0 ?_
  refine j_aload_n E 0 rfl dX12_readCooperative_1 ?_
  refine j_getM (f := 14) E cf_X12 fl_X12_37 (lt_ rfl) rfl rfl dX12_readCooperative_2 ?_
  obtain ⟨r1, h1, hf⟩ := bn1_e hf
  refine j_invV [] [.int r1] E (c_X12_isWord h1) ml_X12_304 mv_X12_isWord rfl ⟨le_ rfl, le_ rfl⟩ (rcM cf_X12) rfl rfl (le_ rfl) ⟨le_ rfl, le_ rfl⟩ dX12_readCooperative_5 ?_
  refine j_if_ne E 17 (by decide) dX12_readCooperative_8 (fun c1 => ?_) (fun c1 => ?_)
  · rw [if_neg c1] at hf
    refine j_aload_n E 0 rfl dX12_readCooperative_17 ?_
    obtain ⟨M1, h2, hf⟩ := bn1_e hf
    refine j_invV [] [] E (c_X12_goOn h2) ml_X12_259 mv_X12_goOn rfl ⟨le_ rfl, le_ rfl⟩ (rcM cf_X12) rfl rfl (le_ rfl) ⟨le_ rfl, le_ rfl⟩ dX12_readCooperative_18 ?_
    refine j_iconst E 0 ic_0 dX12_readCooperative_21 ?_
    refine j_istore_n (ls' := [(1, .int 0), (0, .ref (z + aM 0))]) E (lt_ rfl) rfl dX12_readCooperative_22 ?_
    refine j_sub [1, 0] rfl ?_
    exact b_X12_readCooperative_23 E 2000 _ _ hf
  · rw [if_pos c1] at hf
    refine j_aload_n E 0 rfl dX12_readCooperative_11 ?_
    refine j_iconst E 1 ic_1 dX12_readCooperative_12 ?_
    obtain ⟨M2, h3, hf⟩ := bn1_e hf
    refine j_invV [] [] E (c_X12_fault h3) ml_X12_279 mv_X12_fault rfl ⟨le_ rfl, le_ rfl⟩ (rcM cf_X12) rfl rfl (le_ rfl) ⟨le_ rfl, le_ rfl⟩ dX12_readCooperative_13 ?_
    cases hf
    exact j_vret E (le_ rfl) (le_ rfl) dX12_readCooperative_16
def f_X12_readClasses_35 : Nat → MT → Option MT
  | 0, _ => none
  | n + 1, M => bn1 (f_X12_isGood M) (fun r1 => if r1 = 0 then (bn1 (f_X12_takeEnd M 0) (fun M1 => some M1)) else (if (M.1 0 7) = 2 then (bn2 (f_X12_lookNumber M 0 200) (fun r2 M2 => if (M2.1 M2.2.2 3) ≤ 0 then (bn1 (f_X12_requireNot M2 0 3) (fun M3 => if (M2.1 M2.2.2 3) = 4 then (bn1 (f_X12_requireNot M3 1 5) (fun M8 => bn1 (f_X12_isGood M8) (fun r4 => if r4 = 0 then (f_X12_readClasses_35 n M8) else (gd (¬ ((12 + (M2.1 M2.2.2 3)) < 0 ∨ 264 ≤ (12 + (M2.1 M2.2.2 3)).toNatClampNeg)) (bnd (mi M8 M8.2.2 ((12 + (M2.1 M2.2.2 3)).toNatClampNeg) r2) (fun M9 => bnd (mi M9 M9.2.2 3 ((M9.1 M9.2.2 3) + 1)) (fun M10 => bn1 (f_X12_goOn M10) (fun M11 => f_X12_readClasses_35 n M11)))))))) else (bn1 (f_X12_requireNot M3 0 5) (fun M4 => bn1 (f_X12_isGood M4) (fun r3 => if r3 = 0 then (f_X12_readClasses_35 n M4) else (gd (¬ ((12 + (M2.1 M2.2.2 3)) < 0 ∨ 264 ≤ (12 + (M2.1 M2.2.2 3)).toNatClampNeg)) (bnd (mi M4 M4.2.2 ((12 + (M2.1 M2.2.2 3)).toNatClampNeg) r2) (fun M5 => bnd (mi M5 M5.2.2 3 ((M5.1 M5.2.2 3) + 1)) (fun M6 => bn1 (f_X12_goOn M6) (fun M7 => f_X12_readClasses_35 n M7)))))))))) else (bnd ((12 + (M2.1 M2.2.2 3)) - 1) (fun x1 => gd (¬ (x1 < 0 ∨ 264 ≤ x1.toNatClampNeg)) (if r2 < (M2.1 M2.2.2 x1.toNatClampNeg) then (bn1 (f_X12_requireNot M2 0 3) (fun M12 => if (M2.1 M2.2.2 3) = 4 then (bn1 (f_X12_requireNot M12 1 5) (fun M17 => bn1 (f_X12_isGood M17) (fun r6 => if r6 = 0 then (f_X12_readClasses_35 n M17) else (gd (¬ ((12 + (M2.1 M2.2.2 3)) < 0 ∨ 264 ≤ (12 + (M2.1 M2.2.2 3)).toNatClampNeg)) (bnd (mi M17 M17.2.2 ((12 + (M2.1 M2.2.2 3)).toNatClampNeg) r2) (fun M18 => bnd (mi M18 M18.2.2 3 ((M18.1 M18.2.2 3) + 1)) (fun M19 => bn1 (f_X12_goOn M19) (fun M20 => f_X12_readClasses_35 n M20)))))))) else (bn1 (f_X12_requireNot M12 0 5) (fun M13 => bn1 (f_X12_isGood M13) (fun r5 => if r5 = 0 then (f_X12_readClasses_35 n M13) else (gd (¬ ((12 + (M2.1 M2.2.2 3)) < 0 ∨ 264 ≤ (12 + (M2.1 M2.2.2 3)).toNatClampNeg)) (bnd (mi M13 M13.2.2 ((12 + (M2.1 M2.2.2 3)).toNatClampNeg) r2) (fun M14 => bnd (mi M14 M14.2.2 3 ((M14.1 M14.2.2 3) + 1)) (fun M15 => bn1 (f_X12_goOn M15) (fun M16 => f_X12_readClasses_35 n M16)))))))))) else (bn1 (f_X12_requireNot M2 1 3) (fun M21 => if (M2.1 M2.2.2 3) = 4 then (bn1 (f_X12_requireNot M21 1 5) (fun M26 => bn1 (f_X12_isGood M26) (fun r8 => if r8 = 0 then (f_X12_readClasses_35 n M26) else (gd (¬ ((12 + (M2.1 M2.2.2 3)) < 0 ∨ 264 ≤ (12 + (M2.1 M2.2.2 3)).toNatClampNeg)) (bnd (mi M26 M26.2.2 ((12 + (M2.1 M2.2.2 3)).toNatClampNeg) r2) (fun M27 => bnd (mi M27 M27.2.2 3 ((M27.1 M27.2.2 3) + 1)) (fun M28 => bn1 (f_X12_goOn M28) (fun M29 => f_X12_readClasses_35 n M29)))))))) else (bn1 (f_X12_requireNot M21 0 5) (fun M22 => bn1 (f_X12_isGood M22) (fun r7 => if r7 = 0 then (f_X12_readClasses_35 n M22) else (gd (¬ ((12 + (M2.1 M2.2.2 3)) < 0 ∨ 264 ≤ (12 + (M2.1 M2.2.2 3)).toNatClampNeg)) (bnd (mi M22 M22.2.2 ((12 + (M2.1 M2.2.2 3)).toNatClampNeg) r2) (fun M23 => bnd (mi M23 M23.2.2 3 ((M23.1 M23.2.2 3) + 1)) (fun M24 => bn1 (f_X12_goOn M24) (fun M25 => f_X12_readClasses_35 n M25))))))))))))))) else (if (M.1 M.2.2 3) = 0 then (bn2 (f_X12_lookNumber M 0 200) (fun r9 M31 => if (M31.1 M31.2.2 3) ≤ 0 then (bn1 (f_X12_requireNot M31 0 3) (fun M32 => if (M31.1 M31.2.2 3) = 4 then (bn1 (f_X12_requireNot M32 1 5) (fun M37 => bn1 (f_X12_isGood M37) (fun r11 => if r11 = 0 then (f_X12_readClasses_35 n M37) else (gd (¬ ((12 + (M31.1 M31.2.2 3)) < 0 ∨ 264 ≤ (12 + (M31.1 M31.2.2 3)).toNatClampNeg)) (bnd (mi M37 M37.2.2 ((12 + (M31.1 M31.2.2 3)).toNatClampNeg) r9) (fun M38 => bnd (mi M38 M38.2.2 3 ((M38.1 M38.2.2 3) + 1)) (fun M39 => bn1 (f_X12_goOn M39) (fun M40 => f_X12_readClasses_35 n M40)))))))) else (bn1 (f_X12_requireNot M32 0 5) (fun M33 => bn1 (f_X12_isGood M33) (fun r10 => if r10 = 0 then (f_X12_readClasses_35 n M33) else (gd (¬ ((12 + (M31.1 M31.2.2 3)) < 0 ∨ 264 ≤ (12 + (M31.1 M31.2.2 3)).toNatClampNeg)) (bnd (mi M33 M33.2.2 ((12 + (M31.1 M31.2.2 3)).toNatClampNeg) r9) (fun M34 => bnd (mi M34 M34.2.2 3 ((M34.1 M34.2.2 3) + 1)) (fun M35 => bn1 (f_X12_goOn M35) (fun M36 => f_X12_readClasses_35 n M36)))))))))) else (bnd ((12 + (M31.1 M31.2.2 3)) - 1) (fun x2 => gd (¬ (x2 < 0 ∨ 264 ≤ x2.toNatClampNeg)) (if r9 < (M31.1 M31.2.2 x2.toNatClampNeg) then (bn1 (f_X12_requireNot M31 0 3) (fun M41 => if (M31.1 M31.2.2 3) = 4 then (bn1 (f_X12_requireNot M41 1 5) (fun M46 => bn1 (f_X12_isGood M46) (fun r13 => if r13 = 0 then (f_X12_readClasses_35 n M46) else (gd (¬ ((12 + (M31.1 M31.2.2 3)) < 0 ∨ 264 ≤ (12 + (M31.1 M31.2.2 3)).toNatClampNeg)) (bnd (mi M46 M46.2.2 ((12 + (M31.1 M31.2.2 3)).toNatClampNeg) r9) (fun M47 => bnd (mi M47 M47.2.2 3 ((M47.1 M47.2.2 3) + 1)) (fun M48 => bn1 (f_X12_goOn M48) (fun M49 => f_X12_readClasses_35 n M49)))))))) else (bn1 (f_X12_requireNot M41 0 5) (fun M42 => bn1 (f_X12_isGood M42) (fun r12 => if r12 = 0 then (f_X12_readClasses_35 n M42) else (gd (¬ ((12 + (M31.1 M31.2.2 3)) < 0 ∨ 264 ≤ (12 + (M31.1 M31.2.2 3)).toNatClampNeg)) (bnd (mi M42 M42.2.2 ((12 + (M31.1 M31.2.2 3)).toNatClampNeg) r9) (fun M43 => bnd (mi M43 M43.2.2 3 ((M43.1 M43.2.2 3) + 1)) (fun M44 => bn1 (f_X12_goOn M44) (fun M45 => f_X12_readClasses_35 n M45)))))))))) else (bn1 (f_X12_requireNot M31 1 3) (fun M50 => if (M31.1 M31.2.2 3) = 4 then (bn1 (f_X12_requireNot M50 1 5) (fun M55 => bn1 (f_X12_isGood M55) (fun r15 => if r15 = 0 then (f_X12_readClasses_35 n M55) else (gd (¬ ((12 + (M31.1 M31.2.2 3)) < 0 ∨ 264 ≤ (12 + (M31.1 M31.2.2 3)).toNatClampNeg)) (bnd (mi M55 M55.2.2 ((12 + (M31.1 M31.2.2 3)).toNatClampNeg) r9) (fun M56 => bnd (mi M56 M56.2.2 3 ((M56.1 M56.2.2 3) + 1)) (fun M57 => bn1 (f_X12_goOn M57) (fun M58 => f_X12_readClasses_35 n M58)))))))) else (bn1 (f_X12_requireNot M50 0 5) (fun M51 => bn1 (f_X12_isGood M51) (fun r14 => if r14 = 0 then (f_X12_readClasses_35 n M51) else (gd (¬ ((12 + (M31.1 M31.2.2 3)) < 0 ∨ 264 ≤ (12 + (M31.1 M31.2.2 3)).toNatClampNeg)) (bnd (mi M51 M51.2.2 ((12 + (M31.1 M31.2.2 3)).toNatClampNeg) r9) (fun M52 => bnd (mi M52 M52.2.2 3 ((M52.1 M52.2.2 3) + 1)) (fun M53 => bn1 (f_X12_goOn M53) (fun M54 => f_X12_readClasses_35 n M54))))))))))))))) else (bn1 (f_X12_takeEnd M 0) (fun M30 => some M30)))))
def f_X12_readClasses (M : MT) : Option MT :=
  bn1 (f_X12_isGood M) (fun r1 => if r1 = 0 then (bn1 (f_X12_isGood M) (fun r2 => if r2 = 0 then (some M) else (bn1 (f_X12_goOn M) (fun M1 => f_X12_readClasses_35 2000 M1)))) else (bn1 (f_X12_isWord M (M.2.1 15)) (fun r3 => if r3 = 0 then (bn1 (f_X12_fault M 1) (fun M3 => bn1 (f_X12_isGood M3) (fun r5 => if r5 = 0 then (some M3) else (bn1 (f_X12_goOn M3) (fun M4 => f_X12_readClasses_35 2000 M4))))) else (bn1 (f_X12_isGood M) (fun r4 => if r4 = 0 then (some M) else (bn1 (f_X12_goOn M) (fun M2 => f_X12_readClasses_35 2000 M2)))))))
set_option maxRecDepth 20000 in
theorem b_X12_readClasses_35 {p : Program} {l : Launch} {e : Env} {s : State} {m : MethodId} {args : Array Value} {below : List Frame} {meth : Method} {c : Code} {D : DD} {z : Nat} {X : XT} {o : Int64} {f1 : Nat} (E : Cx p s m args meth c D z RX12 cX12_readClasses 3 none) {M' : MT} : ∀ (n : Nat) (M : MT) (hf : f_X12_readClasses_35 n M = some M'), J p l e (rmk 4 0 0) s m args below meth c D z (GG D z (X, (f1 + 1, M, o))) 0 0 (MQ below (QC z none (GG D z (X, (f1 + 1, M', o)))) args s (rmk 4 0 0).cells (rmk 4 0 0).slots (Az z)) 3 35 [(0, .ref (z + aM 0))] [] := by
  intro n
  induction n with
  | zero =>
    intro M hf
    exact none_e hf
  | succ n ih =>
    intro M hf
    rw [f_X12_readClasses_35] at hf
    refine j_aload_n E 0 rfl dX12_readClasses_35 ?_
    obtain ⟨r1, h1, hf⟩ := bn1_e hf
    refine j_invV [] [.int r1] E (c_X12_isGood h1) ml_X12_275 mv_X12_isGood rfl ⟨le_ rfl, le_ rfl⟩ (rcM cf_X12) rfl rfl (le_ rfl) ⟨le_ rfl, le_ rfl⟩ dX12_readClasses_36 ?_
    refine j_if_eq E 153 (by decide) dX12_readClasses_39 (fun c1 => ?_) (fun c1 => ?_)
    · rw [if_pos c1] at hf
      refine j_aload_n E 0 rfl dX12_readClasses_153 ?_
      refine j_iconst E 0 ic_0 dX12_readClasses_154 ?_
      obtain ⟨M1, h2, hf⟩ := bn1_e hf
      refine j_invV [] [] E (c_X12_takeEnd h2) ml_X12_311 mv_X12_takeEnd rfl ⟨le_ rfl, le_ rfl⟩ (rcM cf_X12) rfl rfl (le_ rfl) ⟨le_ rfl, le_ rfl⟩ dX12_readClasses_155 ?_
      cases hf
      exact j_vret E (le_ rfl) (le_ rfl) dX12_readClasses_158
    · rw [if_neg c1] at hf
      refine j_aload_n E 0 rfl dX12_readClasses_42 ?_
      refine j_getM (f := 7) E cf_X12 fl_X12_239 (lt_ rfl) rfl rfl dX12_readClasses_43 ?_
      refine j_iconst E 2 ic_2 dX12_readClasses_46 ?_
      refine j_icmp_eq E 59 (by decide) dX12_readClasses_47 (fun c2 => ?_) (fun c2 => ?_)
      · rw [if_pos c2] at hf
        refine j_aload_n E 0 rfl dX12_readClasses_59 ?_
        refine j_iconst E 0 ic_0 dX12_readClasses_60 ?_
        refine j_sipush E 200 sp_200 dX12_readClasses_61 ?_
        obtain ⟨r2, M2, h3, hf⟩ := bn2_e hf
        refine j_invV [] [.int r2] E (c_X12_lookNumber h3) ml_X12_286 mv_X12_lookNumber rfl ⟨le_ rfl, le_ rfl⟩ (rcM cf_X12) rfl rfl (le_ rfl) ⟨le_ rfl, le_ rfl⟩ dX12_readClasses_64 ?_
        refine j_istore_n (ls' := [(1, .int r2), (0, .ref (z + aM 0))]) E (lt_ rfl) rfl dX12_readClasses_67 ?_
        refine j_aload_n E 1 rfl dX12_readClasses_68 ?_
        refine j_getM (f := 3) E cf_X12 fl_X12_24 (lt_ rfl) rfl rfl dX12_readClasses_69 ?_
        refine j_iconst E 3 ic_3 dX12_readClasses_72 ?_
        refine j_ialdR E rfl (vi_3 (lt_ rfl)) (3) tn_3 dX12_readClasses_73 ?_
        refine j_istore_n (ls' := [(2, .int (M2.1 M2.2.2 3)), (1, .int r2), (0, .ref (z + aM 0))]) E (lt_ rfl) rfl dX12_readClasses_74 ?_
        refine j_aload_n E 2 rfl dX12_readClasses_75 ?_
        refine j_iload_n E 0 rfl dX12_readClasses_76 ?_
        refine j_if_le E 99 (by decide) dX12_readClasses_77 (fun c3 => ?_) (fun c3 => ?_)
        · rw [if_pos c3] at hf
          refine j_iconst E 0 ic_0 dX12_readClasses_99 ?_
          refine j_iconst E 3 ic_3 dX12_readClasses_100 ?_
          obtain ⟨M3, h4, hf⟩ := bn1_e hf
          refine j_invV [] [] E (c_X12_requireNot h4) ml_X12_289 mv_X12_requireNot rfl ⟨le_ rfl, le_ rfl⟩ (rcM cf_X12) rfl rfl (le_ rfl) ⟨le_ rfl, le_ rfl⟩ dX12_readClasses_101 ?_
          refine j_aload_n E 2 rfl dX12_readClasses_104 ?_
          refine j_iload_n E 0 rfl dX12_readClasses_105 ?_
          refine j_iconst E 4 ic_4 dX12_readClasses_106 ?_
          refine j_icmp_ne E 114 (by decide) dX12_readClasses_107 (fun c4 => ?_) (fun c4 => ?_)
          · rw [if_neg c4] at hf
            refine j_iconst E 0 ic_0 dX12_readClasses_114 ?_
            refine j_iconst E 5 ic_5 dX12_readClasses_115 ?_
            obtain ⟨M4, h5, hf⟩ := bn1_e hf
            refine j_invV [] [] E (c_X12_requireNot h5) ml_X12_289 mv_X12_requireNot rfl ⟨le_ rfl, le_ rfl⟩ (rcM cf_X12) rfl rfl (le_ rfl) ⟨le_ rfl, le_ rfl⟩ dX12_readClasses_116 ?_
            refine j_aload_n E 2 rfl dX12_readClasses_119 ?_
            obtain ⟨r3, h6, hf⟩ := bn1_e hf
            refine j_invV [] [.int r3] E (c_X12_isGood h6) ml_X12_275 mv_X12_isGood rfl ⟨le_ rfl, le_ rfl⟩ (rcM cf_X12) rfl rfl (le_ rfl) ⟨le_ rfl, le_ rfl⟩ dX12_readClasses_120 ?_
            refine j_if_eq E 150 (by decide) dX12_readClasses_123 (fun c5 => ?_) (fun c5 => ?_)
            · rw [if_pos c5] at hf
              refine j_goto E 35 (by decide) dX12_readClasses_150 ?_
              refine j_sub [2] rfl ?_
              exact ih _ hf
            · rw [if_neg c5] at hf
              refine j_aload_n E 2 rfl dX12_readClasses_126 ?_
              refine j_getM (f := 3) E cf_X12 fl_X12_24 (lt_ rfl) rfl rfl dX12_readClasses_127 ?_
              refine j_bipush E 12 bp_12 dX12_readClasses_130 ?_
              refine j_iload_n E 0 rfl dX12_readClasses_132 ?_
              refine j_iadd E dX12_readClasses_133 ?_
              refine j_iload_n E 1 rfl dX12_readClasses_134 ?_
              obtain ⟨g1, hf⟩ := gd_e hf
              obtain ⟨M5, hM5, hf⟩ := bnd_e hf
              refine j_iastR E rfl g1 ((12 + (M2.1 M2.2.2 3)).toNatClampNeg) rfl hM5 dX12_readClasses_135 ?_
              refine j_aload_n E 2 rfl dX12_readClasses_136 ?_
              refine j_getM (f := 3) E cf_X12 fl_X12_24 (lt_ rfl) rfl rfl dX12_readClasses_137 ?_
              refine j_iconst E 3 ic_3 dX12_readClasses_140 ?_
              refine j_dup2 E rfl rfl dX12_readClasses_141 ?_
              refine j_ialdR E rfl (vi_3 (lt_ rfl)) (3) tn_3 dX12_readClasses_142 ?_
              refine j_iconst E 1 ic_1 dX12_readClasses_143 ?_
              refine j_iadd E dX12_readClasses_144 ?_
              obtain ⟨M6, hM6, hf⟩ := bnd_e hf
              refine j_iastR E rfl (vi_3 (lt_ rfl)) (3) tn_3 hM6 dX12_readClasses_145 ?_
              refine j_aload_n E 2 rfl dX12_readClasses_146 ?_
              obtain ⟨M7, h7, hf⟩ := bn1_e hf
              refine j_invV [] [] E (c_X12_goOn h7) ml_X12_259 mv_X12_goOn rfl ⟨le_ rfl, le_ rfl⟩ (rcM cf_X12) rfl rfl (le_ rfl) ⟨le_ rfl, le_ rfl⟩ dX12_readClasses_147 ?_
              refine j_goto E 35 (by decide) dX12_readClasses_150 ?_
              refine j_sub [2] rfl ?_
              exact ih _ hf
          · rw [if_pos c4] at hf
            refine j_iconst E 1 ic_1 dX12_readClasses_110 ?_
            refine j_goto E 115 (by decide) dX12_readClasses_111 ?_
            refine j_iconst E 5 ic_5 dX12_readClasses_115 ?_
            obtain ⟨M8, h8, hf⟩ := bn1_e hf
            refine j_invV [] [] E (c_X12_requireNot h8) ml_X12_289 mv_X12_requireNot rfl ⟨le_ rfl, le_ rfl⟩ (rcM cf_X12) rfl rfl (le_ rfl) ⟨le_ rfl, le_ rfl⟩ dX12_readClasses_116 ?_
            refine j_aload_n E 2 rfl dX12_readClasses_119 ?_
            obtain ⟨r4, h9, hf⟩ := bn1_e hf
            refine j_invV [] [.int r4] E (c_X12_isGood h9) ml_X12_275 mv_X12_isGood rfl ⟨le_ rfl, le_ rfl⟩ (rcM cf_X12) rfl rfl (le_ rfl) ⟨le_ rfl, le_ rfl⟩ dX12_readClasses_120 ?_
            refine j_if_eq E 150 (by decide) dX12_readClasses_123 (fun c6 => ?_) (fun c6 => ?_)
            · rw [if_pos c6] at hf
              refine j_goto E 35 (by decide) dX12_readClasses_150 ?_
              refine j_sub [2] rfl ?_
              exact ih _ hf
            · rw [if_neg c6] at hf
              refine j_aload_n E 2 rfl dX12_readClasses_126 ?_
              refine j_getM (f := 3) E cf_X12 fl_X12_24 (lt_ rfl) rfl rfl dX12_readClasses_127 ?_
              refine j_bipush E 12 bp_12 dX12_readClasses_130 ?_
              refine j_iload_n E 0 rfl dX12_readClasses_132 ?_
              refine j_iadd E dX12_readClasses_133 ?_
              refine j_iload_n E 1 rfl dX12_readClasses_134 ?_
              obtain ⟨g2, hf⟩ := gd_e hf
              obtain ⟨M9, hM9, hf⟩ := bnd_e hf
              refine j_iastR E rfl g2 ((12 + (M2.1 M2.2.2 3)).toNatClampNeg) rfl hM9 dX12_readClasses_135 ?_
              refine j_aload_n E 2 rfl dX12_readClasses_136 ?_
              refine j_getM (f := 3) E cf_X12 fl_X12_24 (lt_ rfl) rfl rfl dX12_readClasses_137 ?_
              refine j_iconst E 3 ic_3 dX12_readClasses_140 ?_
              refine j_dup2 E rfl rfl dX12_readClasses_141 ?_
              refine j_ialdR E rfl (vi_3 (lt_ rfl)) (3) tn_3 dX12_readClasses_142 ?_
              refine j_iconst E 1 ic_1 dX12_readClasses_143 ?_
              refine j_iadd E dX12_readClasses_144 ?_
              obtain ⟨M10, hM10, hf⟩ := bnd_e hf
              refine j_iastR E rfl (vi_3 (lt_ rfl)) (3) tn_3 hM10 dX12_readClasses_145 ?_
              refine j_aload_n E 2 rfl dX12_readClasses_146 ?_
              obtain ⟨M11, h10, hf⟩ := bn1_e hf
              refine j_invV [] [] E (c_X12_goOn h10) ml_X12_259 mv_X12_goOn rfl ⟨le_ rfl, le_ rfl⟩ (rcM cf_X12) rfl rfl (le_ rfl) ⟨le_ rfl, le_ rfl⟩ dX12_readClasses_147 ?_
              refine j_goto E 35 (by decide) dX12_readClasses_150 ?_
              refine j_sub [2] rfl ?_
              exact ih _ hf
        · rw [if_neg c3] at hf
          refine j_iload_n E 1 rfl dX12_readClasses_80 ?_
          refine j_aload_n E 2 rfl dX12_readClasses_81 ?_
          refine j_getM (f := 3) E cf_X12 fl_X12_24 (lt_ rfl) rfl rfl dX12_readClasses_82 ?_
          refine j_bipush E 12 bp_12 dX12_readClasses_85 ?_
          refine j_iload_n E 0 rfl dX12_readClasses_87 ?_
          refine j_iadd E dX12_readClasses_88 ?_
          refine j_iconst E 1 ic_1 dX12_readClasses_89 ?_
          refine j_isub E dX12_readClasses_90 ?_
          obtain ⟨x1, hx1, hf⟩ := bnd_e hf
          refine j_name hx1 ?_
          obtain ⟨g3, hf⟩ := gd_e hf
          refine j_ialdR E rfl g3 (x1.toNatClampNeg) rfl dX12_readClasses_91 ?_
          refine j_icmp_lt E 99 (by decide) dX12_readClasses_92 (fun c7 => ?_) (fun c7 => ?_)
          · rw [if_pos c7] at hf
            refine j_iconst E 0 ic_0 dX12_readClasses_99 ?_
            refine j_iconst E 3 ic_3 dX12_readClasses_100 ?_
            obtain ⟨M12, h11, hf⟩ := bn1_e hf
            refine j_invV [] [] E (c_X12_requireNot h11) ml_X12_289 mv_X12_requireNot rfl ⟨le_ rfl, le_ rfl⟩ (rcM cf_X12) rfl rfl (le_ rfl) ⟨le_ rfl, le_ rfl⟩ dX12_readClasses_101 ?_
            refine j_aload_n E 2 rfl dX12_readClasses_104 ?_
            refine j_iload_n E 0 rfl dX12_readClasses_105 ?_
            refine j_iconst E 4 ic_4 dX12_readClasses_106 ?_
            refine j_icmp_ne E 114 (by decide) dX12_readClasses_107 (fun c8 => ?_) (fun c8 => ?_)
            · rw [if_neg c8] at hf
              refine j_iconst E 0 ic_0 dX12_readClasses_114 ?_
              refine j_iconst E 5 ic_5 dX12_readClasses_115 ?_
              obtain ⟨M13, h12, hf⟩ := bn1_e hf
              refine j_invV [] [] E (c_X12_requireNot h12) ml_X12_289 mv_X12_requireNot rfl ⟨le_ rfl, le_ rfl⟩ (rcM cf_X12) rfl rfl (le_ rfl) ⟨le_ rfl, le_ rfl⟩ dX12_readClasses_116 ?_
              refine j_aload_n E 2 rfl dX12_readClasses_119 ?_
              obtain ⟨r5, h13, hf⟩ := bn1_e hf
              refine j_invV [] [.int r5] E (c_X12_isGood h13) ml_X12_275 mv_X12_isGood rfl ⟨le_ rfl, le_ rfl⟩ (rcM cf_X12) rfl rfl (le_ rfl) ⟨le_ rfl, le_ rfl⟩ dX12_readClasses_120 ?_
              refine j_if_eq E 150 (by decide) dX12_readClasses_123 (fun c9 => ?_) (fun c9 => ?_)
              · rw [if_pos c9] at hf
                refine j_goto E 35 (by decide) dX12_readClasses_150 ?_
                refine j_sub [2] rfl ?_
                exact ih _ hf
              · rw [if_neg c9] at hf
                refine j_aload_n E 2 rfl dX12_readClasses_126 ?_
                refine j_getM (f := 3) E cf_X12 fl_X12_24 (lt_ rfl) rfl rfl dX12_readClasses_127 ?_
                refine j_bipush E 12 bp_12 dX12_readClasses_130 ?_
                refine j_iload_n E 0 rfl dX12_readClasses_132 ?_
                refine j_iadd E dX12_readClasses_133 ?_
                refine j_iload_n E 1 rfl dX12_readClasses_134 ?_
                obtain ⟨g4, hf⟩ := gd_e hf
                obtain ⟨M14, hM14, hf⟩ := bnd_e hf
                refine j_iastR E rfl g4 ((12 + (M2.1 M2.2.2 3)).toNatClampNeg) rfl hM14 dX12_readClasses_135 ?_
                refine j_aload_n E 2 rfl dX12_readClasses_136 ?_
                refine j_getM (f := 3) E cf_X12 fl_X12_24 (lt_ rfl) rfl rfl dX12_readClasses_137 ?_
                refine j_iconst E 3 ic_3 dX12_readClasses_140 ?_
                refine j_dup2 E rfl rfl dX12_readClasses_141 ?_
                refine j_ialdR E rfl (vi_3 (lt_ rfl)) (3) tn_3 dX12_readClasses_142 ?_
                refine j_iconst E 1 ic_1 dX12_readClasses_143 ?_
                refine j_iadd E dX12_readClasses_144 ?_
                obtain ⟨M15, hM15, hf⟩ := bnd_e hf
                refine j_iastR E rfl (vi_3 (lt_ rfl)) (3) tn_3 hM15 dX12_readClasses_145 ?_
                refine j_aload_n E 2 rfl dX12_readClasses_146 ?_
                obtain ⟨M16, h14, hf⟩ := bn1_e hf
                refine j_invV [] [] E (c_X12_goOn h14) ml_X12_259 mv_X12_goOn rfl ⟨le_ rfl, le_ rfl⟩ (rcM cf_X12) rfl rfl (le_ rfl) ⟨le_ rfl, le_ rfl⟩ dX12_readClasses_147 ?_
                refine j_goto E 35 (by decide) dX12_readClasses_150 ?_
                refine j_sub [2] rfl ?_
                exact ih _ hf
            · rw [if_pos c8] at hf
              refine j_iconst E 1 ic_1 dX12_readClasses_110 ?_
              refine j_goto E 115 (by decide) dX12_readClasses_111 ?_
              refine j_iconst E 5 ic_5 dX12_readClasses_115 ?_
              obtain ⟨M17, h15, hf⟩ := bn1_e hf
              refine j_invV [] [] E (c_X12_requireNot h15) ml_X12_289 mv_X12_requireNot rfl ⟨le_ rfl, le_ rfl⟩ (rcM cf_X12) rfl rfl (le_ rfl) ⟨le_ rfl, le_ rfl⟩ dX12_readClasses_116 ?_
              refine j_aload_n E 2 rfl dX12_readClasses_119 ?_
              obtain ⟨r6, h16, hf⟩ := bn1_e hf
              refine j_invV [] [.int r6] E (c_X12_isGood h16) ml_X12_275 mv_X12_isGood rfl ⟨le_ rfl, le_ rfl⟩ (rcM cf_X12) rfl rfl (le_ rfl) ⟨le_ rfl, le_ rfl⟩ dX12_readClasses_120 ?_
              refine j_if_eq E 150 (by decide) dX12_readClasses_123 (fun c10 => ?_) (fun c10 => ?_)
              · rw [if_pos c10] at hf
                refine j_goto E 35 (by decide) dX12_readClasses_150 ?_
                refine j_sub [2] rfl ?_
                exact ih _ hf
              · rw [if_neg c10] at hf
                refine j_aload_n E 2 rfl dX12_readClasses_126 ?_
                refine j_getM (f := 3) E cf_X12 fl_X12_24 (lt_ rfl) rfl rfl dX12_readClasses_127 ?_
                refine j_bipush E 12 bp_12 dX12_readClasses_130 ?_
                refine j_iload_n E 0 rfl dX12_readClasses_132 ?_
                refine j_iadd E dX12_readClasses_133 ?_
                refine j_iload_n E 1 rfl dX12_readClasses_134 ?_
                obtain ⟨g5, hf⟩ := gd_e hf
                obtain ⟨M18, hM18, hf⟩ := bnd_e hf
                refine j_iastR E rfl g5 ((12 + (M2.1 M2.2.2 3)).toNatClampNeg) rfl hM18 dX12_readClasses_135 ?_
                refine j_aload_n E 2 rfl dX12_readClasses_136 ?_
                refine j_getM (f := 3) E cf_X12 fl_X12_24 (lt_ rfl) rfl rfl dX12_readClasses_137 ?_
                refine j_iconst E 3 ic_3 dX12_readClasses_140 ?_
                refine j_dup2 E rfl rfl dX12_readClasses_141 ?_
                refine j_ialdR E rfl (vi_3 (lt_ rfl)) (3) tn_3 dX12_readClasses_142 ?_
                refine j_iconst E 1 ic_1 dX12_readClasses_143 ?_
                refine j_iadd E dX12_readClasses_144 ?_
                obtain ⟨M19, hM19, hf⟩ := bnd_e hf
                refine j_iastR E rfl (vi_3 (lt_ rfl)) (3) tn_3 hM19 dX12_readClasses_145 ?_
                refine j_aload_n E 2 rfl dX12_readClasses_146 ?_
                obtain ⟨M20, h17, hf⟩ := bn1_e hf
                refine j_invV [] [] E (c_X12_goOn h17) ml_X12_259 mv_X12_goOn rfl ⟨le_ rfl, le_ rfl⟩ (rcM cf_X12) rfl rfl (le_ rfl) ⟨le_ rfl, le_ rfl⟩ dX12_readClasses_147 ?_
                refine j_goto E 35 (by decide) dX12_readClasses_150 ?_
                refine j_sub [2] rfl ?_
                exact ih _ hf
          · rw [if_neg c7] at hf
            refine j_iconst E 1 ic_1 dX12_readClasses_95 ?_
            refine j_goto E 100 (by decide) dX12_readClasses_96 ?_
            refine j_iconst E 3 ic_3 dX12_readClasses_100 ?_
            obtain ⟨M21, h18, hf⟩ := bn1_e hf
            refine j_invV [] [] E (c_X12_requireNot h18) ml_X12_289 mv_X12_requireNot rfl ⟨le_ rfl, le_ rfl⟩ (rcM cf_X12) rfl rfl (le_ rfl) ⟨le_ rfl, le_ rfl⟩ dX12_readClasses_101 ?_
            refine j_aload_n E 2 rfl dX12_readClasses_104 ?_
            refine j_iload_n E 0 rfl dX12_readClasses_105 ?_
            refine j_iconst E 4 ic_4 dX12_readClasses_106 ?_
            refine j_icmp_ne E 114 (by decide) dX12_readClasses_107 (fun c11 => ?_) (fun c11 => ?_)
            · rw [if_neg c11] at hf
              refine j_iconst E 0 ic_0 dX12_readClasses_114 ?_
              refine j_iconst E 5 ic_5 dX12_readClasses_115 ?_
              obtain ⟨M22, h19, hf⟩ := bn1_e hf
              refine j_invV [] [] E (c_X12_requireNot h19) ml_X12_289 mv_X12_requireNot rfl ⟨le_ rfl, le_ rfl⟩ (rcM cf_X12) rfl rfl (le_ rfl) ⟨le_ rfl, le_ rfl⟩ dX12_readClasses_116 ?_
              refine j_aload_n E 2 rfl dX12_readClasses_119 ?_
              obtain ⟨r7, h20, hf⟩ := bn1_e hf
              refine j_invV [] [.int r7] E (c_X12_isGood h20) ml_X12_275 mv_X12_isGood rfl ⟨le_ rfl, le_ rfl⟩ (rcM cf_X12) rfl rfl (le_ rfl) ⟨le_ rfl, le_ rfl⟩ dX12_readClasses_120 ?_
              refine j_if_eq E 150 (by decide) dX12_readClasses_123 (fun c12 => ?_) (fun c12 => ?_)
              · rw [if_pos c12] at hf
                refine j_goto E 35 (by decide) dX12_readClasses_150 ?_
                refine j_sub [2] rfl ?_
                exact ih _ hf
              · rw [if_neg c12] at hf
                refine j_aload_n E 2 rfl dX12_readClasses_126 ?_
                refine j_getM (f := 3) E cf_X12 fl_X12_24 (lt_ rfl) rfl rfl dX12_readClasses_127 ?_
                refine j_bipush E 12 bp_12 dX12_readClasses_130 ?_
                refine j_iload_n E 0 rfl dX12_readClasses_132 ?_
                refine j_iadd E dX12_readClasses_133 ?_
                refine j_iload_n E 1 rfl dX12_readClasses_134 ?_
                obtain ⟨g6, hf⟩ := gd_e hf
                obtain ⟨M23, hM23, hf⟩ := bnd_e hf
                refine j_iastR E rfl g6 ((12 + (M2.1 M2.2.2 3)).toNatClampNeg) rfl hM23 dX12_readClasses_135 ?_
                refine j_aload_n E 2 rfl dX12_readClasses_136 ?_
                refine j_getM (f := 3) E cf_X12 fl_X12_24 (lt_ rfl) rfl rfl dX12_readClasses_137 ?_
                refine j_iconst E 3 ic_3 dX12_readClasses_140 ?_
                refine j_dup2 E rfl rfl dX12_readClasses_141 ?_
                refine j_ialdR E rfl (vi_3 (lt_ rfl)) (3) tn_3 dX12_readClasses_142 ?_
                refine j_iconst E 1 ic_1 dX12_readClasses_143 ?_
                refine j_iadd E dX12_readClasses_144 ?_
                obtain ⟨M24, hM24, hf⟩ := bnd_e hf
                refine j_iastR E rfl (vi_3 (lt_ rfl)) (3) tn_3 hM24 dX12_readClasses_145 ?_
                refine j_aload_n E 2 rfl dX12_readClasses_146 ?_
                obtain ⟨M25, h21, hf⟩ := bn1_e hf
                refine j_invV [] [] E (c_X12_goOn h21) ml_X12_259 mv_X12_goOn rfl ⟨le_ rfl, le_ rfl⟩ (rcM cf_X12) rfl rfl (le_ rfl) ⟨le_ rfl, le_ rfl⟩ dX12_readClasses_147 ?_
                refine j_goto E 35 (by decide) dX12_readClasses_150 ?_
                refine j_sub [2] rfl ?_
                exact ih _ hf
            · rw [if_pos c11] at hf
              refine j_iconst E 1 ic_1 dX12_readClasses_110 ?_
              refine j_goto E 115 (by decide) dX12_readClasses_111 ?_
              refine j_iconst E 5 ic_5 dX12_readClasses_115 ?_
              obtain ⟨M26, h22, hf⟩ := bn1_e hf
              refine j_invV [] [] E (c_X12_requireNot h22) ml_X12_289 mv_X12_requireNot rfl ⟨le_ rfl, le_ rfl⟩ (rcM cf_X12) rfl rfl (le_ rfl) ⟨le_ rfl, le_ rfl⟩ dX12_readClasses_116 ?_
              refine j_aload_n E 2 rfl dX12_readClasses_119 ?_
              obtain ⟨r8, h23, hf⟩ := bn1_e hf
              refine j_invV [] [.int r8] E (c_X12_isGood h23) ml_X12_275 mv_X12_isGood rfl ⟨le_ rfl, le_ rfl⟩ (rcM cf_X12) rfl rfl (le_ rfl) ⟨le_ rfl, le_ rfl⟩ dX12_readClasses_120 ?_
              refine j_if_eq E 150 (by decide) dX12_readClasses_123 (fun c13 => ?_) (fun c13 => ?_)
              · rw [if_pos c13] at hf
                refine j_goto E 35 (by decide) dX12_readClasses_150 ?_
                refine j_sub [2] rfl ?_
                exact ih _ hf
              · rw [if_neg c13] at hf
                refine j_aload_n E 2 rfl dX12_readClasses_126 ?_
                refine j_getM (f := 3) E cf_X12 fl_X12_24 (lt_ rfl) rfl rfl dX12_readClasses_127 ?_
                refine j_bipush E 12 bp_12 dX12_readClasses_130 ?_
                refine j_iload_n E 0 rfl dX12_readClasses_132 ?_
                refine j_iadd E dX12_readClasses_133 ?_
                refine j_iload_n E 1 rfl dX12_readClasses_134 ?_
                obtain ⟨g7, hf⟩ := gd_e hf
                obtain ⟨M27, hM27, hf⟩ := bnd_e hf
                refine j_iastR E rfl g7 ((12 + (M2.1 M2.2.2 3)).toNatClampNeg) rfl hM27 dX12_readClasses_135 ?_
                refine j_aload_n E 2 rfl dX12_readClasses_136 ?_
                refine j_getM (f := 3) E cf_X12 fl_X12_24 (lt_ rfl) rfl rfl dX12_readClasses_137 ?_
                refine j_iconst E 3 ic_3 dX12_readClasses_140 ?_
                refine j_dup2 E rfl rfl dX12_readClasses_141 ?_
                refine j_ialdR E rfl (vi_3 (lt_ rfl)) (3) tn_3 dX12_readClasses_142 ?_
                refine j_iconst E 1 ic_1 dX12_readClasses_143 ?_
                refine j_iadd E dX12_readClasses_144 ?_
                obtain ⟨M28, hM28, hf⟩ := bnd_e hf
                refine j_iastR E rfl (vi_3 (lt_ rfl)) (3) tn_3 hM28 dX12_readClasses_145 ?_
                refine j_aload_n E 2 rfl dX12_readClasses_146 ?_
                obtain ⟨M29, h24, hf⟩ := bn1_e hf
                refine j_invV [] [] E (c_X12_goOn h24) ml_X12_259 mv_X12_goOn rfl ⟨le_ rfl, le_ rfl⟩ (rcM cf_X12) rfl rfl (le_ rfl) ⟨le_ rfl, le_ rfl⟩ dX12_readClasses_147 ?_
                refine j_goto E 35 (by decide) dX12_readClasses_150 ?_
                refine j_sub [2] rfl ?_
                exact ih _ hf
      · rw [if_neg c2] at hf
        refine j_aload_n E 0 rfl dX12_readClasses_50 ?_
        refine j_getM (f := 3) E cf_X12 fl_X12_24 (lt_ rfl) rfl rfl dX12_readClasses_51 ?_
        refine j_iconst E 3 ic_3 dX12_readClasses_54 ?_
        refine j_ialdR E rfl (vi_3 (lt_ rfl)) (3) tn_3 dX12_readClasses_55 ?_
        refine j_if_ne E 153 (by decide) dX12_readClasses_56 (fun c14 => ?_) (fun c14 => ?_)
        · rw [if_neg c14] at hf
          refine j_aload_n E 0 rfl dX12_readClasses_153 ?_
          refine j_iconst E 0 ic_0 dX12_readClasses_154 ?_
          obtain ⟨M30, h25, hf⟩ := bn1_e hf
          refine j_invV [] [] E (c_X12_takeEnd h25) ml_X12_311 mv_X12_takeEnd rfl ⟨le_ rfl, le_ rfl⟩ (rcM cf_X12) rfl rfl (le_ rfl) ⟨le_ rfl, le_ rfl⟩ dX12_readClasses_155 ?_
          cases hf
          exact j_vret E (le_ rfl) (le_ rfl) dX12_readClasses_158
        · rw [if_pos c14] at hf
          refine j_aload_n E 0 rfl dX12_readClasses_59 ?_
          refine j_iconst E 0 ic_0 dX12_readClasses_60 ?_
          refine j_sipush E 200 sp_200 dX12_readClasses_61 ?_
          obtain ⟨r9, M31, h26, hf⟩ := bn2_e hf
          refine j_invV [] [.int r9] E (c_X12_lookNumber h26) ml_X12_286 mv_X12_lookNumber rfl ⟨le_ rfl, le_ rfl⟩ (rcM cf_X12) rfl rfl (le_ rfl) ⟨le_ rfl, le_ rfl⟩ dX12_readClasses_64 ?_
          refine j_istore_n (ls' := [(1, .int r9), (0, .ref (z + aM 0))]) E (lt_ rfl) rfl dX12_readClasses_67 ?_
          refine j_aload_n E 1 rfl dX12_readClasses_68 ?_
          refine j_getM (f := 3) E cf_X12 fl_X12_24 (lt_ rfl) rfl rfl dX12_readClasses_69 ?_
          refine j_iconst E 3 ic_3 dX12_readClasses_72 ?_
          refine j_ialdR E rfl (vi_3 (lt_ rfl)) (3) tn_3 dX12_readClasses_73 ?_
          refine j_istore_n (ls' := [(2, .int (M31.1 M31.2.2 3)), (1, .int r9), (0, .ref (z + aM 0))]) E (lt_ rfl) rfl dX12_readClasses_74 ?_
          refine j_aload_n E 2 rfl dX12_readClasses_75 ?_
          refine j_iload_n E 0 rfl dX12_readClasses_76 ?_
          refine j_if_le E 99 (by decide) dX12_readClasses_77 (fun c15 => ?_) (fun c15 => ?_)
          · rw [if_pos c15] at hf
            refine j_iconst E 0 ic_0 dX12_readClasses_99 ?_
            refine j_iconst E 3 ic_3 dX12_readClasses_100 ?_
            obtain ⟨M32, h27, hf⟩ := bn1_e hf
            refine j_invV [] [] E (c_X12_requireNot h27) ml_X12_289 mv_X12_requireNot rfl ⟨le_ rfl, le_ rfl⟩ (rcM cf_X12) rfl rfl (le_ rfl) ⟨le_ rfl, le_ rfl⟩ dX12_readClasses_101 ?_
            refine j_aload_n E 2 rfl dX12_readClasses_104 ?_
            refine j_iload_n E 0 rfl dX12_readClasses_105 ?_
            refine j_iconst E 4 ic_4 dX12_readClasses_106 ?_
            refine j_icmp_ne E 114 (by decide) dX12_readClasses_107 (fun c16 => ?_) (fun c16 => ?_)
            · rw [if_neg c16] at hf
              refine j_iconst E 0 ic_0 dX12_readClasses_114 ?_
              refine j_iconst E 5 ic_5 dX12_readClasses_115 ?_
              obtain ⟨M33, h28, hf⟩ := bn1_e hf
              refine j_invV [] [] E (c_X12_requireNot h28) ml_X12_289 mv_X12_requireNot rfl ⟨le_ rfl, le_ rfl⟩ (rcM cf_X12) rfl rfl (le_ rfl) ⟨le_ rfl, le_ rfl⟩ dX12_readClasses_116 ?_
              refine j_aload_n E 2 rfl dX12_readClasses_119 ?_
              obtain ⟨r10, h29, hf⟩ := bn1_e hf
              refine j_invV [] [.int r10] E (c_X12_isGood h29) ml_X12_275 mv_X12_isGood rfl ⟨le_ rfl, le_ rfl⟩ (rcM cf_X12) rfl rfl (le_ rfl) ⟨le_ rfl, le_ rfl⟩ dX12_readClasses_120 ?_
              refine j_if_eq E 150 (by decide) dX12_readClasses_123 (fun c17 => ?_) (fun c17 => ?_)
              · rw [if_pos c17] at hf
                refine j_goto E 35 (by decide) dX12_readClasses_150 ?_
                refine j_sub [2] rfl ?_
                exact ih _ hf
              · rw [if_neg c17] at hf
                refine j_aload_n E 2 rfl dX12_readClasses_126 ?_
                refine j_getM (f := 3) E cf_X12 fl_X12_24 (lt_ rfl) rfl rfl dX12_readClasses_127 ?_
                refine j_bipush E 12 bp_12 dX12_readClasses_130 ?_
                refine j_iload_n E 0 rfl dX12_readClasses_132 ?_
                refine j_iadd E dX12_readClasses_133 ?_
                refine j_iload_n E 1 rfl dX12_readClasses_134 ?_
                obtain ⟨g8, hf⟩ := gd_e hf
                obtain ⟨M34, hM34, hf⟩ := bnd_e hf
                refine j_iastR E rfl g8 ((12 + (M31.1 M31.2.2 3)).toNatClampNeg) rfl hM34 dX12_readClasses_135 ?_
                refine j_aload_n E 2 rfl dX12_readClasses_136 ?_
                refine j_getM (f := 3) E cf_X12 fl_X12_24 (lt_ rfl) rfl rfl dX12_readClasses_137 ?_
                refine j_iconst E 3 ic_3 dX12_readClasses_140 ?_
                refine j_dup2 E rfl rfl dX12_readClasses_141 ?_
                refine j_ialdR E rfl (vi_3 (lt_ rfl)) (3) tn_3 dX12_readClasses_142 ?_
                refine j_iconst E 1 ic_1 dX12_readClasses_143 ?_
                refine j_iadd E dX12_readClasses_144 ?_
                obtain ⟨M35, hM35, hf⟩ := bnd_e hf
                refine j_iastR E rfl (vi_3 (lt_ rfl)) (3) tn_3 hM35 dX12_readClasses_145 ?_
                refine j_aload_n E 2 rfl dX12_readClasses_146 ?_
                obtain ⟨M36, h30, hf⟩ := bn1_e hf
                refine j_invV [] [] E (c_X12_goOn h30) ml_X12_259 mv_X12_goOn rfl ⟨le_ rfl, le_ rfl⟩ (rcM cf_X12) rfl rfl (le_ rfl) ⟨le_ rfl, le_ rfl⟩ dX12_readClasses_147 ?_
                refine j_goto E 35 (by decide) dX12_readClasses_150 ?_
                refine j_sub [2] rfl ?_
                exact ih _ hf
            · rw [if_pos c16] at hf
              refine j_iconst E 1 ic_1 dX12_readClasses_110 ?_
              refine j_goto E 115 (by decide) dX12_readClasses_111 ?_
              refine j_iconst E 5 ic_5 dX12_readClasses_115 ?_
              obtain ⟨M37, h31, hf⟩ := bn1_e hf
              refine j_invV [] [] E (c_X12_requireNot h31) ml_X12_289 mv_X12_requireNot rfl ⟨le_ rfl, le_ rfl⟩ (rcM cf_X12) rfl rfl (le_ rfl) ⟨le_ rfl, le_ rfl⟩ dX12_readClasses_116 ?_
              refine j_aload_n E 2 rfl dX12_readClasses_119 ?_
              obtain ⟨r11, h32, hf⟩ := bn1_e hf
              refine j_invV [] [.int r11] E (c_X12_isGood h32) ml_X12_275 mv_X12_isGood rfl ⟨le_ rfl, le_ rfl⟩ (rcM cf_X12) rfl rfl (le_ rfl) ⟨le_ rfl, le_ rfl⟩ dX12_readClasses_120 ?_
              refine j_if_eq E 150 (by decide) dX12_readClasses_123 (fun c18 => ?_) (fun c18 => ?_)
              · rw [if_pos c18] at hf
                refine j_goto E 35 (by decide) dX12_readClasses_150 ?_
                refine j_sub [2] rfl ?_
                exact ih _ hf
              · rw [if_neg c18] at hf
                refine j_aload_n E 2 rfl dX12_readClasses_126 ?_
                refine j_getM (f := 3) E cf_X12 fl_X12_24 (lt_ rfl) rfl rfl dX12_readClasses_127 ?_
                refine j_bipush E 12 bp_12 dX12_readClasses_130 ?_
                refine j_iload_n E 0 rfl dX12_readClasses_132 ?_
                refine j_iadd E dX12_readClasses_133 ?_
                refine j_iload_n E 1 rfl dX12_readClasses_134 ?_
                obtain ⟨g9, hf⟩ := gd_e hf
                obtain ⟨M38, hM38, hf⟩ := bnd_e hf
                refine j_iastR E rfl g9 ((12 + (M31.1 M31.2.2 3)).toNatClampNeg) rfl hM38 dX12_readClasses_135 ?_
                refine j_aload_n E 2 rfl dX12_readClasses_136 ?_
                refine j_getM (f := 3) E cf_X12 fl_X12_24 (lt_ rfl) rfl rfl dX12_readClasses_137 ?_
                refine j_iconst E 3 ic_3 dX12_readClasses_140 ?_
                refine j_dup2 E rfl rfl dX12_readClasses_141 ?_
                refine j_ialdR E rfl (vi_3 (lt_ rfl)) (3) tn_3 dX12_readClasses_142 ?_
                refine j_iconst E 1 ic_1 dX12_readClasses_143 ?_
                refine j_iadd E dX12_readClasses_144 ?_
                obtain ⟨M39, hM39, hf⟩ := bnd_e hf
                refine j_iastR E rfl (vi_3 (lt_ rfl)) (3) tn_3 hM39 dX12_readClasses_145 ?_
                refine j_aload_n E 2 rfl dX12_readClasses_146 ?_
                obtain ⟨M40, h33, hf⟩ := bn1_e hf
                refine j_invV [] [] E (c_X12_goOn h33) ml_X12_259 mv_X12_goOn rfl ⟨le_ rfl, le_ rfl⟩ (rcM cf_X12) rfl rfl (le_ rfl) ⟨le_ rfl, le_ rfl⟩ dX12_readClasses_147 ?_
                refine j_goto E 35 (by decide) dX12_readClasses_150 ?_
                refine j_sub [2] rfl ?_
                exact ih _ hf
          · rw [if_neg c15] at hf
            refine j_iload_n E 1 rfl dX12_readClasses_80 ?_
            refine j_aload_n E 2 rfl dX12_readClasses_81 ?_
            refine j_getM (f := 3) E cf_X12 fl_X12_24 (lt_ rfl) rfl rfl dX12_readClasses_82 ?_
            refine j_bipush E 12 bp_12 dX12_readClasses_85 ?_
            refine j_iload_n E 0 rfl dX12_readClasses_87 ?_
            refine j_iadd E dX12_readClasses_88 ?_
            refine j_iconst E 1 ic_1 dX12_readClasses_89 ?_
            refine j_isub E dX12_readClasses_90 ?_
            obtain ⟨x2, hx2, hf⟩ := bnd_e hf
            refine j_name hx2 ?_
            obtain ⟨g10, hf⟩ := gd_e hf
            refine j_ialdR E rfl g10 (x2.toNatClampNeg) rfl dX12_readClasses_91 ?_
            refine j_icmp_lt E 99 (by decide) dX12_readClasses_92 (fun c19 => ?_) (fun c19 => ?_)
            · rw [if_pos c19] at hf
              refine j_iconst E 0 ic_0 dX12_readClasses_99 ?_
              refine j_iconst E 3 ic_3 dX12_readClasses_100 ?_
              obtain ⟨M41, h34, hf⟩ := bn1_e hf
              refine j_invV [] [] E (c_X12_requireNot h34) ml_X12_289 mv_X12_requireNot rfl ⟨le_ rfl, le_ rfl⟩ (rcM cf_X12) rfl rfl (le_ rfl) ⟨le_ rfl, le_ rfl⟩ dX12_readClasses_101 ?_
              refine j_aload_n E 2 rfl dX12_readClasses_104 ?_
              refine j_iload_n E 0 rfl dX12_readClasses_105 ?_
              refine j_iconst E 4 ic_4 dX12_readClasses_106 ?_
              refine j_icmp_ne E 114 (by decide) dX12_readClasses_107 (fun c20 => ?_) (fun c20 => ?_)
              · rw [if_neg c20] at hf
                refine j_iconst E 0 ic_0 dX12_readClasses_114 ?_
                refine j_iconst E 5 ic_5 dX12_readClasses_115 ?_
                obtain ⟨M42, h35, hf⟩ := bn1_e hf
                refine j_invV [] [] E (c_X12_requireNot h35) ml_X12_289 mv_X12_requireNot rfl ⟨le_ rfl, le_ rfl⟩ (rcM cf_X12) rfl rfl (le_ rfl) ⟨le_ rfl, le_ rfl⟩ dX12_readClasses_116 ?_
                refine j_aload_n E 2 rfl dX12_readClasses_119 ?_
                obtain ⟨r12, h36, hf⟩ := bn1_e hf
                refine j_invV [] [.int r12] E (c_X12_isGood h36) ml_X12_275 mv_X12_isGood rfl ⟨le_ rfl, le_ rfl⟩ (rcM cf_X12) rfl rfl (le_ rfl) ⟨le_ rfl, le_ rfl⟩ dX12_readClasses_120 ?_
                refine j_if_eq E 150 (by decide) dX12_readClasses_123 (fun c21 => ?_) (fun c21 => ?_)
                · rw [if_pos c21] at hf
                  refine j_goto E 35 (by decide) dX12_readClasses_150 ?_
                  refine j_sub [2] rfl ?_
                  exact ih _ hf
                · rw [if_neg c21] at hf
                  refine j_aload_n E 2 rfl dX12_readClasses_126 ?_
                  refine j_getM (f := 3) E cf_X12 fl_X12_24 (lt_ rfl) rfl rfl dX12_readClasses_127 ?_
                  refine j_bipush E 12 bp_12 dX12_readClasses_130 ?_
                  refine j_iload_n E 0 rfl dX12_readClasses_132 ?_
                  refine j_iadd E dX12_readClasses_133 ?_
                  refine j_iload_n E 1 rfl dX12_readClasses_134 ?_
                  obtain ⟨g11, hf⟩ := gd_e hf
                  obtain ⟨M43, hM43, hf⟩ := bnd_e hf
                  refine j_iastR E rfl g11 ((12 + (M31.1 M31.2.2 3)).toNatClampNeg) rfl hM43 dX12_readClasses_135 ?_
                  refine j_aload_n E 2 rfl dX12_readClasses_136 ?_
                  refine j_getM (f := 3) E cf_X12 fl_X12_24 (lt_ rfl) rfl rfl dX12_readClasses_137 ?_
                  refine j_iconst E 3 ic_3 dX12_readClasses_140 ?_
                  refine j_dup2 E rfl rfl dX12_readClasses_141 ?_
                  refine j_ialdR E rfl (vi_3 (lt_ rfl)) (3) tn_3 dX12_readClasses_142 ?_
                  refine j_iconst E 1 ic_1 dX12_readClasses_143 ?_
                  refine j_iadd E dX12_readClasses_144 ?_
                  obtain ⟨M44, hM44, hf⟩ := bnd_e hf
                  refine j_iastR E rfl (vi_3 (lt_ rfl)) (3) tn_3 hM44 dX12_readClasses_145 ?_
                  refine j_aload_n E 2 rfl dX12_readClasses_146 ?_
                  obtain ⟨M45, h37, hf⟩ := bn1_e hf
                  refine j_invV [] [] E (c_X12_goOn h37) ml_X12_259 mv_X12_goOn rfl ⟨le_ rfl, le_ rfl⟩ (rcM cf_X12) rfl rfl (le_ rfl) ⟨le_ rfl, le_ rfl⟩ dX12_readClasses_147 ?_
                  refine j_goto E 35 (by decide) dX12_readClasses_150 ?_
                  refine j_sub [2] rfl ?_
                  exact ih _ hf
              · rw [if_pos c20] at hf
                refine j_iconst E 1 ic_1 dX12_readClasses_110 ?_
                refine j_goto E 115 (by decide) dX12_readClasses_111 ?_
                refine j_iconst E 5 ic_5 dX12_readClasses_115 ?_
                obtain ⟨M46, h38, hf⟩ := bn1_e hf
                refine j_invV [] [] E (c_X12_requireNot h38) ml_X12_289 mv_X12_requireNot rfl ⟨le_ rfl, le_ rfl⟩ (rcM cf_X12) rfl rfl (le_ rfl) ⟨le_ rfl, le_ rfl⟩ dX12_readClasses_116 ?_
                refine j_aload_n E 2 rfl dX12_readClasses_119 ?_
                obtain ⟨r13, h39, hf⟩ := bn1_e hf
                refine j_invV [] [.int r13] E (c_X12_isGood h39) ml_X12_275 mv_X12_isGood rfl ⟨le_ rfl, le_ rfl⟩ (rcM cf_X12) rfl rfl (le_ rfl) ⟨le_ rfl, le_ rfl⟩ dX12_readClasses_120 ?_
                refine j_if_eq E 150 (by decide) dX12_readClasses_123 (fun c22 => ?_) (fun c22 => ?_)
                · rw [if_pos c22] at hf
                  refine j_goto E 35 (by decide) dX12_readClasses_150 ?_
                  refine j_sub [2] rfl ?_
                  exact ih _ hf
                · rw [if_neg c22] at hf
                  refine j_aload_n E 2 rfl dX12_readClasses_126 ?_
                  refine j_getM (f := 3) E cf_X12 fl_X12_24 (lt_ rfl) rfl rfl dX12_readClasses_127 ?_
                  refine j_bipush E 12 bp_12 dX12_readClasses_130 ?_
                  refine j_iload_n E 0 rfl dX12_readClasses_132 ?_
                  refine j_iadd E dX12_readClasses_133 ?_
                  refine j_iload_n E 1 rfl dX12_readClasses_134 ?_
                  obtain ⟨g12, hf⟩ := gd_e hf
                  obtain ⟨M47, hM47, hf⟩ := bnd_e hf
                  refine j_iastR E rfl g12 ((12 + (M31.1 M31.2.2 3)).toNatClampNeg) rfl hM47 dX12_readClasses_135 ?_
                  refine j_aload_n E 2 rfl dX12_readClasses_136 ?_
                  refine j_getM (f := 3) E cf_X12 fl_X12_24 (lt_ rfl) rfl rfl dX12_readClasses_137 ?_
                  refine j_iconst E 3 ic_3 dX12_readClasses_140 ?_
                  refine j_dup2 E rfl rfl dX12_readClasses_141 ?_
                  refine j_ialdR E rfl (vi_3 (lt_ rfl)) (3) tn_3 dX12_readClasses_142 ?_
                  refine j_iconst E 1 ic_1 dX12_readClasses_143 ?_
                  refine j_iadd E dX12_readClasses_144 ?_
                  obtain ⟨M48, hM48, hf⟩ := bnd_e hf
                  refine j_iastR E rfl (vi_3 (lt_ rfl)) (3) tn_3 hM48 dX12_readClasses_145 ?_
                  refine j_aload_n E 2 rfl dX12_readClasses_146 ?_
                  obtain ⟨M49, h40, hf⟩ := bn1_e hf
                  refine j_invV [] [] E (c_X12_goOn h40) ml_X12_259 mv_X12_goOn rfl ⟨le_ rfl, le_ rfl⟩ (rcM cf_X12) rfl rfl (le_ rfl) ⟨le_ rfl, le_ rfl⟩ dX12_readClasses_147 ?_
                  refine j_goto E 35 (by decide) dX12_readClasses_150 ?_
                  refine j_sub [2] rfl ?_
                  exact ih _ hf
            · rw [if_neg c19] at hf
              refine j_iconst E 1 ic_1 dX12_readClasses_95 ?_
              refine j_goto E 100 (by decide) dX12_readClasses_96 ?_
              refine j_iconst E 3 ic_3 dX12_readClasses_100 ?_
              obtain ⟨M50, h41, hf⟩ := bn1_e hf
              refine j_invV [] [] E (c_X12_requireNot h41) ml_X12_289 mv_X12_requireNot rfl ⟨le_ rfl, le_ rfl⟩ (rcM cf_X12) rfl rfl (le_ rfl) ⟨le_ rfl, le_ rfl⟩ dX12_readClasses_101 ?_
              refine j_aload_n E 2 rfl dX12_readClasses_104 ?_
              refine j_iload_n E 0 rfl dX12_readClasses_105 ?_
              refine j_iconst E 4 ic_4 dX12_readClasses_106 ?_
              refine j_icmp_ne E 114 (by decide) dX12_readClasses_107 (fun c23 => ?_) (fun c23 => ?_)
              · rw [if_neg c23] at hf
                refine j_iconst E 0 ic_0 dX12_readClasses_114 ?_
                refine j_iconst E 5 ic_5 dX12_readClasses_115 ?_
                obtain ⟨M51, h42, hf⟩ := bn1_e hf
                refine j_invV [] [] E (c_X12_requireNot h42) ml_X12_289 mv_X12_requireNot rfl ⟨le_ rfl, le_ rfl⟩ (rcM cf_X12) rfl rfl (le_ rfl) ⟨le_ rfl, le_ rfl⟩ dX12_readClasses_116 ?_
                refine j_aload_n E 2 rfl dX12_readClasses_119 ?_
                obtain ⟨r14, h43, hf⟩ := bn1_e hf
                refine j_invV [] [.int r14] E (c_X12_isGood h43) ml_X12_275 mv_X12_isGood rfl ⟨le_ rfl, le_ rfl⟩ (rcM cf_X12) rfl rfl (le_ rfl) ⟨le_ rfl, le_ rfl⟩ dX12_readClasses_120 ?_
                refine j_if_eq E 150 (by decide) dX12_readClasses_123 (fun c24 => ?_) (fun c24 => ?_)
                · rw [if_pos c24] at hf
                  refine j_goto E 35 (by decide) dX12_readClasses_150 ?_
                  refine j_sub [2] rfl ?_
                  exact ih _ hf
                · rw [if_neg c24] at hf
                  refine j_aload_n E 2 rfl dX12_readClasses_126 ?_
                  refine j_getM (f := 3) E cf_X12 fl_X12_24 (lt_ rfl) rfl rfl dX12_readClasses_127 ?_
                  refine j_bipush E 12 bp_12 dX12_readClasses_130 ?_
                  refine j_iload_n E 0 rfl dX12_readClasses_132 ?_
                  refine j_iadd E dX12_readClasses_133 ?_
                  refine j_iload_n E 1 rfl dX12_readClasses_134 ?_
                  obtain ⟨g13, hf⟩ := gd_e hf
                  obtain ⟨M52, hM52, hf⟩ := bnd_e hf
                  refine j_iastR E rfl g13 ((12 + (M31.1 M31.2.2 3)).toNatClampNeg) rfl hM52 dX12_readClasses_135 ?_
                  refine j_aload_n E 2 rfl dX12_readClasses_136 ?_
                  refine j_getM (f := 3) E cf_X12 fl_X12_24 (lt_ rfl) rfl rfl dX12_readClasses_137 ?_
                  refine j_iconst E 3 ic_3 dX12_readClasses_140 ?_
                  refine j_dup2 E rfl rfl dX12_readClasses_141 ?_
                  refine j_ialdR E rfl (vi_3 (lt_ rfl)) (3) tn_3 dX12_readClasses_142 ?_
                  refine j_iconst E 1 ic_1 dX12_readClasses_143 ?_
                  refine j_iadd E dX12_readClasses_144 ?_
                  obtain ⟨M53, hM53, hf⟩ := bnd_e hf
                  refine j_iastR E rfl (vi_3 (lt_ rfl)) (3) tn_3 hM53 dX12_readClasses_145 ?_
                  refine j_aload_n E 2 rfl dX12_readClasses_146 ?_
                  obtain ⟨M54, h44, hf⟩ := bn1_e hf
                  refine j_invV [] [] E (c_X12_goOn h44) ml_X12_259 mv_X12_goOn rfl ⟨le_ rfl, le_ rfl⟩ (rcM cf_X12) rfl rfl (le_ rfl) ⟨le_ rfl, le_ rfl⟩ dX12_readClasses_147 ?_
                  refine j_goto E 35 (by decide) dX12_readClasses_150 ?_
                  refine j_sub [2] rfl ?_
                  exact ih _ hf
              · rw [if_pos c23] at hf
                refine j_iconst E 1 ic_1 dX12_readClasses_110 ?_
                refine j_goto E 115 (by decide) dX12_readClasses_111 ?_
                refine j_iconst E 5 ic_5 dX12_readClasses_115 ?_
                obtain ⟨M55, h45, hf⟩ := bn1_e hf
                refine j_invV [] [] E (c_X12_requireNot h45) ml_X12_289 mv_X12_requireNot rfl ⟨le_ rfl, le_ rfl⟩ (rcM cf_X12) rfl rfl (le_ rfl) ⟨le_ rfl, le_ rfl⟩ dX12_readClasses_116 ?_
                refine j_aload_n E 2 rfl dX12_readClasses_119 ?_
                obtain ⟨r15, h46, hf⟩ := bn1_e hf
                refine j_invV [] [.int r15] E (c_X12_isGood h46) ml_X12_275 mv_X12_isGood rfl ⟨le_ rfl, le_ rfl⟩ (rcM cf_X12) rfl rfl (le_ rfl) ⟨le_ rfl, le_ rfl⟩ dX12_readClasses_120 ?_
                refine j_if_eq E 150 (by decide) dX12_readClasses_123 (fun c25 => ?_) (fun c25 => ?_)
                · rw [if_pos c25] at hf
                  refine j_goto E 35 (by decide) dX12_readClasses_150 ?_
                  refine j_sub [2] rfl ?_
                  exact ih _ hf
                · rw [if_neg c25] at hf
                  refine j_aload_n E 2 rfl dX12_readClasses_126 ?_
                  refine j_getM (f := 3) E cf_X12 fl_X12_24 (lt_ rfl) rfl rfl dX12_readClasses_127 ?_
                  refine j_bipush E 12 bp_12 dX12_readClasses_130 ?_
                  refine j_iload_n E 0 rfl dX12_readClasses_132 ?_
                  refine j_iadd E dX12_readClasses_133 ?_
                  refine j_iload_n E 1 rfl dX12_readClasses_134 ?_
                  obtain ⟨g14, hf⟩ := gd_e hf
                  obtain ⟨M56, hM56, hf⟩ := bnd_e hf
                  refine j_iastR E rfl g14 ((12 + (M31.1 M31.2.2 3)).toNatClampNeg) rfl hM56 dX12_readClasses_135 ?_
                  refine j_aload_n E 2 rfl dX12_readClasses_136 ?_
                  refine j_getM (f := 3) E cf_X12 fl_X12_24 (lt_ rfl) rfl rfl dX12_readClasses_137 ?_
                  refine j_iconst E 3 ic_3 dX12_readClasses_140 ?_
                  refine j_dup2 E rfl rfl dX12_readClasses_141 ?_
                  refine j_ialdR E rfl (vi_3 (lt_ rfl)) (3) tn_3 dX12_readClasses_142 ?_
                  refine j_iconst E 1 ic_1 dX12_readClasses_143 ?_
                  refine j_iadd E dX12_readClasses_144 ?_
                  obtain ⟨M57, hM57, hf⟩ := bnd_e hf
                  refine j_iastR E rfl (vi_3 (lt_ rfl)) (3) tn_3 hM57 dX12_readClasses_145 ?_
                  refine j_aload_n E 2 rfl dX12_readClasses_146 ?_
                  obtain ⟨M58, h47, hf⟩ := bn1_e hf
                  refine j_invV [] [] E (c_X12_goOn h47) ml_X12_259 mv_X12_goOn rfl ⟨le_ rfl, le_ rfl⟩ (rcM cf_X12) rfl rfl (le_ rfl) ⟨le_ rfl, le_ rfl⟩ dX12_readClasses_147 ?_
                  refine j_goto E 35 (by decide) dX12_readClasses_150 ?_
                  refine j_sub [2] rfl ?_
                  exact ih _ hf
set_option maxRecDepth 20000 in
theorem c_X12_readClasses {l : Launch} {D : DD} {z : Nat} {X : XT} {o : Int64} {f1 : Nat} {M : MT} {M' : MT} (hf : f_X12_readClasses M = some M') : CC l yX12_readClasses cX12_readClasses 3 none (rmk 4 0 0) D z [.ref (z + aM 0)] (GG D z (X, (f1 + 1, M, o))) none (GG D z (X, (f1 + 1, M', o))) := by
  unfold f_X12_readClasses at hf
  refine cc_of pn_X12 (le_ rfl) (ls := [(0, .ref (z + aM 0))]) rfl ?_
  intro p e s m args below meth c E
  refine j_aload_n E 0 rfl dX12_readClasses_0 ?_
  obtain ⟨r1, h1, hf⟩ := bn1_e hf
  refine j_invV [] [.int r1] E (c_X12_isGood h1) ml_X12_275 mv_X12_isGood rfl ⟨le_ rfl, le_ rfl⟩ (rcM cf_X12) rfl rfl (le_ rfl) ⟨le_ rfl, le_ rfl⟩ dX12_readClasses_1 ?_
  refine j_if_eq E 23 (by decide) dX12_readClasses_4 (fun c1 => ?_) (fun c1 => ?_)
  · rw [if_pos c1] at hf
    refine j_aload_n E 0 rfl dX12_readClasses_23 ?_
    obtain ⟨r2, h2, hf⟩ := bn1_e hf
    refine j_invV [] [.int r2] E (c_X12_isGood h2) ml_X12_275 mv_X12_isGood rfl ⟨le_ rfl, le_ rfl⟩ (rcM cf_X12) rfl rfl (le_ rfl) ⟨le_ rfl, le_ rfl⟩ dX12_readClasses_24 ?_
    refine j_if_ne E 31 (by decide) dX12_readClasses_27 (fun c2 => ?_) (fun c2 => ?_)
    · rw [if_neg c2] at hf
      refine j_aload_n E 0 rfl dX12_readClasses_31 ?_
      obtain ⟨M1, h3, hf⟩ := bn1_e hf
      refine j_invV [] [] E (c_X12_goOn h3) ml_X12_259 mv_X12_goOn rfl ⟨le_ rfl, le_ rfl⟩ (rcM cf_X12) rfl rfl (le_ rfl) ⟨le_ rfl, le_ rfl⟩ dX12_readClasses_32 ?_
      exact b_X12_readClasses_35 E 2000 _ hf
    · rw [if_pos c2] at hf
      cases hf
      exact j_vret E (le_ rfl) (le_ rfl) dX12_readClasses_30
  · rw [if_neg c1] at hf
    refine j_aload_n E 0 rfl dX12_readClasses_7 ?_
    refine j_aload_n E 0 rfl dX12_readClasses_8 ?_
    refine j_getM (f := 15) E cf_X12 fl_X12_43 (lt_ rfl) rfl rfl dX12_readClasses_9 ?_
    obtain ⟨r3, h4, hf⟩ := bn1_e hf
    refine j_invV [] [.int r3] E (c_X12_isWord h4) ml_X12_304 mv_X12_isWord rfl ⟨le_ rfl, le_ rfl⟩ (rcM cf_X12) rfl rfl (le_ rfl) ⟨le_ rfl, le_ rfl⟩ dX12_readClasses_12 ?_
    refine j_if_ne E 23 (by decide) dX12_readClasses_15 (fun c3 => ?_) (fun c3 => ?_)
    · rw [if_neg c3] at hf
      refine j_aload_n E 0 rfl dX12_readClasses_23 ?_
      obtain ⟨r4, h5, hf⟩ := bn1_e hf
      refine j_invV [] [.int r4] E (c_X12_isGood h5) ml_X12_275 mv_X12_isGood rfl ⟨le_ rfl, le_ rfl⟩ (rcM cf_X12) rfl rfl (le_ rfl) ⟨le_ rfl, le_ rfl⟩ dX12_readClasses_24 ?_
      refine j_if_ne E 31 (by decide) dX12_readClasses_27 (fun c4 => ?_) (fun c4 => ?_)
      · rw [if_neg c4] at hf
        refine j_aload_n E 0 rfl dX12_readClasses_31 ?_
        obtain ⟨M2, h6, hf⟩ := bn1_e hf
        refine j_invV [] [] E (c_X12_goOn h6) ml_X12_259 mv_X12_goOn rfl ⟨le_ rfl, le_ rfl⟩ (rcM cf_X12) rfl rfl (le_ rfl) ⟨le_ rfl, le_ rfl⟩ dX12_readClasses_32 ?_
        exact b_X12_readClasses_35 E 2000 _ hf
      · rw [if_pos c4] at hf
        cases hf
        exact j_vret E (le_ rfl) (le_ rfl) dX12_readClasses_30
    · rw [if_pos c3] at hf
      refine j_aload_n E 0 rfl dX12_readClasses_18 ?_
      refine j_iconst E 1 ic_1 dX12_readClasses_19 ?_
      obtain ⟨M3, h7, hf⟩ := bn1_e hf
      refine j_invV [] [] E (c_X12_fault h7) ml_X12_279 mv_X12_fault rfl ⟨le_ rfl, le_ rfl⟩ (rcM cf_X12) rfl rfl (le_ rfl) ⟨le_ rfl, le_ rfl⟩ dX12_readClasses_20 ?_
      refine j_aload_n E 0 rfl dX12_readClasses_23 ?_
      obtain ⟨r5, h8, hf⟩ := bn1_e hf
      refine j_invV [] [.int r5] E (c_X12_isGood h8) ml_X12_275 mv_X12_isGood rfl ⟨le_ rfl, le_ rfl⟩ (rcM cf_X12) rfl rfl (le_ rfl) ⟨le_ rfl, le_ rfl⟩ dX12_readClasses_24 ?_
      refine j_if_ne E 31 (by decide) dX12_readClasses_27 (fun c5 => ?_) (fun c5 => ?_)
      · rw [if_neg c5] at hf
        refine j_aload_n E 0 rfl dX12_readClasses_31 ?_
        obtain ⟨M4, h9, hf⟩ := bn1_e hf
        refine j_invV [] [] E (c_X12_goOn h9) ml_X12_259 mv_X12_goOn rfl ⟨le_ rfl, le_ rfl⟩ (rcM cf_X12) rfl rfl (le_ rfl) ⟨le_ rfl, le_ rfl⟩ dX12_readClasses_32 ?_
        exact b_X12_readClasses_35 E 2000 _ hf
      · rw [if_pos c5] at hf
        cases hf
        exact j_vret E (le_ rfl) (le_ rfl) dX12_readClasses_30
def f_X12_readNew_96 (M : MT) (v1 : Int32) : Option MT := bn1 (f_X12_isGood M) (fun r1 => if r1 = 0 then (some M) else (bnd ((M.2.1 10).toInt32) (fun x1 => bn1 (f_X12_goOn M) (fun M1 => bn1 (f_X12_takeEnd M1 0) (fun M2 => bn1 (f_X12_isGood M2) (fun r2 => if r2 = 0 then (bn1 (f_X12_isGood M2) (fun r3 => if r3 = 0 then (some M2) else (bn1 (f_X12_layGrower M2 x1 (M.1 0 9)) (fun M3 => some M3)))) else (if v1 = 0 then (bn1 (f_X12_isGood M2) (fun r4 => if r4 = 0 then (some M2) else (bn1 (f_X12_layGrower M2 x1 (M.1 0 9)) (fun M4 => some M4)))) else (bn1 (f_X12_layVariety M2 x1 (M.1 0 9)) (fun M5 => some M5)))))))))
def f_X12_readNew_63 (M : MT) (v1 : Int32) : Option MT := bn1 (f_X12_isGood M) (fun r1 => if r1 = 0 then (bn1 (f_X12_requireNot M 0 3) (fun M1 => f_X12_readNew_96 M1 v1)) else (bn1 (f_X12_varietyHere M) (fun r2 => if r2 = (-1) then (bn1 (f_X12_growerHere M) (fun r3 => if r3 = (-1) then (bn1 (f_X12_requireNot M 0 3) (fun M3 => f_X12_readNew_96 M3 v1)) else (bn1 (f_X12_requireNot M 1 3) (fun M4 => f_X12_readNew_96 M4 v1)))) else (bn1 (f_X12_requireNot M 1 3) (fun M2 => f_X12_readNew_96 M2 v1)))))
def f_X12_readNew_45 (M : MT) (v1 : Int32) : Option MT := if (M.1 0 9) ≤ 4 then (bn1 (f_X12_requireNot M 0 2) (fun M1 => f_X12_readNew_63 M1 v1)) else (bn1 (f_X12_requireNot M 1 2) (fun M2 => f_X12_readNew_63 M2 v1))
def f_X12_readNew_27 (M : MT) (v1 : Int32) : Option MT := if (M.1 0 7) = 1 then (bn1 (f_X12_requireNot M 0 1) (fun M1 => f_X12_readNew_45 M1 v1)) else (bn1 (f_X12_requireNot M 1 1) (fun M2 => f_X12_readNew_45 M2 v1))
def f_X12_readNew (M : MT) (v1 : Int32) : Option MT :=
  if v1 = 0 then (if v1 = 0 then (bn2 (f_X12_startMore M 5 6) (fun r1 M1 => if r1 = 0 then (some M1) else (f_X12_readNew_27 M1 v1))) else (bn2 (f_X12_startMore M 5 4) (fun r2 M2 => if r2 = 0 then (some M2) else (f_X12_readNew_27 M2 v1)))) else (if v1 = 0 then (bn2 (f_X12_startMore M 4 6) (fun r3 M3 => if r3 = 0 then (some M3) else (f_X12_readNew_27 M3 v1))) else (bn2 (f_X12_startMore M 4 4) (fun r4 M4 => if r4 = 0 then (some M4) else (f_X12_readNew_27 M4 v1))))
set_option maxRecDepth 20000 in
theorem b_X12_readNew_96 {p : Program} {l : Launch} {e : Env} {s : State} {m : MethodId} {args : Array Value} {below : List Frame} {meth : Method} {c : Code} {D : DD} {z : Nat} {X : XT} {o : Int64} {f1 : Nat} {M : MT} {v1 : Int32} (E : Cx p s m args meth c D z RX12 cX12_readNew 4 none) {M' : MT} (hf : f_X12_readNew_96 M v1 = some M') : J p l e (rmk 4 0 0) s m args below meth c D z (GG D z (X, (f1 + 1, M, o))) 0 0 (MQ below (QC z none (GG D z (X, (f1 + 1, M', o)))) args s (rmk 4 0 0).cells (rmk 4 0 0).slots (Az z)) 4 96 [(0, .ref (z + aM 0)), (1, .int v1)] [] := by
  unfold f_X12_readNew_96 at hf
  refine j_aload_n E 0 rfl dX12_readNew_96 ?_
  obtain ⟨r1, h1, hf⟩ := bn1_e hf
  refine j_invV [] [.int r1] E (c_X12_isGood h1) ml_X12_275 mv_X12_isGood rfl ⟨le_ rfl, le_ rfl⟩ (rcM cf_X12) rfl rfl (le_ rfl) ⟨le_ rfl, le_ rfl⟩ dX12_readNew_97 ?_
  refine j_if_ne E 104 (by decide) dX12_readNew_100 (fun c1 => ?_) (fun c1 => ?_)
  · rw [if_neg c1] at hf
    refine j_aload_n E 0 rfl dX12_readNew_104 ?_
    refine j_getM (f := 10) E cf_X12 fl_X12_233 (lt_ rfl) rfl rfl dX12_readNew_105 ?_
    refine j_l2i E dX12_readNew_108 ?_
    obtain ⟨x1, hx1, hf⟩ := bnd_e hf
    refine j_name hx1 ?_
    refine j_istore_n (ls' := [(2, .int x1), (0, .ref (z + aM 0)), (1, .int v1)]) E (lt_ rfl) rfl dX12_readNew_109 ?_
    refine j_aload_n E 1 rfl dX12_readNew_110 ?_
    refine j_getM (f := 9) E cf_X12 fl_X12_230 (lt_ rfl) rfl rfl dX12_readNew_111 ?_
    refine j_istore_n (ls' := [(3, .int (M.1 0 9)), (2, .int x1), (0, .ref (z + aM 0)), (1, .int v1)]) E (lt_ rfl) rfl dX12_readNew_114 ?_
    refine j_aload_n E 2 rfl dX12_readNew_115 ?_
    obtain ⟨M1, h2, hf⟩ := bn1_e hf
    refine j_invV [] [] E (c_X12_goOn h2) ml_X12_259 mv_X12_goOn rfl ⟨le_ rfl, le_ rfl⟩ (rcM cf_X12) rfl rfl (le_ rfl) ⟨le_ rfl, le_ rfl⟩ dX12_readNew_116 ?_
    refine j_aload_n E 2 rfl dX12_readNew_119 ?_
    refine j_iconst E 0 ic_0 dX12_readNew_120 ?_
    obtain ⟨M2, h3, hf⟩ := bn1_e hf
    refine j_invV [] [] E (c_X12_takeEnd h3) ml_X12_311 mv_X12_takeEnd rfl ⟨le_ rfl, le_ rfl⟩ (rcM cf_X12) rfl rfl (le_ rfl) ⟨le_ rfl, le_ rfl⟩ dX12_readNew_121 ?_
    refine j_aload_n E 2 rfl dX12_readNew_124 ?_
    obtain ⟨r2, h4, hf⟩ := bn1_e hf
    refine j_invV [] [.int r2] E (c_X12_isGood h4) ml_X12_275 mv_X12_isGood rfl ⟨le_ rfl, le_ rfl⟩ (rcM cf_X12) rfl rfl (le_ rfl) ⟨le_ rfl, le_ rfl⟩ dX12_readNew_125 ?_
    refine j_if_eq E 144 (by decide) dX12_readNew_128 (fun c2 => ?_) (fun c2 => ?_)
    · rw [if_pos c2] at hf
      refine j_aload_n E 2 rfl dX12_readNew_144 ?_
      obtain ⟨r3, h5, hf⟩ := bn1_e hf
      refine j_invV [] [.int r3] E (c_X12_isGood h5) ml_X12_275 mv_X12_isGood rfl ⟨le_ rfl, le_ rfl⟩ (rcM cf_X12) rfl rfl (le_ rfl) ⟨le_ rfl, le_ rfl⟩ dX12_readNew_145 ?_
      refine j_if_eq E 157 (by decide) dX12_readNew_148 (fun c3 => ?_) (fun c3 => ?_)
      · rw [if_pos c3] at hf
        cases hf
        exact j_vret E (le_ rfl) (le_ rfl) dX12_readNew_157
      · rw [if_neg c3] at hf
        refine j_aload_n E 2 rfl dX12_readNew_151 ?_
        refine j_iload_n E 1 rfl dX12_readNew_152 ?_
        refine j_iload_n E 0 rfl dX12_readNew_153 ?_
        obtain ⟨M3, h6, hf⟩ := bn1_e hf
        refine j_invV [] [] E (c_X12_layGrower h6) ml_X12_125 mv_X12_layGrower rfl ⟨le_ rfl, le_ rfl⟩ (rcM cf_X12) rfl rfl (le_ rfl) ⟨le_ rfl, le_ rfl⟩ dX12_readNew_154 ?_
        cases hf
        exact j_vret E (le_ rfl) (le_ rfl) dX12_readNew_157
    · rw [if_neg c2] at hf
      refine j_iload_n E 3 rfl dX12_readNew_131 ?_
      refine j_if_eq E 144 (by decide) dX12_readNew_132 (fun c4 => ?_) (fun c4 => ?_)
      · rw [if_pos c4] at hf
        refine j_aload_n E 2 rfl dX12_readNew_144 ?_
        obtain ⟨r4, h7, hf⟩ := bn1_e hf
        refine j_invV [] [.int r4] E (c_X12_isGood h7) ml_X12_275 mv_X12_isGood rfl ⟨le_ rfl, le_ rfl⟩ (rcM cf_X12) rfl rfl (le_ rfl) ⟨le_ rfl, le_ rfl⟩ dX12_readNew_145 ?_
        refine j_if_eq E 157 (by decide) dX12_readNew_148 (fun c5 => ?_) (fun c5 => ?_)
        · rw [if_pos c5] at hf
          cases hf
          exact j_vret E (le_ rfl) (le_ rfl) dX12_readNew_157
        · rw [if_neg c5] at hf
          refine j_aload_n E 2 rfl dX12_readNew_151 ?_
          refine j_iload_n E 1 rfl dX12_readNew_152 ?_
          refine j_iload_n E 0 rfl dX12_readNew_153 ?_
          obtain ⟨M4, h8, hf⟩ := bn1_e hf
          refine j_invV [] [] E (c_X12_layGrower h8) ml_X12_125 mv_X12_layGrower rfl ⟨le_ rfl, le_ rfl⟩ (rcM cf_X12) rfl rfl (le_ rfl) ⟨le_ rfl, le_ rfl⟩ dX12_readNew_154 ?_
          cases hf
          exact j_vret E (le_ rfl) (le_ rfl) dX12_readNew_157
      · rw [if_neg c4] at hf
        refine j_aload_n E 2 rfl dX12_readNew_135 ?_
        refine j_iload_n E 1 rfl dX12_readNew_136 ?_
        refine j_iload_n E 0 rfl dX12_readNew_137 ?_
        obtain ⟨M5, h9, hf⟩ := bn1_e hf
        refine j_invV [] [] E (c_X12_layVariety h9) ml_X12_113 mv_X12_layVariety rfl ⟨le_ rfl, le_ rfl⟩ (rcM cf_X12) rfl rfl (le_ rfl) ⟨le_ rfl, le_ rfl⟩ dX12_readNew_138 ?_
        refine j_goto E 157 (by decide) dX12_readNew_141 ?_
        cases hf
        exact j_vret E (le_ rfl) (le_ rfl) dX12_readNew_157
  · rw [if_pos c1] at hf
    cases hf
    exact j_vret E (le_ rfl) (le_ rfl) dX12_readNew_103
set_option maxRecDepth 20000 in
theorem b_X12_readNew_63 {p : Program} {l : Launch} {e : Env} {s : State} {m : MethodId} {args : Array Value} {below : List Frame} {meth : Method} {c : Code} {D : DD} {z : Nat} {X : XT} {o : Int64} {f1 : Nat} {M : MT} {v1 : Int32} (E : Cx p s m args meth c D z RX12 cX12_readNew 4 none) {M' : MT} (hf : f_X12_readNew_63 M v1 = some M') : J p l e (rmk 4 0 0) s m args below meth c D z (GG D z (X, (f1 + 1, M, o))) 0 0 (MQ below (QC z none (GG D z (X, (f1 + 1, M', o)))) args s (rmk 4 0 0).cells (rmk 4 0 0).slots (Az z)) 4 63 [(0, .ref (z + aM 0)), (1, .int v1)] [] := by
  unfold f_X12_readNew_63 at hf
  refine j_aload_n E 0 rfl dX12_readNew_63 ?_
  refine j_aload_n E 0 rfl dX12_readNew_64 ?_
  obtain ⟨r1, h1, hf⟩ := bn1_e hf
  refine j_invV [.ref (z + aM 0)] [.int r1, .ref (z + aM 0)] E (c_X12_isGood h1) ml_X12_275 mv_X12_isGood rfl ⟨le_ rfl, le_ rfl⟩ (rcM cf_X12) rfl rfl (le_ rfl) ⟨le_ rfl, le_ rfl⟩ dX12_readNew_65 ?_
  refine j_if_eq E 91 (by decide) dX12_readNew_68 (fun c1 => ?_) (fun c1 => ?_)
  · rw [if_pos c1] at hf
    refine j_iconst E 0 ic_0 dX12_readNew_91 ?_
    refine j_iconst E 3 ic_3 dX12_readNew_92 ?_
    obtain ⟨M1, h2, hf⟩ := bn1_e hf
    refine j_invV [] [] E (c_X12_requireNot h2) ml_X12_289 mv_X12_requireNot rfl ⟨le_ rfl, le_ rfl⟩ (rcM cf_X12) rfl rfl (le_ rfl) ⟨le_ rfl, le_ rfl⟩ dX12_readNew_93 ?_
    exact b_X12_readNew_96 E hf
  · rw [if_neg c1] at hf
    refine j_aload_n E 0 rfl dX12_readNew_71 ?_
    obtain ⟨r2, h3, hf⟩ := bn1_e hf
    refine j_invV [.ref (z + aM 0)] [.int r2, .ref (z + aM 0)] E (c_X12_varietyHere h3) ml_X12_293 mv_X12_varietyHere rfl ⟨le_ rfl, le_ rfl⟩ (rcM cf_X12) rfl rfl (le_ rfl) ⟨le_ rfl, le_ rfl⟩ dX12_readNew_72 ?_
    refine j_iconst E (-1) ic_m1 dX12_readNew_75 ?_
    refine j_icmp_ne E 87 (by decide) dX12_readNew_76 (fun c2 => ?_) (fun c2 => ?_)
    · rw [if_neg c2] at hf
      refine j_iconst E 1 ic_1 dX12_readNew_87 ?_
      refine j_goto E 92 (by decide) dX12_readNew_88 ?_
      refine j_iconst E 3 ic_3 dX12_readNew_92 ?_
      obtain ⟨M2, h4, hf⟩ := bn1_e hf
      refine j_invV [] [] E (c_X12_requireNot h4) ml_X12_289 mv_X12_requireNot rfl ⟨le_ rfl, le_ rfl⟩ (rcM cf_X12) rfl rfl (le_ rfl) ⟨le_ rfl, le_ rfl⟩ dX12_readNew_93 ?_
      exact b_X12_readNew_96 E hf
    · rw [if_pos c2] at hf
      refine j_aload_n E 0 rfl dX12_readNew_79 ?_
      obtain ⟨r3, h5, hf⟩ := bn1_e hf
      refine j_invV [.ref (z + aM 0)] [.int r3, .ref (z + aM 0)] E (c_X12_growerHere h5) ml_X12_296 mv_X12_growerHere rfl ⟨le_ rfl, le_ rfl⟩ (rcM cf_X12) rfl rfl (le_ rfl) ⟨le_ rfl, le_ rfl⟩ dX12_readNew_80 ?_
      refine j_iconst E (-1) ic_m1 dX12_readNew_83 ?_
      refine j_icmp_eq E 91 (by decide) dX12_readNew_84 (fun c3 => ?_) (fun c3 => ?_)
      · rw [if_pos c3] at hf
        refine j_iconst E 0 ic_0 dX12_readNew_91 ?_
        refine j_iconst E 3 ic_3 dX12_readNew_92 ?_
        obtain ⟨M3, h6, hf⟩ := bn1_e hf
        refine j_invV [] [] E (c_X12_requireNot h6) ml_X12_289 mv_X12_requireNot rfl ⟨le_ rfl, le_ rfl⟩ (rcM cf_X12) rfl rfl (le_ rfl) ⟨le_ rfl, le_ rfl⟩ dX12_readNew_93 ?_
        exact b_X12_readNew_96 E hf
      · rw [if_neg c3] at hf
        refine j_iconst E 1 ic_1 dX12_readNew_87 ?_
        refine j_goto E 92 (by decide) dX12_readNew_88 ?_
        refine j_iconst E 3 ic_3 dX12_readNew_92 ?_
        obtain ⟨M4, h7, hf⟩ := bn1_e hf
        refine j_invV [] [] E (c_X12_requireNot h7) ml_X12_289 mv_X12_requireNot rfl ⟨le_ rfl, le_ rfl⟩ (rcM cf_X12) rfl rfl (le_ rfl) ⟨le_ rfl, le_ rfl⟩ dX12_readNew_93 ?_
        exact b_X12_readNew_96 E hf
set_option maxRecDepth 20000 in
theorem b_X12_readNew_45 {p : Program} {l : Launch} {e : Env} {s : State} {m : MethodId} {args : Array Value} {below : List Frame} {meth : Method} {c : Code} {D : DD} {z : Nat} {X : XT} {o : Int64} {f1 : Nat} {M : MT} {v1 : Int32} (E : Cx p s m args meth c D z RX12 cX12_readNew 4 none) {M' : MT} (hf : f_X12_readNew_45 M v1 = some M') : J p l e (rmk 4 0 0) s m args below meth c D z (GG D z (X, (f1 + 1, M, o))) 0 0 (MQ below (QC z none (GG D z (X, (f1 + 1, M', o)))) args s (rmk 4 0 0).cells (rmk 4 0 0).slots (Az z)) 4 45 [(0, .ref (z + aM 0)), (1, .int v1)] [] := by
  unfold f_X12_readNew_45 at hf
  refine j_aload_n E 0 rfl dX12_readNew_45 ?_
  refine j_aload_n E 0 rfl dX12_readNew_46 ?_
  refine j_getM (f := 9) E cf_X12 fl_X12_230 (lt_ rfl) rfl rfl dX12_readNew_47 ?_
  refine j_iconst E 4 ic_4 dX12_readNew_50 ?_
  refine j_icmp_le E 58 (by decide) dX12_readNew_51 (fun c1 => ?_) (fun c1 => ?_)
  · rw [if_pos c1] at hf
    refine j_iconst E 0 ic_0 dX12_readNew_58 ?_
    refine j_iconst E 2 ic_2 dX12_readNew_59 ?_
    obtain ⟨M1, h1, hf⟩ := bn1_e hf
    refine j_invV [] [] E (c_X12_requireNot h1) ml_X12_289 mv_X12_requireNot rfl ⟨le_ rfl, le_ rfl⟩ (rcM cf_X12) rfl rfl (le_ rfl) ⟨le_ rfl, le_ rfl⟩ dX12_readNew_60 ?_
    exact b_X12_readNew_63 E hf
  · rw [if_neg c1] at hf
    refine j_iconst E 1 ic_1 dX12_readNew_54 ?_
    refine j_goto E 59 (by decide) dX12_readNew_55 ?_
    refine j_iconst E 2 ic_2 dX12_readNew_59 ?_
    obtain ⟨M2, h2, hf⟩ := bn1_e hf
    refine j_invV [] [] E (c_X12_requireNot h2) ml_X12_289 mv_X12_requireNot rfl ⟨le_ rfl, le_ rfl⟩ (rcM cf_X12) rfl rfl (le_ rfl) ⟨le_ rfl, le_ rfl⟩ dX12_readNew_60 ?_
    exact b_X12_readNew_63 E hf
set_option maxRecDepth 20000 in
theorem b_X12_readNew_27 {p : Program} {l : Launch} {e : Env} {s : State} {m : MethodId} {args : Array Value} {below : List Frame} {meth : Method} {c : Code} {D : DD} {z : Nat} {X : XT} {o : Int64} {f1 : Nat} {M : MT} {v1 : Int32} (E : Cx p s m args meth c D z RX12 cX12_readNew 4 none) {M' : MT} (hf : f_X12_readNew_27 M v1 = some M') : J p l e (rmk 4 0 0) s m args below meth c D z (GG D z (X, (f1 + 1, M, o))) 0 0 (MQ below (QC z none (GG D z (X, (f1 + 1, M', o)))) args s (rmk 4 0 0).cells (rmk 4 0 0).slots (Az z)) 4 27 [(0, .ref (z + aM 0)), (1, .int v1)] [] := by
  unfold f_X12_readNew_27 at hf
  refine j_aload_n E 0 rfl dX12_readNew_27 ?_
  refine j_aload_n E 0 rfl dX12_readNew_28 ?_
  refine j_getM (f := 7) E cf_X12 fl_X12_239 (lt_ rfl) rfl rfl dX12_readNew_29 ?_
  refine j_iconst E 1 ic_1 dX12_readNew_32 ?_
  refine j_icmp_eq E 40 (by decide) dX12_readNew_33 (fun c1 => ?_) (fun c1 => ?_)
  · rw [if_pos c1] at hf
    refine j_iconst E 0 ic_0 dX12_readNew_40 ?_
    refine j_iconst E 1 ic_1 dX12_readNew_41 ?_
    obtain ⟨M1, h1, hf⟩ := bn1_e hf
    refine j_invV [] [] E (c_X12_requireNot h1) ml_X12_289 mv_X12_requireNot rfl ⟨le_ rfl, le_ rfl⟩ (rcM cf_X12) rfl rfl (le_ rfl) ⟨le_ rfl, le_ rfl⟩ dX12_readNew_42 ?_
    exact b_X12_readNew_45 E hf
  · rw [if_neg c1] at hf
    refine j_iconst E 1 ic_1 dX12_readNew_36 ?_
    refine j_goto E 41 (by decide) dX12_readNew_37 ?_
    refine j_iconst E 1 ic_1 dX12_readNew_41 ?_
    obtain ⟨M2, h2, hf⟩ := bn1_e hf
    refine j_invV [] [] E (c_X12_requireNot h2) ml_X12_289 mv_X12_requireNot rfl ⟨le_ rfl, le_ rfl⟩ (rcM cf_X12) rfl rfl (le_ rfl) ⟨le_ rfl, le_ rfl⟩ dX12_readNew_42 ?_
    exact b_X12_readNew_45 E hf
set_option maxRecDepth 20000 in
theorem c_X12_readNew {l : Launch} {D : DD} {z : Nat} {X : XT} {o : Int64} {f1 : Nat} {M : MT} {v1 : Int32} {M' : MT} (hf : f_X12_readNew M v1 = some M') : CC l yX12_readNew cX12_readNew 4 none (rmk 4 0 0) D z [.ref (z + aM 0), .int v1] (GG D z (X, (f1 + 1, M, o))) none (GG D z (X, (f1 + 1, M', o))) := by
  unfold f_X12_readNew at hf
  refine cc_of pn_X12 (le_ rfl) (ls := [(0, .ref (z + aM 0)), (1, .int v1)]) rfl ?_
  intro p e s m args below meth c E
  refine j_aload_n E 0 rfl dX12_readNew_0 ?_
  refine j_iload_n E 1 rfl dX12_readNew_1 ?_
  refine j_if_eq E 9 (by decide) dX12_readNew_2 (fun c1 => ?_) (fun c1 => ?_)
  · rw [if_pos c1] at hf
    refine j_iconst E 5 ic_5 dX12_readNew_9 ?_
    refine j_iload_n E 1 rfl dX12_readNew_10 ?_
    refine j_if_eq E 18 (by decide) dX12_readNew_11 (fun c2 => ?_) (fun c2 => ?_)
    · rw [if_pos c2] at hf
      refine j_bipush E 6 bp_6 dX12_readNew_18 ?_
      obtain ⟨r1, M1, h1, hf⟩ := bn2_e hf
      refine j_invV [] [.int r1] E (c_X12_startMore h1) ml_X12_315 mv_X12_startMore rfl ⟨le_ rfl, le_ rfl⟩ (rcM cf_X12) rfl rfl (le_ rfl) ⟨le_ rfl, le_ rfl⟩ dX12_readNew_20 ?_
      refine j_if_ne E 27 (by decide) dX12_readNew_23 (fun c3 => ?_) (fun c3 => ?_)
      · rw [if_neg c3] at hf
        exact b_X12_readNew_27 E hf
      · rw [if_pos c3] at hf
        cases hf
        exact j_vret E (le_ rfl) (le_ rfl) dX12_readNew_26
    · rw [if_neg c2] at hf
      refine j_iconst E 4 ic_4 dX12_readNew_14 ?_
      refine j_goto E 20 (by decide) dX12_readNew_15 ?_
      obtain ⟨r2, M2, h2, hf⟩ := bn2_e hf
      refine j_invV [] [.int r2] E (c_X12_startMore h2) ml_X12_315 mv_X12_startMore rfl ⟨le_ rfl, le_ rfl⟩ (rcM cf_X12) rfl rfl (le_ rfl) ⟨le_ rfl, le_ rfl⟩ dX12_readNew_20 ?_
      refine j_if_ne E 27 (by decide) dX12_readNew_23 (fun c4 => ?_) (fun c4 => ?_)
      · rw [if_neg c4] at hf
        exact b_X12_readNew_27 E hf
      · rw [if_pos c4] at hf
        cases hf
        exact j_vret E (le_ rfl) (le_ rfl) dX12_readNew_26
  · rw [if_neg c1] at hf
    refine j_iconst E 4 ic_4 dX12_readNew_5 ?_
    refine j_goto E 10 (by decide) dX12_readNew_6 ?_
    refine j_iload_n E 1 rfl dX12_readNew_10 ?_
    refine j_if_eq E 18 (by decide) dX12_readNew_11 (fun c5 => ?_) (fun c5 => ?_)
    · rw [if_pos c5] at hf
      refine j_bipush E 6 bp_6 dX12_readNew_18 ?_
      obtain ⟨r3, M3, h3, hf⟩ := bn2_e hf
      refine j_invV [] [.int r3] E (c_X12_startMore h3) ml_X12_315 mv_X12_startMore rfl ⟨le_ rfl, le_ rfl⟩ (rcM cf_X12) rfl rfl (le_ rfl) ⟨le_ rfl, le_ rfl⟩ dX12_readNew_20 ?_
      refine j_if_ne E 27 (by decide) dX12_readNew_23 (fun c6 => ?_) (fun c6 => ?_)
      · rw [if_neg c6] at hf
        exact b_X12_readNew_27 E hf
      · rw [if_pos c6] at hf
        cases hf
        exact j_vret E (le_ rfl) (le_ rfl) dX12_readNew_26
    · rw [if_neg c5] at hf
      refine j_iconst E 4 ic_4 dX12_readNew_14 ?_
      refine j_goto E 20 (by decide) dX12_readNew_15 ?_
      obtain ⟨r4, M4, h4, hf⟩ := bn2_e hf
      refine j_invV [] [.int r4] E (c_X12_startMore h4) ml_X12_315 mv_X12_startMore rfl ⟨le_ rfl, le_ rfl⟩ (rcM cf_X12) rfl rfl (le_ rfl) ⟨le_ rfl, le_ rfl⟩ dX12_readNew_20 ?_
      refine j_if_ne E 27 (by decide) dX12_readNew_23 (fun c7 => ?_) (fun c7 => ?_)
      · rw [if_neg c7] at hf
        exact b_X12_readNew_27 E hf
      · rw [if_pos c7] at hf
        cases hf
        exact j_vret E (le_ rfl) (le_ rfl) dX12_readNew_26
def f_X12_readPrice (M : MT) : Option MT :=
  bn1 (f_X12_goOn M) (fun M1 => bn2 (f_X12_takeNamed M1 1) (fun r1 M2 => bn2 (f_X12_takeNumber M2 0 ((M2.1 M2.2.2 3) - 1)) (fun r2 M3 => bn2 (f_X12_takeNumber M3 0 999) (fun r3 M4 => bn1 (f_X12_takeEnd M4 0) (fun M5 => bn1 (f_X12_isGood M5) (fun r4 => if r4 = 0 then (some M5) else (bn1 (f_X12_setPriceNow M5 r1 r2 r3) (fun M6 => some M6))))))))
set_option maxRecDepth 20000 in
theorem c_X12_readPrice {l : Launch} {D : DD} {z : Nat} {X : XT} {o : Int64} {f1 : Nat} {M : MT} {M' : MT} (hf : f_X12_readPrice M = some M') : CC l yX12_readPrice cX12_readPrice 4 none (rmk 4 0 0) D z [.ref (z + aM 0)] (GG D z (X, (f1 + 1, M, o))) none (GG D z (X, (f1 + 1, M', o))) := by
  unfold f_X12_readPrice at hf
  refine cc_of pn_X12 (le_ rfl) (ls := [(0, .ref (z + aM 0))]) rfl ?_
  intro p e s m args below meth c E
  refine j_aload_n E 0 rfl dX12_readPrice_0 ?_
  obtain ⟨M1, h1, hf⟩ := bn1_e hf
  refine j_invV [] [] E (c_X12_goOn h1) ml_X12_259 mv_X12_goOn rfl ⟨le_ rfl, le_ rfl⟩ (rcM cf_X12) rfl rfl (le_ rfl) ⟨le_ rfl, le_ rfl⟩ dX12_readPrice_1 ?_
  refine j_aload_n E 0 rfl dX12_readPrice_4 ?_
  refine j_iconst E 1 ic_1 dX12_readPrice_5 ?_
  obtain ⟨r1, M2, h2, hf⟩ := bn2_e hf
  refine j_invV [] [.int r1] E (c_X12_takeNamed h2) ml_X12_319 mv_X12_takeNamed rfl ⟨le_ rfl, le_ rfl⟩ (rcM cf_X12) rfl rfl (le_ rfl) ⟨le_ rfl, le_ rfl⟩ dX12_readPrice_6 ?_
  refine j_istore_n (ls' := [(1, .int r1), (0, .ref (z + aM 0))]) E (lt_ rfl) rfl dX12_readPrice_9 ?_
  refine j_aload_n E 1 rfl dX12_readPrice_10 ?_
  refine j_iconst E 0 ic_0 dX12_readPrice_11 ?_
  refine j_aload_n E 1 rfl dX12_readPrice_12 ?_
  refine j_getM (f := 3) E cf_X12 fl_X12_24 (lt_ rfl) rfl rfl dX12_readPrice_13 ?_
  refine j_iconst E 3 ic_3 dX12_readPrice_16 ?_
  refine j_ialdR E rfl (vi_3 (lt_ rfl)) (3) tn_3 dX12_readPrice_17 ?_
  refine j_iconst E 1 ic_1 dX12_readPrice_18 ?_
  refine j_isub E dX12_readPrice_19 ?_
  obtain ⟨r2, M3, h3, hf⟩ := bn2_e hf
  refine j_invV [] [.int r2] E (c_X12_takeNumber h3) ml_X12_308 mv_X12_takeNumber rfl ⟨le_ rfl, le_ rfl⟩ (rcM cf_X12) rfl rfl (le_ rfl) ⟨le_ rfl, le_ rfl⟩ dX12_readPrice_20 ?_
  refine j_istore_n (ls' := [(2, .int r2), (1, .int r1), (0, .ref (z + aM 0))]) E (lt_ rfl) rfl dX12_readPrice_23 ?_
  refine j_aload_n E 2 rfl dX12_readPrice_24 ?_
  refine j_iconst E 0 ic_0 dX12_readPrice_25 ?_
  refine j_sipush E 999 sp_999 dX12_readPrice_26 ?_
  obtain ⟨r3, M4, h4, hf⟩ := bn2_e hf
  refine j_invV [] [.int r3] E (c_X12_takeNumber h4) ml_X12_308 mv_X12_takeNumber rfl ⟨le_ rfl, le_ rfl⟩ (rcM cf_X12) rfl rfl (le_ rfl) ⟨le_ rfl, le_ rfl⟩ dX12_readPrice_29 ?_
  refine j_istore_n (ls' := [(3, .int r3), (2, .int r2), (1, .int r1), (0, .ref (z + aM 0))]) E (lt_ rfl) rfl dX12_readPrice_32 ?_
  refine j_aload_n E 3 rfl dX12_readPrice_33 ?_
  refine j_iconst E 0 ic_0 dX12_readPrice_34 ?_
  obtain ⟨M5, h5, hf⟩ := bn1_e hf
  refine j_invV [] [] E (c_X12_takeEnd h5) ml_X12_311 mv_X12_takeEnd rfl ⟨le_ rfl, le_ rfl⟩ (rcM cf_X12) rfl rfl (le_ rfl) ⟨le_ rfl, le_ rfl⟩ dX12_readPrice_35 ?_
  refine j_aload_n E 3 rfl dX12_readPrice_38 ?_
  obtain ⟨r4, h6, hf⟩ := bn1_e hf
  refine j_invV [] [.int r4] E (c_X12_isGood h6) ml_X12_275 mv_X12_isGood rfl ⟨le_ rfl, le_ rfl⟩ (rcM cf_X12) rfl rfl (le_ rfl) ⟨le_ rfl, le_ rfl⟩ dX12_readPrice_39 ?_
  refine j_if_eq E 52 (by decide) dX12_readPrice_42 (fun c1 => ?_) (fun c1 => ?_)
  · rw [if_pos c1] at hf
    cases hf
    exact j_vret E (le_ rfl) (le_ rfl) dX12_readPrice_52
  · rw [if_neg c1] at hf
    refine j_aload_n E 3 rfl dX12_readPrice_45 ?_
    refine j_iload_n E 2 rfl dX12_readPrice_46 ?_
    refine j_iload_n E 1 rfl dX12_readPrice_47 ?_
    refine j_iload_n E 0 rfl dX12_readPrice_48 ?_
    obtain ⟨M6, h7, hf⟩ := bn1_e hf
    refine j_invV [] [] E (c_X12_setPriceNow h7) ml_X12_119 mv_X12_setPriceNow rfl ⟨le_ rfl, le_ rfl⟩ (rcM cf_X12) rfl rfl (le_ rfl) ⟨le_ rfl, le_ rfl⟩ dX12_readPrice_49 ?_
    cases hf
    exact j_vret E (le_ rfl) (le_ rfl) dX12_readPrice_52
def f_X12_readPlot (M : MT) : Option MT :=
  bn2 (f_X12_startMore M 6 8) (fun r1 M1 => if r1 = 0 then (some M1) else (bn2 (f_X12_takeNamed M1 0) (fun r2 M2 => bn2 (f_X12_takeNamed M2 1) (fun r3 M3 => bn2 (f_X12_takeNumber M3 1 99) (fun r4 M4 => bn1 (f_X12_takeEnd M4 0) (fun M5 => bn1 (f_X12_isGood M5) (fun r5 => if r5 = 0 then (some M5) else (bn1 (f_X12_layPlot M5 r2 r3 r4) (fun M6 => some M6)))))))))
set_option maxRecDepth 20000 in
theorem c_X12_readPlot {l : Launch} {D : DD} {z : Nat} {X : XT} {o : Int64} {f1 : Nat} {M : MT} {M' : MT} (hf : f_X12_readPlot M = some M') : CC l yX12_readPlot cX12_readPlot 4 none (rmk 4 0 0) D z [.ref (z + aM 0)] (GG D z (X, (f1 + 1, M, o))) none (GG D z (X, (f1 + 1, M', o))) := by
  unfold f_X12_readPlot at hf
  refine cc_of pn_X12 (le_ rfl) (ls := [(0, .ref (z + aM 0))]) rfl ?_
  intro p e s m args below meth c E
  refine j_aload_n E 0 rfl dX12_readPlot_0 ?_
  refine j_bipush E 6 bp_6 dX12_readPlot_1 ?_
  refine j_bipush E 8 bp_8 dX12_readPlot_3 ?_
  obtain ⟨r1, M1, h1, hf⟩ := bn2_e hf
  refine j_invV [] [.int r1] E (c_X12_startMore h1) ml_X12_315 mv_X12_startMore rfl ⟨le_ rfl, le_ rfl⟩ (rcM cf_X12) rfl rfl (le_ rfl) ⟨le_ rfl, le_ rfl⟩ dX12_readPlot_5 ?_
  refine j_if_ne E 12 (by decide) dX12_readPlot_8 (fun c1 => ?_) (fun c1 => ?_)
  · rw [if_neg c1] at hf
    refine j_aload_n E 0 rfl dX12_readPlot_12 ?_
    refine j_iconst E 0 ic_0 dX12_readPlot_13 ?_
    obtain ⟨r2, M2, h2, hf⟩ := bn2_e hf
    refine j_invV [] [.int r2] E (c_X12_takeNamed h2) ml_X12_319 mv_X12_takeNamed rfl ⟨le_ rfl, le_ rfl⟩ (rcM cf_X12) rfl rfl (le_ rfl) ⟨le_ rfl, le_ rfl⟩ dX12_readPlot_14 ?_
    refine j_istore_n (ls' := [(1, .int r2), (0, .ref (z + aM 0))]) E (lt_ rfl) rfl dX12_readPlot_17 ?_
    refine j_aload_n E 1 rfl dX12_readPlot_18 ?_
    refine j_iconst E 1 ic_1 dX12_readPlot_19 ?_
    obtain ⟨r3, M3, h3, hf⟩ := bn2_e hf
    refine j_invV [] [.int r3] E (c_X12_takeNamed h3) ml_X12_319 mv_X12_takeNamed rfl ⟨le_ rfl, le_ rfl⟩ (rcM cf_X12) rfl rfl (le_ rfl) ⟨le_ rfl, le_ rfl⟩ dX12_readPlot_20 ?_
    refine j_istore_n (ls' := [(2, .int r3), (1, .int r2), (0, .ref (z + aM 0))]) E (lt_ rfl) rfl dX12_readPlot_23 ?_
    refine j_aload_n E 2 rfl dX12_readPlot_24 ?_
    refine j_iconst E 1 ic_1 dX12_readPlot_25 ?_
    refine j_bipush E 99 bp_99 dX12_readPlot_26 ?_
    obtain ⟨r4, M4, h4, hf⟩ := bn2_e hf
    refine j_invV [] [.int r4] E (c_X12_takeNumber h4) ml_X12_308 mv_X12_takeNumber rfl ⟨le_ rfl, le_ rfl⟩ (rcM cf_X12) rfl rfl (le_ rfl) ⟨le_ rfl, le_ rfl⟩ dX12_readPlot_28 ?_
    refine j_istore_n (ls' := [(3, .int r4), (2, .int r3), (1, .int r2), (0, .ref (z + aM 0))]) E (lt_ rfl) rfl dX12_readPlot_31 ?_
    refine j_aload_n E 3 rfl dX12_readPlot_32 ?_
    refine j_iconst E 0 ic_0 dX12_readPlot_33 ?_
    obtain ⟨M5, h5, hf⟩ := bn1_e hf
    refine j_invV [] [] E (c_X12_takeEnd h5) ml_X12_311 mv_X12_takeEnd rfl ⟨le_ rfl, le_ rfl⟩ (rcM cf_X12) rfl rfl (le_ rfl) ⟨le_ rfl, le_ rfl⟩ dX12_readPlot_34 ?_
    refine j_aload_n E 3 rfl dX12_readPlot_37 ?_
    obtain ⟨r5, h6, hf⟩ := bn1_e hf
    refine j_invV [] [.int r5] E (c_X12_isGood h6) ml_X12_275 mv_X12_isGood rfl ⟨le_ rfl, le_ rfl⟩ (rcM cf_X12) rfl rfl (le_ rfl) ⟨le_ rfl, le_ rfl⟩ dX12_readPlot_38 ?_
    refine j_if_eq E 51 (by decide) dX12_readPlot_41 (fun c2 => ?_) (fun c2 => ?_)
    · rw [if_pos c2] at hf
      cases hf
      exact j_vret E (le_ rfl) (le_ rfl) dX12_readPlot_51
    · rw [if_neg c2] at hf
      refine j_aload_n E 3 rfl dX12_readPlot_44 ?_
      refine j_iload_n E 2 rfl dX12_readPlot_45 ?_
      refine j_iload_n E 1 rfl dX12_readPlot_46 ?_
      refine j_iload_n E 0 rfl dX12_readPlot_47 ?_
      obtain ⟨M6, h7, hf⟩ := bn1_e hf
      refine j_invV [] [] E (c_X12_layPlot h7) ml_X12_130 mv_X12_layPlot rfl ⟨le_ rfl, le_ rfl⟩ (rcM cf_X12) rfl rfl (le_ rfl) ⟨le_ rfl, le_ rfl⟩ dX12_readPlot_48 ?_
      cases hf
      exact j_vret E (le_ rfl) (le_ rfl) dX12_readPlot_51
  · rw [if_pos c1] at hf
    cases hf
    exact j_vret E (le_ rfl) (le_ rfl) dX12_readPlot_11
def f_X12_readTank (M : MT) : Option MT :=
  bn2 (f_X12_startMore M 8 5) (fun r1 M1 => if r1 = 0 then (some M1) else (bn2 (f_X12_takeNumber M1 1 20000) (fun r2 M2 => bn1 (f_X12_takeEnd M2 0) (fun M3 => bn1 (f_X12_isGood M3) (fun r3 => if r3 = 0 then (some M3) else (bn1 (f_X12_layTank M3 r2) (fun M4 => some M4)))))))
set_option maxRecDepth 20000 in
theorem c_X12_readTank {l : Launch} {D : DD} {z : Nat} {X : XT} {o : Int64} {f1 : Nat} {M : MT} {M' : MT} (hf : f_X12_readTank M = some M') : CC l yX12_readTank cX12_readTank 2 none (rmk 4 0 0) D z [.ref (z + aM 0)] (GG D z (X, (f1 + 1, M, o))) none (GG D z (X, (f1 + 1, M', o))) := by
  unfold f_X12_readTank at hf
  refine cc_of pn_X12 (le_ rfl) (ls := [(0, .ref (z + aM 0))]) rfl ?_
  intro p e s m args below meth c E
  refine j_aload_n E 0 rfl dX12_readTank_0 ?_
  refine j_bipush E 8 bp_8 dX12_readTank_1 ?_
  refine j_iconst E 5 ic_5 dX12_readTank_3 ?_
  obtain ⟨r1, M1, h1, hf⟩ := bn2_e hf
  refine j_invV [] [.int r1] E (c_X12_startMore h1) ml_X12_315 mv_X12_startMore rfl ⟨le_ rfl, le_ rfl⟩ (rcM cf_X12) rfl rfl (le_ rfl) ⟨le_ rfl, le_ rfl⟩ dX12_readTank_4 ?_
  refine j_if_ne E 11 (by decide) dX12_readTank_7 (fun c1 => ?_) (fun c1 => ?_)
  · rw [if_neg c1] at hf
    refine j_aload_n E 0 rfl dX12_readTank_11 ?_
    refine j_iconst E 1 ic_1 dX12_readTank_12 ?_
    refine j_sipush E 20000 sp_20000 dX12_readTank_13 ?_
    obtain ⟨r2, M2, h2, hf⟩ := bn2_e hf
    refine j_invV [] [.int r2] E (c_X12_takeNumber h2) ml_X12_308 mv_X12_takeNumber rfl ⟨le_ rfl, le_ rfl⟩ (rcM cf_X12) rfl rfl (le_ rfl) ⟨le_ rfl, le_ rfl⟩ dX12_readTank_16 ?_
    refine j_istore_n (ls' := [(1, .int r2), (0, .ref (z + aM 0))]) E (lt_ rfl) rfl dX12_readTank_19 ?_
    refine j_aload_n E 1 rfl dX12_readTank_20 ?_
    refine j_iconst E 0 ic_0 dX12_readTank_21 ?_
    obtain ⟨M3, h3, hf⟩ := bn1_e hf
    refine j_invV [] [] E (c_X12_takeEnd h3) ml_X12_311 mv_X12_takeEnd rfl ⟨le_ rfl, le_ rfl⟩ (rcM cf_X12) rfl rfl (le_ rfl) ⟨le_ rfl, le_ rfl⟩ dX12_readTank_22 ?_
    refine j_aload_n E 1 rfl dX12_readTank_25 ?_
    obtain ⟨r3, h4, hf⟩ := bn1_e hf
    refine j_invV [] [.int r3] E (c_X12_isGood h4) ml_X12_275 mv_X12_isGood rfl ⟨le_ rfl, le_ rfl⟩ (rcM cf_X12) rfl rfl (le_ rfl) ⟨le_ rfl, le_ rfl⟩ dX12_readTank_26 ?_
    refine j_if_eq E 37 (by decide) dX12_readTank_29 (fun c2 => ?_) (fun c2 => ?_)
    · rw [if_pos c2] at hf
      cases hf
      exact j_vret E (le_ rfl) (le_ rfl) dX12_readTank_37
    · rw [if_neg c2] at hf
      refine j_aload_n E 1 rfl dX12_readTank_32 ?_
      refine j_iload_n E 0 rfl dX12_readTank_33 ?_
      obtain ⟨M4, h5, hf⟩ := bn1_e hf
      refine j_invV [] [] E (c_X12_layTank h5) ml_X12_133 mv_X12_layTank rfl ⟨le_ rfl, le_ rfl⟩ (rcM cf_X12) rfl rfl (le_ rfl) ⟨le_ rfl, le_ rfl⟩ dX12_readTank_34 ?_
      cases hf
      exact j_vret E (le_ rfl) (le_ rfl) dX12_readTank_37
  · rw [if_pos c1] at hf
    cases hf
    exact j_vret E (le_ rfl) (le_ rfl) dX12_readTank_10
def f_X12_readLoad (M : MT) : Option MT :=
  bn1 (f_X12_goOn M) (fun M1 => bn2 (f_X12_takeNumber M1 0 ((M1.1 M1.2.2 6) - 1)) (fun r1 M2 => bn2 (f_X12_takeNumber M2 1 5000) (fun r2 M3 => bn2 (f_X12_takeNumber M3 0 250) (fun r3 M4 => bn1 (f_X12_isGood M4) (fun r4 => if r4 = 0 then (bn1 (f_X12_takeEnd M4 0) (fun M5 => bn1 (f_X12_isGood M5) (fun r5 => if r5 = 0 then (some M5) else (bn2 (f_X12_layLoad M5 r1 r2 r3) (fun r6 M6 => some M6))))) else (bn1 (f_X12_reasonOf M4 r1 r2 r3) (fun r7 => if r7 = 0 then (bn1 (f_X12_takeEnd M4 0) (fun M7 => bn1 (f_X12_isGood M7) (fun r8 => if r8 = 0 then (some M7) else (bn2 (f_X12_layLoad M7 r1 r2 r3) (fun r9 M8 => some M8))))) else (bn1 (f_X12_takeEnd M4 1) (fun M9 => bn1 (f_X12_isGood M9) (fun r10 => if r10 = 0 then (some M9) else (bn2 (f_X12_layLoad M9 r1 r2 r3) (fun r11 M10 => some M10))))))))))))
set_option maxRecDepth 20000 in
theorem c_X12_readLoad {l : Launch} {D : DD} {z : Nat} {X : XT} {o : Int64} {f1 : Nat} {M : MT} {M' : MT} (hf : f_X12_readLoad M = some M') : CC l yX12_readLoad cX12_readLoad 5 none (rmk 6 0 0) D z [.ref (z + aM 0)] (GG D z (X, (f1 + 1, M, o))) none (GG D z (X, (f1 + 1, M', o))) := by
  unfold f_X12_readLoad at hf
  refine cc_of pn_X12 (le_ rfl) (ls := [(0, .ref (z + aM 0))]) rfl ?_
  intro p e s m args below meth c E
  refine j_aload_n E 0 rfl dX12_readLoad_0 ?_
  obtain ⟨M1, h1, hf⟩ := bn1_e hf
  refine j_invV [] [] E (c_X12_goOn h1) ml_X12_259 mv_X12_goOn rfl ⟨le_ rfl, le_ rfl⟩ (rcM cf_X12) rfl rfl (le_ rfl) ⟨le_ rfl, le_ rfl⟩ dX12_readLoad_1 ?_
  refine j_aload_n E 0 rfl dX12_readLoad_4 ?_
  refine j_iconst E 0 ic_0 dX12_readLoad_5 ?_
  refine j_aload_n E 0 rfl dX12_readLoad_6 ?_
  refine j_getM (f := 3) E cf_X12 fl_X12_24 (lt_ rfl) rfl rfl dX12_readLoad_7 ?_
  refine j_bipush E 6 bp_6 dX12_readLoad_10 ?_
  refine j_ialdR E rfl (vi_6 (lt_ rfl)) (6) tn_6 dX12_readLoad_12 ?_
  refine j_iconst E 1 ic_1 dX12_readLoad_13 ?_
  refine j_isub E dX12_readLoad_14 ?_
  obtain ⟨r1, M2, h2, hf⟩ := bn2_e hf
  refine j_invV [] [.int r1] E (c_X12_takeNumber h2) ml_X12_308 mv_X12_takeNumber rfl ⟨le_ rfl, le_ rfl⟩ (rcM cf_X12) rfl rfl (le_ rfl) ⟨le_ rfl, le_ rfl⟩ dX12_readLoad_15 ?_
  refine j_istore_n (ls' := [(1, .int r1), (0, .ref (z + aM 0))]) E (lt_ rfl) rfl dX12_readLoad_18 ?_
  refine j_aload_n E 1 rfl dX12_readLoad_19 ?_
  refine j_iconst E 1 ic_1 dX12_readLoad_20 ?_
  refine j_sipush E 5000 sp_5000 dX12_readLoad_21 ?_
  obtain ⟨r2, M3, h3, hf⟩ := bn2_e hf
  refine j_invV [] [.int r2] E (c_X12_takeNumber h3) ml_X12_308 mv_X12_takeNumber rfl ⟨le_ rfl, le_ rfl⟩ (rcM cf_X12) rfl rfl (le_ rfl) ⟨le_ rfl, le_ rfl⟩ dX12_readLoad_24 ?_
  refine j_istore_n (ls' := [(2, .int r2), (1, .int r1), (0, .ref (z + aM 0))]) E (lt_ rfl) rfl dX12_readLoad_27 ?_
  refine j_aload_n E 2 rfl dX12_readLoad_28 ?_
  refine j_iconst E 0 ic_0 dX12_readLoad_29 ?_
  refine j_sipush E 250 sp_250 dX12_readLoad_30 ?_
  obtain ⟨r3, M4, h4, hf⟩ := bn2_e hf
  refine j_invV [] [.int r3] E (c_X12_takeNumber h4) ml_X12_308 mv_X12_takeNumber rfl ⟨le_ rfl, le_ rfl⟩ (rcM cf_X12) rfl rfl (le_ rfl) ⟨le_ rfl, le_ rfl⟩ dX12_readLoad_33 ?_
  refine j_istore_n (ls' := [(3, .int r3), (2, .int r2), (1, .int r1), (0, .ref (z + aM 0))]) E (lt_ rfl) rfl dX12_readLoad_36 ?_
  refine j_aload_n E 3 rfl dX12_readLoad_37 ?_
  refine j_aload_n E 3 rfl dX12_readLoad_38 ?_
  obtain ⟨r4, h5, hf⟩ := bn1_e hf
  refine j_invV [.ref (z + aM 0)] [.int r4, .ref (z + aM 0)] E (c_X12_isGood h5) ml_X12_275 mv_X12_isGood rfl ⟨le_ rfl, le_ rfl⟩ (rcM cf_X12) rfl rfl (le_ rfl) ⟨le_ rfl, le_ rfl⟩ dX12_readLoad_39 ?_
  refine j_if_eq E 59 (by decide) dX12_readLoad_42 (fun c1 => ?_) (fun c1 => ?_)
  · rw [if_pos c1] at hf
    refine j_iconst E 0 ic_0 dX12_readLoad_59 ?_
    obtain ⟨M5, h6, hf⟩ := bn1_e hf
    refine j_invV [] [] E (c_X12_takeEnd h6) ml_X12_311 mv_X12_takeEnd rfl ⟨le_ rfl, le_ rfl⟩ (rcM cf_X12) rfl rfl (le_ rfl) ⟨le_ rfl, le_ rfl⟩ dX12_readLoad_60 ?_
    refine j_aload_n E 3 rfl dX12_readLoad_63 ?_
    obtain ⟨r5, h7, hf⟩ := bn1_e hf
    refine j_invV [] [.int r5] E (c_X12_isGood h7) ml_X12_275 mv_X12_isGood rfl ⟨le_ rfl, le_ rfl⟩ (rcM cf_X12) rfl rfl (le_ rfl) ⟨le_ rfl, le_ rfl⟩ dX12_readLoad_64 ?_
    refine j_if_eq E 79 (by decide) dX12_readLoad_67 (fun c2 => ?_) (fun c2 => ?_)
    · rw [if_pos c2] at hf
      cases hf
      exact j_vret E (le_ rfl) (le_ rfl) dX12_readLoad_79
    · rw [if_neg c2] at hf
      refine j_aload_n E 3 rfl dX12_readLoad_70 ?_
      refine j_iload_n E 2 rfl dX12_readLoad_71 ?_
      refine j_iload_n E 1 rfl dX12_readLoad_72 ?_
      refine j_iload_n E 0 rfl dX12_readLoad_73 ?_
      obtain ⟨r6, M6, h8, hf⟩ := bn2_e hf
      refine j_invV [] [.int r6] E (c_X12_layLoad h8) ml_X12_137 mv_X12_layLoad rfl ⟨le_ rfl, le_ rfl⟩ (rcM cf_X12) rfl rfl (le_ rfl) ⟨le_ rfl, le_ rfl⟩ dX12_readLoad_74 ?_
      refine j_istore (ls' := [(4, .int r6), (3, .int r3), (2, .int r2), (1, .int r1), (0, .ref (z + aM 0))]) E (lt_ rfl) rfl dX12_readLoad_77 ?_
      cases hf
      exact j_vret E (le_ rfl) (le_ rfl) dX12_readLoad_79
  · rw [if_neg c1] at hf
    refine j_aload_n E 3 rfl dX12_readLoad_45 ?_
    refine j_iload_n E 2 rfl dX12_readLoad_46 ?_
    refine j_iload_n E 1 rfl dX12_readLoad_47 ?_
    refine j_iload_n E 0 rfl dX12_readLoad_48 ?_
    obtain ⟨r7, h9, hf⟩ := bn1_e hf
    refine j_invV [.ref (z + aM 0)] [.int r7, .ref (z + aM 0)] E (c_X12_reasonOf h9) ml_X12_323 mv_X12_reasonOf rfl ⟨le_ rfl, le_ rfl⟩ (rcM cf_X12) rfl rfl (le_ rfl) ⟨le_ rfl, le_ rfl⟩ dX12_readLoad_49 ?_
    refine j_if_eq E 59 (by decide) dX12_readLoad_52 (fun c3 => ?_) (fun c3 => ?_)
    · rw [if_pos c3] at hf
      refine j_iconst E 0 ic_0 dX12_readLoad_59 ?_
      obtain ⟨M7, h10, hf⟩ := bn1_e hf
      refine j_invV [] [] E (c_X12_takeEnd h10) ml_X12_311 mv_X12_takeEnd rfl ⟨le_ rfl, le_ rfl⟩ (rcM cf_X12) rfl rfl (le_ rfl) ⟨le_ rfl, le_ rfl⟩ dX12_readLoad_60 ?_
      refine j_aload_n E 3 rfl dX12_readLoad_63 ?_
      obtain ⟨r8, h11, hf⟩ := bn1_e hf
      refine j_invV [] [.int r8] E (c_X12_isGood h11) ml_X12_275 mv_X12_isGood rfl ⟨le_ rfl, le_ rfl⟩ (rcM cf_X12) rfl rfl (le_ rfl) ⟨le_ rfl, le_ rfl⟩ dX12_readLoad_64 ?_
      refine j_if_eq E 79 (by decide) dX12_readLoad_67 (fun c4 => ?_) (fun c4 => ?_)
      · rw [if_pos c4] at hf
        cases hf
        exact j_vret E (le_ rfl) (le_ rfl) dX12_readLoad_79
      · rw [if_neg c4] at hf
        refine j_aload_n E 3 rfl dX12_readLoad_70 ?_
        refine j_iload_n E 2 rfl dX12_readLoad_71 ?_
        refine j_iload_n E 1 rfl dX12_readLoad_72 ?_
        refine j_iload_n E 0 rfl dX12_readLoad_73 ?_
        obtain ⟨r9, M8, h12, hf⟩ := bn2_e hf
        refine j_invV [] [.int r9] E (c_X12_layLoad h12) ml_X12_137 mv_X12_layLoad rfl ⟨le_ rfl, le_ rfl⟩ (rcM cf_X12) rfl rfl (le_ rfl) ⟨le_ rfl, le_ rfl⟩ dX12_readLoad_74 ?_
        refine j_istore (ls' := [(4, .int r9), (3, .int r3), (2, .int r2), (1, .int r1), (0, .ref (z + aM 0))]) E (lt_ rfl) rfl dX12_readLoad_77 ?_
        cases hf
        exact j_vret E (le_ rfl) (le_ rfl) dX12_readLoad_79
    · rw [if_neg c3] at hf
      refine j_iconst E 1 ic_1 dX12_readLoad_55 ?_
      refine j_goto E 60 (by decide) dX12_readLoad_56 ?_
      obtain ⟨M9, h13, hf⟩ := bn1_e hf
      refine j_invV [] [] E (c_X12_takeEnd h13) ml_X12_311 mv_X12_takeEnd rfl ⟨le_ rfl, le_ rfl⟩ (rcM cf_X12) rfl rfl (le_ rfl) ⟨le_ rfl, le_ rfl⟩ dX12_readLoad_60 ?_
      refine j_aload_n E 3 rfl dX12_readLoad_63 ?_
      obtain ⟨r10, h14, hf⟩ := bn1_e hf
      refine j_invV [] [.int r10] E (c_X12_isGood h14) ml_X12_275 mv_X12_isGood rfl ⟨le_ rfl, le_ rfl⟩ (rcM cf_X12) rfl rfl (le_ rfl) ⟨le_ rfl, le_ rfl⟩ dX12_readLoad_64 ?_
      refine j_if_eq E 79 (by decide) dX12_readLoad_67 (fun c5 => ?_) (fun c5 => ?_)
      · rw [if_pos c5] at hf
        cases hf
        exact j_vret E (le_ rfl) (le_ rfl) dX12_readLoad_79
      · rw [if_neg c5] at hf
        refine j_aload_n E 3 rfl dX12_readLoad_70 ?_
        refine j_iload_n E 2 rfl dX12_readLoad_71 ?_
        refine j_iload_n E 1 rfl dX12_readLoad_72 ?_
        refine j_iload_n E 0 rfl dX12_readLoad_73 ?_
        obtain ⟨r11, M10, h15, hf⟩ := bn2_e hf
        refine j_invV [] [.int r11] E (c_X12_layLoad h15) ml_X12_137 mv_X12_layLoad rfl ⟨le_ rfl, le_ rfl⟩ (rcM cf_X12) rfl rfl (le_ rfl) ⟨le_ rfl, le_ rfl⟩ dX12_readLoad_74 ?_
        refine j_istore (ls' := [(4, .int r11), (3, .int r3), (2, .int r2), (1, .int r1), (0, .ref (z + aM 0))]) E (lt_ rfl) rfl dX12_readLoad_77 ?_
        cases hf
        exact j_vret E (le_ rfl) (le_ rfl) dX12_readLoad_79
def f_X12_takeTank (M : MT) : Option (Int32 × MT) :=
  bn2 (f_X12_takeNumber M 0 ((M.1 M.2.2 8) - 1)) (fun r1 M1 => some (r1, M1))
set_option maxRecDepth 20000 in
theorem c_X12_takeTank {l : Launch} {D : DD} {z : Nat} {X : XT} {o : Int64} {f1 : Nat} {M : MT} {r : Int32} {M' : MT} (hf : f_X12_takeTank M = some (r, M')) : CC l yX12_takeTank cX12_takeTank 1 (some .int) (rmk 4 0 0) D z [.ref (z + aM 0)] (GG D z (X, (f1 + 1, M, o))) (some (.int r)) (GG D z (X, (f1 + 1, M', o))) := by
  unfold f_X12_takeTank at hf
  refine cc_of pn_X12 (le_ rfl) (ls := [(0, .ref (z + aM 0))]) rfl ?_
  intro p e s m args below meth c E
  refine j_aload_n E 0 rfl dX12_takeTank_0 ?_
  refine j_iconst E 0 ic_0 dX12_takeTank_1 ?_
  refine j_aload_n E 0 rfl dX12_takeTank_2 ?_
  refine j_getM (f := 3) E cf_X12 fl_X12_24 (lt_ rfl) rfl rfl dX12_takeTank_3 ?_
  refine j_bipush E 8 bp_8 dX12_takeTank_6 ?_
  refine j_ialdR E rfl (vi_8 (lt_ rfl)) (8) tn_8 dX12_takeTank_8 ?_
  refine j_iconst E 1 ic_1 dX12_takeTank_9 ?_
  refine j_isub E dX12_takeTank_10 ?_
  obtain ⟨r1, M1, h1, hf⟩ := bn2_e hf
  refine j_invV [] [.int r1] E (c_X12_takeNumber h1) ml_X12_308 mv_X12_takeNumber rfl ⟨le_ rfl, le_ rfl⟩ (rcM cf_X12) rfl rfl (le_ rfl) ⟨le_ rfl, le_ rfl⟩ dX12_takeTank_11 ?_
  cases hf
  exact j_iret E rfl (le_ rfl) (le_ rfl) dX12_takeTank_14
def f_X12_readBottle (M : MT) : Option MT :=
  bn1 (f_X12_goOn M) (fun M1 => bn2 (f_X12_takeTank M1) (fun r1 M2 => bn2 (f_X12_takeNumber M2 1 20000) (fun r2 M3 => bn1 (f_X12_isGood M3) (fun r3 => if r3 = 0 then (bn1 (f_X12_takeEnd M3 0) (fun M4 => bn1 (f_X12_isGood M4) (fun r4 => if r4 = 0 then (some M4) else (bn2 (f_X12_bottleNow M4 r1 r2) (fun r5 M5 => some M5))))) else (bn1 (f_X12_mayBottle M3 r1 r2) (fun r6 => if r6 = 0 then (bn1 (f_X12_takeEnd M3 1) (fun M8 => bn1 (f_X12_isGood M8) (fun r9 => if r9 = 0 then (some M8) else (bn2 (f_X12_bottleNow M8 r1 r2) (fun r10 M9 => some M9))))) else (bn1 (f_X12_takeEnd M3 0) (fun M6 => bn1 (f_X12_isGood M6) (fun r7 => if r7 = 0 then (some M6) else (bn2 (f_X12_bottleNow M6 r1 r2) (fun r8 M7 => some M7)))))))))))
set_option maxRecDepth 20000 in
theorem c_X12_readBottle {l : Launch} {D : DD} {z : Nat} {X : XT} {o : Int64} {f1 : Nat} {M : MT} {M' : MT} (hf : f_X12_readBottle M = some M') : CC l yX12_readBottle cX12_readBottle 4 none (rmk 5 0 0) D z [.ref (z + aM 0)] (GG D z (X, (f1 + 1, M, o))) none (GG D z (X, (f1 + 1, M', o))) := by
  unfold f_X12_readBottle at hf
  refine cc_of pn_X12 (le_ rfl) (ls := [(0, .ref (z + aM 0))]) rfl ?_
  intro p e s m args below meth c E
  refine j_aload_n E 0 rfl dX12_readBottle_0 ?_
  obtain ⟨M1, h1, hf⟩ := bn1_e hf
  refine j_invV [] [] E (c_X12_goOn h1) ml_X12_259 mv_X12_goOn rfl ⟨le_ rfl, le_ rfl⟩ (rcM cf_X12) rfl rfl (le_ rfl) ⟨le_ rfl, le_ rfl⟩ dX12_readBottle_1 ?_
  refine j_aload_n E 0 rfl dX12_readBottle_4 ?_
  obtain ⟨r1, M2, h2, hf⟩ := bn2_e hf
  refine j_invV [] [.int r1] E (c_X12_takeTank h2) ml_X12_326 mv_X12_takeTank rfl ⟨le_ rfl, le_ rfl⟩ (rcM cf_X12) rfl rfl (le_ rfl) ⟨le_ rfl, le_ rfl⟩ dX12_readBottle_5 ?_
  refine j_istore_n (ls' := [(1, .int r1), (0, .ref (z + aM 0))]) E (lt_ rfl) rfl dX12_readBottle_8 ?_
  refine j_aload_n E 1 rfl dX12_readBottle_9 ?_
  refine j_iconst E 1 ic_1 dX12_readBottle_10 ?_
  refine j_sipush E 20000 sp_20000 dX12_readBottle_11 ?_
  obtain ⟨r2, M3, h3, hf⟩ := bn2_e hf
  refine j_invV [] [.int r2] E (c_X12_takeNumber h3) ml_X12_308 mv_X12_takeNumber rfl ⟨le_ rfl, le_ rfl⟩ (rcM cf_X12) rfl rfl (le_ rfl) ⟨le_ rfl, le_ rfl⟩ dX12_readBottle_14 ?_
  refine j_istore_n (ls' := [(2, .int r2), (1, .int r1), (0, .ref (z + aM 0))]) E (lt_ rfl) rfl dX12_readBottle_17 ?_
  refine j_aload_n E 2 rfl dX12_readBottle_18 ?_
  refine j_aload_n E 2 rfl dX12_readBottle_19 ?_
  obtain ⟨r3, h4, hf⟩ := bn1_e hf
  refine j_invV [.ref (z + aM 0)] [.int r3, .ref (z + aM 0)] E (c_X12_isGood h4) ml_X12_275 mv_X12_isGood rfl ⟨le_ rfl, le_ rfl⟩ (rcM cf_X12) rfl rfl (le_ rfl) ⟨le_ rfl, le_ rfl⟩ dX12_readBottle_20 ?_
  refine j_if_eq E 39 (by decide) dX12_readBottle_23 (fun c1 => ?_) (fun c1 => ?_)
  · rw [if_pos c1] at hf
    refine j_iconst E 0 ic_0 dX12_readBottle_39 ?_
    obtain ⟨M4, h5, hf⟩ := bn1_e hf
    refine j_invV [] [] E (c_X12_takeEnd h5) ml_X12_311 mv_X12_takeEnd rfl ⟨le_ rfl, le_ rfl⟩ (rcM cf_X12) rfl rfl (le_ rfl) ⟨le_ rfl, le_ rfl⟩ dX12_readBottle_40 ?_
    refine j_aload_n E 2 rfl dX12_readBottle_43 ?_
    obtain ⟨r4, h6, hf⟩ := bn1_e hf
    refine j_invV [] [.int r4] E (c_X12_isGood h6) ml_X12_275 mv_X12_isGood rfl ⟨le_ rfl, le_ rfl⟩ (rcM cf_X12) rfl rfl (le_ rfl) ⟨le_ rfl, le_ rfl⟩ dX12_readBottle_44 ?_
    refine j_if_eq E 57 (by decide) dX12_readBottle_47 (fun c2 => ?_) (fun c2 => ?_)
    · rw [if_pos c2] at hf
      cases hf
      exact j_vret E (le_ rfl) (le_ rfl) dX12_readBottle_57
    · rw [if_neg c2] at hf
      refine j_aload_n E 2 rfl dX12_readBottle_50 ?_
      refine j_iload_n E 1 rfl dX12_readBottle_51 ?_
      refine j_iload_n E 0 rfl dX12_readBottle_52 ?_
      obtain ⟨r5, M5, h7, hf⟩ := bn2_e hf
      refine j_invV [] [.int r5] E (c_X12_bottleNow h7) ml_X12_332 mv_X12_bottleNow rfl ⟨le_ rfl, le_ rfl⟩ (rcM cf_X12) rfl rfl (le_ rfl) ⟨le_ rfl, le_ rfl⟩ dX12_readBottle_53 ?_
      refine j_istore_n (ls' := [(3, .int r5), (2, .int r2), (1, .int r1), (0, .ref (z + aM 0))]) E (lt_ rfl) rfl dX12_readBottle_56 ?_
      cases hf
      exact j_vret E (le_ rfl) (le_ rfl) dX12_readBottle_57
  · rw [if_neg c1] at hf
    refine j_aload_n E 2 rfl dX12_readBottle_26 ?_
    refine j_iload_n E 1 rfl dX12_readBottle_27 ?_
    refine j_iload_n E 0 rfl dX12_readBottle_28 ?_
    obtain ⟨r6, h8, hf⟩ := bn1_e hf
    refine j_invV [.ref (z + aM 0)] [.int r6, .ref (z + aM 0)] E (c_X12_mayBottle h8) ml_X12_329 mv_X12_mayBottle rfl ⟨le_ rfl, le_ rfl⟩ (rcM cf_X12) rfl rfl (le_ rfl) ⟨le_ rfl, le_ rfl⟩ dX12_readBottle_29 ?_
    refine j_if_ne E 39 (by decide) dX12_readBottle_32 (fun c3 => ?_) (fun c3 => ?_)
    · rw [if_neg c3] at hf
      refine j_iconst E 0 ic_0 dX12_readBottle_39 ?_
      obtain ⟨M6, h9, hf⟩ := bn1_e hf
      refine j_invV [] [] E (c_X12_takeEnd h9) ml_X12_311 mv_X12_takeEnd rfl ⟨le_ rfl, le_ rfl⟩ (rcM cf_X12) rfl rfl (le_ rfl) ⟨le_ rfl, le_ rfl⟩ dX12_readBottle_40 ?_
      refine j_aload_n E 2 rfl dX12_readBottle_43 ?_
      obtain ⟨r7, h10, hf⟩ := bn1_e hf
      refine j_invV [] [.int r7] E (c_X12_isGood h10) ml_X12_275 mv_X12_isGood rfl ⟨le_ rfl, le_ rfl⟩ (rcM cf_X12) rfl rfl (le_ rfl) ⟨le_ rfl, le_ rfl⟩ dX12_readBottle_44 ?_
      refine j_if_eq E 57 (by decide) dX12_readBottle_47 (fun c4 => ?_) (fun c4 => ?_)
      · rw [if_pos c4] at hf
        cases hf
        exact j_vret E (le_ rfl) (le_ rfl) dX12_readBottle_57
      · rw [if_neg c4] at hf
        refine j_aload_n E 2 rfl dX12_readBottle_50 ?_
        refine j_iload_n E 1 rfl dX12_readBottle_51 ?_
        refine j_iload_n E 0 rfl dX12_readBottle_52 ?_
        obtain ⟨r8, M7, h11, hf⟩ := bn2_e hf
        refine j_invV [] [.int r8] E (c_X12_bottleNow h11) ml_X12_332 mv_X12_bottleNow rfl ⟨le_ rfl, le_ rfl⟩ (rcM cf_X12) rfl rfl (le_ rfl) ⟨le_ rfl, le_ rfl⟩ dX12_readBottle_53 ?_
        refine j_istore_n (ls' := [(3, .int r8), (2, .int r2), (1, .int r1), (0, .ref (z + aM 0))]) E (lt_ rfl) rfl dX12_readBottle_56 ?_
        cases hf
        exact j_vret E (le_ rfl) (le_ rfl) dX12_readBottle_57
    · rw [if_pos c3] at hf
      refine j_iconst E 1 ic_1 dX12_readBottle_35 ?_
      refine j_goto E 40 (by decide) dX12_readBottle_36 ?_
      obtain ⟨M8, h12, hf⟩ := bn1_e hf
      refine j_invV [] [] E (c_X12_takeEnd h12) ml_X12_311 mv_X12_takeEnd rfl ⟨le_ rfl, le_ rfl⟩ (rcM cf_X12) rfl rfl (le_ rfl) ⟨le_ rfl, le_ rfl⟩ dX12_readBottle_40 ?_
      refine j_aload_n E 2 rfl dX12_readBottle_43 ?_
      obtain ⟨r9, h13, hf⟩ := bn1_e hf
      refine j_invV [] [.int r9] E (c_X12_isGood h13) ml_X12_275 mv_X12_isGood rfl ⟨le_ rfl, le_ rfl⟩ (rcM cf_X12) rfl rfl (le_ rfl) ⟨le_ rfl, le_ rfl⟩ dX12_readBottle_44 ?_
      refine j_if_eq E 57 (by decide) dX12_readBottle_47 (fun c5 => ?_) (fun c5 => ?_)
      · rw [if_pos c5] at hf
        cases hf
        exact j_vret E (le_ rfl) (le_ rfl) dX12_readBottle_57
      · rw [if_neg c5] at hf
        refine j_aload_n E 2 rfl dX12_readBottle_50 ?_
        refine j_iload_n E 1 rfl dX12_readBottle_51 ?_
        refine j_iload_n E 0 rfl dX12_readBottle_52 ?_
        obtain ⟨r10, M9, h14, hf⟩ := bn2_e hf
        refine j_invV [] [.int r10] E (c_X12_bottleNow h14) ml_X12_332 mv_X12_bottleNow rfl ⟨le_ rfl, le_ rfl⟩ (rcM cf_X12) rfl rfl (le_ rfl) ⟨le_ rfl, le_ rfl⟩ dX12_readBottle_53 ?_
        refine j_istore_n (ls' := [(3, .int r10), (2, .int r2), (1, .int r1), (0, .ref (z + aM 0))]) E (lt_ rfl) rfl dX12_readBottle_56 ?_
        cases hf
        exact j_vret E (le_ rfl) (le_ rfl) dX12_readBottle_57
def f_X12_readSell (M : MT) : Option MT :=
  bn1 (f_X12_goOn M) (fun M1 => bn2 (f_X12_takeNumber M1 0 ((M1.1 M1.2.2 9) - 1)) (fun r1 M2 => bn2 (f_X12_takeNumber M2 1 20000) (fun r2 M3 => bn2 (f_X12_takeNumber M3 1 9999) (fun r3 M4 => bn1 (f_X12_isGood M4) (fun r4 => if r4 = 0 then (bn1 (f_X12_takeEnd M4 0) (fun M5 => bn1 (f_X12_isGood M5) (fun r5 => if r5 = 0 then (some M5) else (bn2 (f_X12_sellNow M5 r1 r2 r3) (fun r6 M6 => some M6))))) else (bn1 (f_X12_maySell M4 r1 r2 r3) (fun r7 => if r7 = 0 then (bn1 (f_X12_takeEnd M4 1) (fun M9 => bn1 (f_X12_isGood M9) (fun r10 => if r10 = 0 then (some M9) else (bn2 (f_X12_sellNow M9 r1 r2 r3) (fun r11 M10 => some M10))))) else (bn1 (f_X12_takeEnd M4 0) (fun M7 => bn1 (f_X12_isGood M7) (fun r8 => if r8 = 0 then (some M7) else (bn2 (f_X12_sellNow M7 r1 r2 r3) (fun r9 M8 => some M8))))))))))))
set_option maxRecDepth 20000 in
theorem c_X12_readSell {l : Launch} {D : DD} {z : Nat} {X : XT} {o : Int64} {f1 : Nat} {M : MT} {M' : MT} (hf : f_X12_readSell M = some M') : CC l yX12_readSell cX12_readSell 5 none (rmk 4 0 0) D z [.ref (z + aM 0)] (GG D z (X, (f1 + 1, M, o))) none (GG D z (X, (f1 + 1, M', o))) := by
  unfold f_X12_readSell at hf
  refine cc_of pn_X12 (le_ rfl) (ls := [(0, .ref (z + aM 0))]) rfl ?_
  intro p e s m args below meth c E
  refine j_aload_n E 0 rfl dX12_readSell_0 ?_
  obtain ⟨M1, h1, hf⟩ := bn1_e hf
  refine j_invV [] [] E (c_X12_goOn h1) ml_X12_259 mv_X12_goOn rfl ⟨le_ rfl, le_ rfl⟩ (rcM cf_X12) rfl rfl (le_ rfl) ⟨le_ rfl, le_ rfl⟩ dX12_readSell_1 ?_
  refine j_aload_n E 0 rfl dX12_readSell_4 ?_
  refine j_iconst E 0 ic_0 dX12_readSell_5 ?_
  refine j_aload_n E 0 rfl dX12_readSell_6 ?_
  refine j_getM (f := 3) E cf_X12 fl_X12_24 (lt_ rfl) rfl rfl dX12_readSell_7 ?_
  refine j_bipush E 9 bp_9 dX12_readSell_10 ?_
  refine j_ialdR E rfl (vi_9 (lt_ rfl)) (9) tn_9 dX12_readSell_12 ?_
  refine j_iconst E 1 ic_1 dX12_readSell_13 ?_
  refine j_isub E dX12_readSell_14 ?_
  obtain ⟨r1, M2, h2, hf⟩ := bn2_e hf
  refine j_invV [] [.int r1] E (c_X12_takeNumber h2) ml_X12_308 mv_X12_takeNumber rfl ⟨le_ rfl, le_ rfl⟩ (rcM cf_X12) rfl rfl (le_ rfl) ⟨le_ rfl, le_ rfl⟩ dX12_readSell_15 ?_
  refine j_istore_n (ls' := [(1, .int r1), (0, .ref (z + aM 0))]) E (lt_ rfl) rfl dX12_readSell_18 ?_
  refine j_aload_n E 1 rfl dX12_readSell_19 ?_
  refine j_iconst E 1 ic_1 dX12_readSell_20 ?_
  refine j_sipush E 20000 sp_20000 dX12_readSell_21 ?_
  obtain ⟨r2, M3, h3, hf⟩ := bn2_e hf
  refine j_invV [] [.int r2] E (c_X12_takeNumber h3) ml_X12_308 mv_X12_takeNumber rfl ⟨le_ rfl, le_ rfl⟩ (rcM cf_X12) rfl rfl (le_ rfl) ⟨le_ rfl, le_ rfl⟩ dX12_readSell_24 ?_
  refine j_istore_n (ls' := [(2, .int r2), (1, .int r1), (0, .ref (z + aM 0))]) E (lt_ rfl) rfl dX12_readSell_27 ?_
  refine j_aload_n E 2 rfl dX12_readSell_28 ?_
  refine j_iconst E 1 ic_1 dX12_readSell_29 ?_
  refine j_sipush E 9999 sp_9999 dX12_readSell_30 ?_
  obtain ⟨r3, M4, h4, hf⟩ := bn2_e hf
  refine j_invV [] [.int r3] E (c_X12_takeNumber h4) ml_X12_308 mv_X12_takeNumber rfl ⟨le_ rfl, le_ rfl⟩ (rcM cf_X12) rfl rfl (le_ rfl) ⟨le_ rfl, le_ rfl⟩ dX12_readSell_33 ?_
  refine j_istore_n (ls' := [(3, .int r3), (2, .int r2), (1, .int r1), (0, .ref (z + aM 0))]) E (lt_ rfl) rfl dX12_readSell_36 ?_
  refine j_aload_n E 3 rfl dX12_readSell_37 ?_
  refine j_aload_n E 3 rfl dX12_readSell_38 ?_
  obtain ⟨r4, h5, hf⟩ := bn1_e hf
  refine j_invV [.ref (z + aM 0)] [.int r4, .ref (z + aM 0)] E (c_X12_isGood h5) ml_X12_275 mv_X12_isGood rfl ⟨le_ rfl, le_ rfl⟩ (rcM cf_X12) rfl rfl (le_ rfl) ⟨le_ rfl, le_ rfl⟩ dX12_readSell_39 ?_
  refine j_if_eq E 59 (by decide) dX12_readSell_42 (fun c1 => ?_) (fun c1 => ?_)
  · rw [if_pos c1] at hf
    refine j_iconst E 0 ic_0 dX12_readSell_59 ?_
    obtain ⟨M5, h6, hf⟩ := bn1_e hf
    refine j_invV [] [] E (c_X12_takeEnd h6) ml_X12_311 mv_X12_takeEnd rfl ⟨le_ rfl, le_ rfl⟩ (rcM cf_X12) rfl rfl (le_ rfl) ⟨le_ rfl, le_ rfl⟩ dX12_readSell_60 ?_
    refine j_aload_n E 3 rfl dX12_readSell_63 ?_
    obtain ⟨r5, h7, hf⟩ := bn1_e hf
    refine j_invV [] [.int r5] E (c_X12_isGood h7) ml_X12_275 mv_X12_isGood rfl ⟨le_ rfl, le_ rfl⟩ (rcM cf_X12) rfl rfl (le_ rfl) ⟨le_ rfl, le_ rfl⟩ dX12_readSell_64 ?_
    refine j_if_eq E 79 (by decide) dX12_readSell_67 (fun c2 => ?_) (fun c2 => ?_)
    · rw [if_pos c2] at hf
      cases hf
      exact j_vret E (le_ rfl) (le_ rfl) dX12_readSell_79
    · rw [if_neg c2] at hf
      refine j_aload_n E 3 rfl dX12_readSell_70 ?_
      refine j_iload_n E 2 rfl dX12_readSell_71 ?_
      refine j_iload_n E 1 rfl dX12_readSell_72 ?_
      refine j_iload_n E 0 rfl dX12_readSell_73 ?_
      obtain ⟨r6, M6, h8, hf⟩ := bn2_e hf
      refine j_invV [] [.int r6] E (c_X12_sellNow h8) ml_X12_339 mv_X12_sellNow rfl ⟨le_ rfl, le_ rfl⟩ (rcM cf_X12) rfl rfl (le_ rfl) ⟨le_ rfl, le_ rfl⟩ dX12_readSell_74 ?_
      refine j_istore (ls' := [(4, .int r6), (3, .int r3), (2, .int r2), (1, .int r1), (0, .ref (z + aM 0))]) E (lt_ rfl) rfl dX12_readSell_77 ?_
      cases hf
      exact j_vret E (le_ rfl) (le_ rfl) dX12_readSell_79
  · rw [if_neg c1] at hf
    refine j_aload_n E 3 rfl dX12_readSell_45 ?_
    refine j_iload_n E 2 rfl dX12_readSell_46 ?_
    refine j_iload_n E 1 rfl dX12_readSell_47 ?_
    refine j_iload_n E 0 rfl dX12_readSell_48 ?_
    obtain ⟨r7, h9, hf⟩ := bn1_e hf
    refine j_invV [.ref (z + aM 0)] [.int r7, .ref (z + aM 0)] E (c_X12_maySell h9) ml_X12_335 mv_X12_maySell rfl ⟨le_ rfl, le_ rfl⟩ (rcM cf_X12) rfl rfl (le_ rfl) ⟨le_ rfl, le_ rfl⟩ dX12_readSell_49 ?_
    refine j_if_ne E 59 (by decide) dX12_readSell_52 (fun c3 => ?_) (fun c3 => ?_)
    · rw [if_neg c3] at hf
      refine j_iconst E 0 ic_0 dX12_readSell_59 ?_
      obtain ⟨M7, h10, hf⟩ := bn1_e hf
      refine j_invV [] [] E (c_X12_takeEnd h10) ml_X12_311 mv_X12_takeEnd rfl ⟨le_ rfl, le_ rfl⟩ (rcM cf_X12) rfl rfl (le_ rfl) ⟨le_ rfl, le_ rfl⟩ dX12_readSell_60 ?_
      refine j_aload_n E 3 rfl dX12_readSell_63 ?_
      obtain ⟨r8, h11, hf⟩ := bn1_e hf
      refine j_invV [] [.int r8] E (c_X12_isGood h11) ml_X12_275 mv_X12_isGood rfl ⟨le_ rfl, le_ rfl⟩ (rcM cf_X12) rfl rfl (le_ rfl) ⟨le_ rfl, le_ rfl⟩ dX12_readSell_64 ?_
      refine j_if_eq E 79 (by decide) dX12_readSell_67 (fun c4 => ?_) (fun c4 => ?_)
      · rw [if_pos c4] at hf
        cases hf
        exact j_vret E (le_ rfl) (le_ rfl) dX12_readSell_79
      · rw [if_neg c4] at hf
        refine j_aload_n E 3 rfl dX12_readSell_70 ?_
        refine j_iload_n E 2 rfl dX12_readSell_71 ?_
        refine j_iload_n E 1 rfl dX12_readSell_72 ?_
        refine j_iload_n E 0 rfl dX12_readSell_73 ?_
        obtain ⟨r9, M8, h12, hf⟩ := bn2_e hf
        refine j_invV [] [.int r9] E (c_X12_sellNow h12) ml_X12_339 mv_X12_sellNow rfl ⟨le_ rfl, le_ rfl⟩ (rcM cf_X12) rfl rfl (le_ rfl) ⟨le_ rfl, le_ rfl⟩ dX12_readSell_74 ?_
        refine j_istore (ls' := [(4, .int r9), (3, .int r3), (2, .int r2), (1, .int r1), (0, .ref (z + aM 0))]) E (lt_ rfl) rfl dX12_readSell_77 ?_
        cases hf
        exact j_vret E (le_ rfl) (le_ rfl) dX12_readSell_79
    · rw [if_pos c3] at hf
      refine j_iconst E 1 ic_1 dX12_readSell_55 ?_
      refine j_goto E 60 (by decide) dX12_readSell_56 ?_
      obtain ⟨M9, h13, hf⟩ := bn1_e hf
      refine j_invV [] [] E (c_X12_takeEnd h13) ml_X12_311 mv_X12_takeEnd rfl ⟨le_ rfl, le_ rfl⟩ (rcM cf_X12) rfl rfl (le_ rfl) ⟨le_ rfl, le_ rfl⟩ dX12_readSell_60 ?_
      refine j_aload_n E 3 rfl dX12_readSell_63 ?_
      obtain ⟨r10, h14, hf⟩ := bn1_e hf
      refine j_invV [] [.int r10] E (c_X12_isGood h14) ml_X12_275 mv_X12_isGood rfl ⟨le_ rfl, le_ rfl⟩ (rcM cf_X12) rfl rfl (le_ rfl) ⟨le_ rfl, le_ rfl⟩ dX12_readSell_64 ?_
      refine j_if_eq E 79 (by decide) dX12_readSell_67 (fun c5 => ?_) (fun c5 => ?_)
      · rw [if_pos c5] at hf
        cases hf
        exact j_vret E (le_ rfl) (le_ rfl) dX12_readSell_79
      · rw [if_neg c5] at hf
        refine j_aload_n E 3 rfl dX12_readSell_70 ?_
        refine j_iload_n E 2 rfl dX12_readSell_71 ?_
        refine j_iload_n E 1 rfl dX12_readSell_72 ?_
        refine j_iload_n E 0 rfl dX12_readSell_73 ?_
        obtain ⟨r11, M10, h15, hf⟩ := bn2_e hf
        refine j_invV [] [.int r11] E (c_X12_sellNow h15) ml_X12_339 mv_X12_sellNow rfl ⟨le_ rfl, le_ rfl⟩ (rcM cf_X12) rfl rfl (le_ rfl) ⟨le_ rfl, le_ rfl⟩ dX12_readSell_74 ?_
        refine j_istore (ls' := [(4, .int r11), (3, .int r3), (2, .int r2), (1, .int r1), (0, .ref (z + aM 0))]) E (lt_ rfl) rfl dX12_readSell_77 ?_
        cases hf
        exact j_vret E (le_ rfl) (le_ rfl) dX12_readSell_79
def f_X12_readPay (M : MT) : Option MT :=
  bn1 (f_X12_goOn M) (fun M1 => bn2 (f_X12_takeNamed M1 0) (fun r1 M2 => bn1 (f_X12_isGood M2) (fun r2 => if r2 = 0 then (bn1 (f_X12_takeEnd M2 0) (fun M3 => bn1 (f_X12_isGood M3) (fun r3 => if r3 = 0 then (some M3) else (bn2 (f_X12_payAllOf M3 r1) (fun r4 M4 => some M4))))) else (bn1 (f_X12_mayPayGrower M2 r1) (fun r5 => if r5 = 0 then (bn1 (f_X12_takeEnd M2 1) (fun M7 => bn1 (f_X12_isGood M7) (fun r8 => if r8 = 0 then (some M7) else (bn2 (f_X12_payAllOf M7 r1) (fun r9 M8 => some M8))))) else (bn1 (f_X12_takeEnd M2 0) (fun M5 => bn1 (f_X12_isGood M5) (fun r6 => if r6 = 0 then (some M5) else (bn2 (f_X12_payAllOf M5 r1) (fun r7 M6 => some M6))))))))))
set_option maxRecDepth 20000 in
theorem c_X12_readPay {l : Launch} {D : DD} {z : Nat} {X : XT} {o : Int64} {f1 : Nat} {M : MT} {M' : MT} (hf : f_X12_readPay M = some M') : CC l yX12_readPay cX12_readPay 3 none (rmk 6 0 0) D z [.ref (z + aM 0)] (GG D z (X, (f1 + 1, M, o))) none (GG D z (X, (f1 + 1, M', o))) := by
  unfold f_X12_readPay at hf
  refine cc_of pn_X12 (le_ rfl) (ls := [(0, .ref (z + aM 0))]) rfl ?_
  intro p e s m args below meth c E
  refine j_aload_n E 0 rfl dX12_readPay_0 ?_
  obtain ⟨M1, h1, hf⟩ := bn1_e hf
  refine j_invV [] [] E (c_X12_goOn h1) ml_X12_259 mv_X12_goOn rfl ⟨le_ rfl, le_ rfl⟩ (rcM cf_X12) rfl rfl (le_ rfl) ⟨le_ rfl, le_ rfl⟩ dX12_readPay_1 ?_
  refine j_aload_n E 0 rfl dX12_readPay_4 ?_
  refine j_iconst E 0 ic_0 dX12_readPay_5 ?_
  obtain ⟨r1, M2, h2, hf⟩ := bn2_e hf
  refine j_invV [] [.int r1] E (c_X12_takeNamed h2) ml_X12_319 mv_X12_takeNamed rfl ⟨le_ rfl, le_ rfl⟩ (rcM cf_X12) rfl rfl (le_ rfl) ⟨le_ rfl, le_ rfl⟩ dX12_readPay_6 ?_
  refine j_istore_n (ls' := [(1, .int r1), (0, .ref (z + aM 0))]) E (lt_ rfl) rfl dX12_readPay_9 ?_
  refine j_aload_n E 1 rfl dX12_readPay_10 ?_
  refine j_aload_n E 1 rfl dX12_readPay_11 ?_
  obtain ⟨r2, h3, hf⟩ := bn1_e hf
  refine j_invV [.ref (z + aM 0)] [.int r2, .ref (z + aM 0)] E (c_X12_isGood h3) ml_X12_275 mv_X12_isGood rfl ⟨le_ rfl, le_ rfl⟩ (rcM cf_X12) rfl rfl (le_ rfl) ⟨le_ rfl, le_ rfl⟩ dX12_readPay_12 ?_
  refine j_if_eq E 30 (by decide) dX12_readPay_15 (fun c1 => ?_) (fun c1 => ?_)
  · rw [if_pos c1] at hf
    refine j_iconst E 0 ic_0 dX12_readPay_30 ?_
    obtain ⟨M3, h4, hf⟩ := bn1_e hf
    refine j_invV [] [] E (c_X12_takeEnd h4) ml_X12_311 mv_X12_takeEnd rfl ⟨le_ rfl, le_ rfl⟩ (rcM cf_X12) rfl rfl (le_ rfl) ⟨le_ rfl, le_ rfl⟩ dX12_readPay_31 ?_
    refine j_aload_n E 1 rfl dX12_readPay_34 ?_
    obtain ⟨r3, h5, hf⟩ := bn1_e hf
    refine j_invV [] [.int r3] E (c_X12_isGood h5) ml_X12_275 mv_X12_isGood rfl ⟨le_ rfl, le_ rfl⟩ (rcM cf_X12) rfl rfl (le_ rfl) ⟨le_ rfl, le_ rfl⟩ dX12_readPay_35 ?_
    refine j_if_eq E 47 (by decide) dX12_readPay_38 (fun c2 => ?_) (fun c2 => ?_)
    · rw [if_pos c2] at hf
      cases hf
      exact j_vret E (le_ rfl) (le_ rfl) dX12_readPay_47
    · rw [if_neg c2] at hf
      refine j_aload_n E 1 rfl dX12_readPay_41 ?_
      refine j_iload_n E 0 rfl dX12_readPay_42 ?_
      obtain ⟨r4, M4, h6, hf⟩ := bn2_e hf
      refine j_invV [] [.int r4] E (c_X12_payAllOf h6) ml_X12_345 mv_X12_payAllOf rfl ⟨le_ rfl, le_ rfl⟩ (rcM cf_X12) rfl rfl (le_ rfl) ⟨le_ rfl, le_ rfl⟩ dX12_readPay_43 ?_
      refine j_istore_n (ls' := [(2, .int r4), (1, .int r1), (0, .ref (z + aM 0))]) E (lt_ rfl) rfl dX12_readPay_46 ?_
      cases hf
      exact j_vret E (le_ rfl) (le_ rfl) dX12_readPay_47
  · rw [if_neg c1] at hf
    refine j_aload_n E 1 rfl dX12_readPay_18 ?_
    refine j_iload_n E 0 rfl dX12_readPay_19 ?_
    obtain ⟨r5, h7, hf⟩ := bn1_e hf
    refine j_invV [.ref (z + aM 0)] [.int r5, .ref (z + aM 0)] E (c_X12_mayPayGrower h7) ml_X12_342 mv_X12_mayPayGrower rfl ⟨le_ rfl, le_ rfl⟩ (rcM cf_X12) rfl rfl (le_ rfl) ⟨le_ rfl, le_ rfl⟩ dX12_readPay_20 ?_
    refine j_if_ne E 30 (by decide) dX12_readPay_23 (fun c3 => ?_) (fun c3 => ?_)
    · rw [if_neg c3] at hf
      refine j_iconst E 0 ic_0 dX12_readPay_30 ?_
      obtain ⟨M5, h8, hf⟩ := bn1_e hf
      refine j_invV [] [] E (c_X12_takeEnd h8) ml_X12_311 mv_X12_takeEnd rfl ⟨le_ rfl, le_ rfl⟩ (rcM cf_X12) rfl rfl (le_ rfl) ⟨le_ rfl, le_ rfl⟩ dX12_readPay_31 ?_
      refine j_aload_n E 1 rfl dX12_readPay_34 ?_
      obtain ⟨r6, h9, hf⟩ := bn1_e hf
      refine j_invV [] [.int r6] E (c_X12_isGood h9) ml_X12_275 mv_X12_isGood rfl ⟨le_ rfl, le_ rfl⟩ (rcM cf_X12) rfl rfl (le_ rfl) ⟨le_ rfl, le_ rfl⟩ dX12_readPay_35 ?_
      refine j_if_eq E 47 (by decide) dX12_readPay_38 (fun c4 => ?_) (fun c4 => ?_)
      · rw [if_pos c4] at hf
        cases hf
        exact j_vret E (le_ rfl) (le_ rfl) dX12_readPay_47
      · rw [if_neg c4] at hf
        refine j_aload_n E 1 rfl dX12_readPay_41 ?_
        refine j_iload_n E 0 rfl dX12_readPay_42 ?_
        obtain ⟨r7, M6, h10, hf⟩ := bn2_e hf
        refine j_invV [] [.int r7] E (c_X12_payAllOf h10) ml_X12_345 mv_X12_payAllOf rfl ⟨le_ rfl, le_ rfl⟩ (rcM cf_X12) rfl rfl (le_ rfl) ⟨le_ rfl, le_ rfl⟩ dX12_readPay_43 ?_
        refine j_istore_n (ls' := [(2, .int r7), (1, .int r1), (0, .ref (z + aM 0))]) E (lt_ rfl) rfl dX12_readPay_46 ?_
        cases hf
        exact j_vret E (le_ rfl) (le_ rfl) dX12_readPay_47
    · rw [if_pos c3] at hf
      refine j_iconst E 1 ic_1 dX12_readPay_26 ?_
      refine j_goto E 31 (by decide) dX12_readPay_27 ?_
      obtain ⟨M7, h11, hf⟩ := bn1_e hf
      refine j_invV [] [] E (c_X12_takeEnd h11) ml_X12_311 mv_X12_takeEnd rfl ⟨le_ rfl, le_ rfl⟩ (rcM cf_X12) rfl rfl (le_ rfl) ⟨le_ rfl, le_ rfl⟩ dX12_readPay_31 ?_
      refine j_aload_n E 1 rfl dX12_readPay_34 ?_
      obtain ⟨r8, h12, hf⟩ := bn1_e hf
      refine j_invV [] [.int r8] E (c_X12_isGood h12) ml_X12_275 mv_X12_isGood rfl ⟨le_ rfl, le_ rfl⟩ (rcM cf_X12) rfl rfl (le_ rfl) ⟨le_ rfl, le_ rfl⟩ dX12_readPay_35 ?_
      refine j_if_eq E 47 (by decide) dX12_readPay_38 (fun c5 => ?_) (fun c5 => ?_)
      · rw [if_pos c5] at hf
        cases hf
        exact j_vret E (le_ rfl) (le_ rfl) dX12_readPay_47
      · rw [if_neg c5] at hf
        refine j_aload_n E 1 rfl dX12_readPay_41 ?_
        refine j_iload_n E 0 rfl dX12_readPay_42 ?_
        obtain ⟨r9, M8, h13, hf⟩ := bn2_e hf
        refine j_invV [] [.int r9] E (c_X12_payAllOf h13) ml_X12_345 mv_X12_payAllOf rfl ⟨le_ rfl, le_ rfl⟩ (rcM cf_X12) rfl rfl (le_ rfl) ⟨le_ rfl, le_ rfl⟩ dX12_readPay_43 ?_
        refine j_istore_n (ls' := [(2, .int r9), (1, .int r1), (0, .ref (z + aM 0))]) E (lt_ rfl) rfl dX12_readPay_46 ?_
        cases hf
        exact j_vret E (le_ rfl) (le_ rfl) dX12_readPay_47
def f_X12_readPump (M : MT) : Option MT :=
  bn1 (f_X12_goOn M) (fun M1 => bn2 (f_X12_takeTank M1) (fun r1 M2 => bn2 (f_X12_lookNumber M2 0 ((M2.1 M2.2.2 8) - 1)) (fun r2 M3 => if r2 = r1 then (bn1 (f_X12_requireNot M3 1 3) (fun M18 => bn1 (f_X12_isGood M18) (fun r20 => if r20 = 0 then (bn1 (f_X12_isGood M18) (fun r21 => if r21 = 0 then (bn1 (f_X12_takeEnd M18 0) (fun M19 => bn1 (f_X12_isGood M19) (fun r22 => if r22 = 0 then (some M19) else (bn2 (f_X12_pumpNow M19 r1 r2) (fun r23 M20 => some M20))))) else (bn1 (f_X12_mayPump M18 r1 r2) (fun r24 => if r24 = 0 then (bn1 (f_X12_takeEnd M18 1) (fun M23 => bn1 (f_X12_isGood M23) (fun r27 => if r27 = 0 then (some M23) else (bn2 (f_X12_pumpNow M23 r1 r2) (fun r28 M24 => some M24))))) else (bn1 (f_X12_takeEnd M18 0) (fun M21 => bn1 (f_X12_isGood M21) (fun r25 => if r25 = 0 then (some M21) else (bn2 (f_X12_pumpNow M21 r1 r2) (fun r26 M22 => some M22))))))))) else (bn1 (f_X12_goOn M18) (fun M25 => bn1 (f_X12_isGood M25) (fun r29 => if r29 = 0 then (bn1 (f_X12_takeEnd M25 0) (fun M26 => bn1 (f_X12_isGood M26) (fun r30 => if r30 = 0 then (some M26) else (bn2 (f_X12_pumpNow M26 r1 r2) (fun r31 M27 => some M27))))) else (bn1 (f_X12_mayPump M25 r1 r2) (fun r32 => if r32 = 0 then (bn1 (f_X12_takeEnd M25 1) (fun M30 => bn1 (f_X12_isGood M30) (fun r35 => if r35 = 0 then (some M30) else (bn2 (f_X12_pumpNow M30 r1 r2) (fun r36 M31 => some M31))))) else (bn1 (f_X12_takeEnd M25 0) (fun M28 => bn1 (f_X12_isGood M28) (fun r33 => if r33 = 0 then (some M28) else (bn2 (f_X12_pumpNow M28 r1 r2) (fun r34 M29 => some M29))))))))))))) else (bn1 (f_X12_requireNot M3 0 3) (fun M4 => bn1 (f_X12_isGood M4) (fun r3 => if r3 = 0 then (bn1 (f_X12_isGood M4) (fun r4 => if r4 = 0 then (bn1 (f_X12_takeEnd M4 0) (fun M5 => bn1 (f_X12_isGood M5) (fun r5 => if r5 = 0 then (some M5) else (bn2 (f_X12_pumpNow M5 r1 r2) (fun r6 M6 => some M6))))) else (bn1 (f_X12_mayPump M4 r1 r2) (fun r7 => if r7 = 0 then (bn1 (f_X12_takeEnd M4 1) (fun M9 => bn1 (f_X12_isGood M9) (fun r10 => if r10 = 0 then (some M9) else (bn2 (f_X12_pumpNow M9 r1 r2) (fun r11 M10 => some M10))))) else (bn1 (f_X12_takeEnd M4 0) (fun M7 => bn1 (f_X12_isGood M7) (fun r8 => if r8 = 0 then (some M7) else (bn2 (f_X12_pumpNow M7 r1 r2) (fun r9 M8 => some M8))))))))) else (bn1 (f_X12_goOn M4) (fun M11 => bn1 (f_X12_isGood M11) (fun r12 => if r12 = 0 then (bn1 (f_X12_takeEnd M11 0) (fun M12 => bn1 (f_X12_isGood M12) (fun r13 => if r13 = 0 then (some M12) else (bn2 (f_X12_pumpNow M12 r1 r2) (fun r14 M13 => some M13))))) else (bn1 (f_X12_mayPump M11 r1 r2) (fun r15 => if r15 = 0 then (bn1 (f_X12_takeEnd M11 1) (fun M16 => bn1 (f_X12_isGood M16) (fun r18 => if r18 = 0 then (some M16) else (bn2 (f_X12_pumpNow M16 r1 r2) (fun r19 M17 => some M17))))) else (bn1 (f_X12_takeEnd M11 0) (fun M14 => bn1 (f_X12_isGood M14) (fun r16 => if r16 = 0 then (some M14) else (bn2 (f_X12_pumpNow M14 r1 r2) (fun r17 M15 => some M15))))))))))))))))
set_option maxRecDepth 20000 in
theorem c_X12_readPump {l : Launch} {D : DD} {z : Nat} {X : XT} {o : Int64} {f1 : Nat} {M : MT} {M' : MT} (hf : f_X12_readPump M = some M') : CC l yX12_readPump cX12_readPump 4 none (rmk 5 0 0) D z [.ref (z + aM 0)] (GG D z (X, (f1 + 1, M, o))) none (GG D z (X, (f1 + 1, M', o))) := by
  unfold f_X12_readPump at hf
  refine cc_of pn_X12 (le_ rfl) (ls := [(0, .ref (z + aM 0))]) rfl ?_
  intro p e s m args below meth c E
  refine j_aload_n E 0 rfl dX12_readPump_0 ?_
  obtain ⟨M1, h1, hf⟩ := bn1_e hf
  refine j_invV [] [] E (c_X12_goOn h1) ml_X12_259 mv_X12_goOn rfl ⟨le_ rfl, le_ rfl⟩ (rcM cf_X12) rfl rfl (le_ rfl) ⟨le_ rfl, le_ rfl⟩ dX12_readPump_1 ?_
  refine j_aload_n E 0 rfl dX12_readPump_4 ?_
  obtain ⟨r1, M2, h2, hf⟩ := bn2_e hf
  refine j_invV [] [.int r1] E (c_X12_takeTank h2) ml_X12_326 mv_X12_takeTank rfl ⟨le_ rfl, le_ rfl⟩ (rcM cf_X12) rfl rfl (le_ rfl) ⟨le_ rfl, le_ rfl⟩ dX12_readPump_5 ?_
  refine j_istore_n (ls' := [(1, .int r1), (0, .ref (z + aM 0))]) E (lt_ rfl) rfl dX12_readPump_8 ?_
  refine j_aload_n E 1 rfl dX12_readPump_9 ?_
  refine j_iconst E 0 ic_0 dX12_readPump_10 ?_
  refine j_aload_n E 1 rfl dX12_readPump_11 ?_
  refine j_getM (f := 3) E cf_X12 fl_X12_24 (lt_ rfl) rfl rfl dX12_readPump_12 ?_
  refine j_bipush E 8 bp_8 dX12_readPump_15 ?_
  refine j_ialdR E rfl (vi_8 (lt_ rfl)) (8) tn_8 dX12_readPump_17 ?_
  refine j_iconst E 1 ic_1 dX12_readPump_18 ?_
  refine j_isub E dX12_readPump_19 ?_
  obtain ⟨r2, M3, h3, hf⟩ := bn2_e hf
  refine j_invV [] [.int r2] E (c_X12_lookNumber h3) ml_X12_286 mv_X12_lookNumber rfl ⟨le_ rfl, le_ rfl⟩ (rcM cf_X12) rfl rfl (le_ rfl) ⟨le_ rfl, le_ rfl⟩ dX12_readPump_20 ?_
  refine j_istore_n (ls' := [(2, .int r2), (1, .int r1), (0, .ref (z + aM 0))]) E (lt_ rfl) rfl dX12_readPump_23 ?_
  refine j_aload_n E 2 rfl dX12_readPump_24 ?_
  refine j_iload_n E 0 rfl dX12_readPump_25 ?_
  refine j_iload_n E 1 rfl dX12_readPump_26 ?_
  refine j_icmp_ne E 34 (by decide) dX12_readPump_27 (fun c1 => ?_) (fun c1 => ?_)
  · rw [if_neg c1] at hf
    refine j_iconst E 0 ic_0 dX12_readPump_34 ?_
    refine j_iconst E 3 ic_3 dX12_readPump_35 ?_
    obtain ⟨M4, h4, hf⟩ := bn1_e hf
    refine j_invV [] [] E (c_X12_requireNot h4) ml_X12_289 mv_X12_requireNot rfl ⟨le_ rfl, le_ rfl⟩ (rcM cf_X12) rfl rfl (le_ rfl) ⟨le_ rfl, le_ rfl⟩ dX12_readPump_36 ?_
    refine j_aload_n E 2 rfl dX12_readPump_39 ?_
    obtain ⟨r3, h5, hf⟩ := bn1_e hf
    refine j_invV [] [.int r3] E (c_X12_isGood h5) ml_X12_275 mv_X12_isGood rfl ⟨le_ rfl, le_ rfl⟩ (rcM cf_X12) rfl rfl (le_ rfl) ⟨le_ rfl, le_ rfl⟩ dX12_readPump_40 ?_
    refine j_if_eq E 50 (by decide) dX12_readPump_43 (fun c2 => ?_) (fun c2 => ?_)
    · rw [if_pos c2] at hf
      refine j_aload_n E 2 rfl dX12_readPump_50 ?_
      refine j_aload_n E 2 rfl dX12_readPump_51 ?_
      obtain ⟨r4, h6, hf⟩ := bn1_e hf
      refine j_invV [.ref (z + aM 0)] [.int r4, .ref (z + aM 0)] E (c_X12_isGood h6) ml_X12_275 mv_X12_isGood rfl ⟨le_ rfl, le_ rfl⟩ (rcM cf_X12) rfl rfl (le_ rfl) ⟨le_ rfl, le_ rfl⟩ dX12_readPump_52 ?_
      refine j_if_eq E 71 (by decide) dX12_readPump_55 (fun c3 => ?_) (fun c3 => ?_)
      · rw [if_pos c3] at hf
        refine j_iconst E 0 ic_0 dX12_readPump_71 ?_
        obtain ⟨M5, h7, hf⟩ := bn1_e hf
        refine j_invV [] [] E (c_X12_takeEnd h7) ml_X12_311 mv_X12_takeEnd rfl ⟨le_ rfl, le_ rfl⟩ (rcM cf_X12) rfl rfl (le_ rfl) ⟨le_ rfl, le_ rfl⟩ dX12_readPump_72 ?_
        refine j_aload_n E 2 rfl dX12_readPump_75 ?_
        obtain ⟨r5, h8, hf⟩ := bn1_e hf
        refine j_invV [] [.int r5] E (c_X12_isGood h8) ml_X12_275 mv_X12_isGood rfl ⟨le_ rfl, le_ rfl⟩ (rcM cf_X12) rfl rfl (le_ rfl) ⟨le_ rfl, le_ rfl⟩ dX12_readPump_76 ?_
        refine j_if_eq E 89 (by decide) dX12_readPump_79 (fun c4 => ?_) (fun c4 => ?_)
        · rw [if_pos c4] at hf
          cases hf
          exact j_vret E (le_ rfl) (le_ rfl) dX12_readPump_89
        · rw [if_neg c4] at hf
          refine j_aload_n E 2 rfl dX12_readPump_82 ?_
          refine j_iload_n E 1 rfl dX12_readPump_83 ?_
          refine j_iload_n E 0 rfl dX12_readPump_84 ?_
          obtain ⟨r6, M6, h9, hf⟩ := bn2_e hf
          refine j_invV [] [.int r6] E (c_X12_pumpNow h9) ml_X12_351 mv_X12_pumpNow rfl ⟨le_ rfl, le_ rfl⟩ (rcM cf_X12) rfl rfl (le_ rfl) ⟨le_ rfl, le_ rfl⟩ dX12_readPump_85 ?_
          refine j_istore_n (ls' := [(3, .int r6), (2, .int r2), (1, .int r1), (0, .ref (z + aM 0))]) E (lt_ rfl) rfl dX12_readPump_88 ?_
          cases hf
          exact j_vret E (le_ rfl) (le_ rfl) dX12_readPump_89
      · rw [if_neg c3] at hf
        refine j_aload_n E 2 rfl dX12_readPump_58 ?_
        refine j_iload_n E 1 rfl dX12_readPump_59 ?_
        refine j_iload_n E 0 rfl dX12_readPump_60 ?_
        obtain ⟨r7, h10, hf⟩ := bn1_e hf
        refine j_invV [.ref (z + aM 0)] [.int r7, .ref (z + aM 0)] E (c_X12_mayPump h10) ml_X12_348 mv_X12_mayPump rfl ⟨le_ rfl, le_ rfl⟩ (rcM cf_X12) rfl rfl (le_ rfl) ⟨le_ rfl, le_ rfl⟩ dX12_readPump_61 ?_
        refine j_if_ne E 71 (by decide) dX12_readPump_64 (fun c5 => ?_) (fun c5 => ?_)
        · rw [if_neg c5] at hf
          refine j_iconst E 0 ic_0 dX12_readPump_71 ?_
          obtain ⟨M7, h11, hf⟩ := bn1_e hf
          refine j_invV [] [] E (c_X12_takeEnd h11) ml_X12_311 mv_X12_takeEnd rfl ⟨le_ rfl, le_ rfl⟩ (rcM cf_X12) rfl rfl (le_ rfl) ⟨le_ rfl, le_ rfl⟩ dX12_readPump_72 ?_
          refine j_aload_n E 2 rfl dX12_readPump_75 ?_
          obtain ⟨r8, h12, hf⟩ := bn1_e hf
          refine j_invV [] [.int r8] E (c_X12_isGood h12) ml_X12_275 mv_X12_isGood rfl ⟨le_ rfl, le_ rfl⟩ (rcM cf_X12) rfl rfl (le_ rfl) ⟨le_ rfl, le_ rfl⟩ dX12_readPump_76 ?_
          refine j_if_eq E 89 (by decide) dX12_readPump_79 (fun c6 => ?_) (fun c6 => ?_)
          · rw [if_pos c6] at hf
            cases hf
            exact j_vret E (le_ rfl) (le_ rfl) dX12_readPump_89
          · rw [if_neg c6] at hf
            refine j_aload_n E 2 rfl dX12_readPump_82 ?_
            refine j_iload_n E 1 rfl dX12_readPump_83 ?_
            refine j_iload_n E 0 rfl dX12_readPump_84 ?_
            obtain ⟨r9, M8, h13, hf⟩ := bn2_e hf
            refine j_invV [] [.int r9] E (c_X12_pumpNow h13) ml_X12_351 mv_X12_pumpNow rfl ⟨le_ rfl, le_ rfl⟩ (rcM cf_X12) rfl rfl (le_ rfl) ⟨le_ rfl, le_ rfl⟩ dX12_readPump_85 ?_
            refine j_istore_n (ls' := [(3, .int r9), (2, .int r2), (1, .int r1), (0, .ref (z + aM 0))]) E (lt_ rfl) rfl dX12_readPump_88 ?_
            cases hf
            exact j_vret E (le_ rfl) (le_ rfl) dX12_readPump_89
        · rw [if_pos c5] at hf
          refine j_iconst E 1 ic_1 dX12_readPump_67 ?_
          refine j_goto E 72 (by decide) dX12_readPump_68 ?_
          obtain ⟨M9, h14, hf⟩ := bn1_e hf
          refine j_invV [] [] E (c_X12_takeEnd h14) ml_X12_311 mv_X12_takeEnd rfl ⟨le_ rfl, le_ rfl⟩ (rcM cf_X12) rfl rfl (le_ rfl) ⟨le_ rfl, le_ rfl⟩ dX12_readPump_72 ?_
          refine j_aload_n E 2 rfl dX12_readPump_75 ?_
          obtain ⟨r10, h15, hf⟩ := bn1_e hf
          refine j_invV [] [.int r10] E (c_X12_isGood h15) ml_X12_275 mv_X12_isGood rfl ⟨le_ rfl, le_ rfl⟩ (rcM cf_X12) rfl rfl (le_ rfl) ⟨le_ rfl, le_ rfl⟩ dX12_readPump_76 ?_
          refine j_if_eq E 89 (by decide) dX12_readPump_79 (fun c7 => ?_) (fun c7 => ?_)
          · rw [if_pos c7] at hf
            cases hf
            exact j_vret E (le_ rfl) (le_ rfl) dX12_readPump_89
          · rw [if_neg c7] at hf
            refine j_aload_n E 2 rfl dX12_readPump_82 ?_
            refine j_iload_n E 1 rfl dX12_readPump_83 ?_
            refine j_iload_n E 0 rfl dX12_readPump_84 ?_
            obtain ⟨r11, M10, h16, hf⟩ := bn2_e hf
            refine j_invV [] [.int r11] E (c_X12_pumpNow h16) ml_X12_351 mv_X12_pumpNow rfl ⟨le_ rfl, le_ rfl⟩ (rcM cf_X12) rfl rfl (le_ rfl) ⟨le_ rfl, le_ rfl⟩ dX12_readPump_85 ?_
            refine j_istore_n (ls' := [(3, .int r11), (2, .int r2), (1, .int r1), (0, .ref (z + aM 0))]) E (lt_ rfl) rfl dX12_readPump_88 ?_
            cases hf
            exact j_vret E (le_ rfl) (le_ rfl) dX12_readPump_89
    · rw [if_neg c2] at hf
      refine j_aload_n E 2 rfl dX12_readPump_46 ?_
      obtain ⟨M11, h17, hf⟩ := bn1_e hf
      refine j_invV [] [] E (c_X12_goOn h17) ml_X12_259 mv_X12_goOn rfl ⟨le_ rfl, le_ rfl⟩ (rcM cf_X12) rfl rfl (le_ rfl) ⟨le_ rfl, le_ rfl⟩ dX12_readPump_47 ?_
      refine j_aload_n E 2 rfl dX12_readPump_50 ?_
      refine j_aload_n E 2 rfl dX12_readPump_51 ?_
      obtain ⟨r12, h18, hf⟩ := bn1_e hf
      refine j_invV [.ref (z + aM 0)] [.int r12, .ref (z + aM 0)] E (c_X12_isGood h18) ml_X12_275 mv_X12_isGood rfl ⟨le_ rfl, le_ rfl⟩ (rcM cf_X12) rfl rfl (le_ rfl) ⟨le_ rfl, le_ rfl⟩ dX12_readPump_52 ?_
      refine j_if_eq E 71 (by decide) dX12_readPump_55 (fun c8 => ?_) (fun c8 => ?_)
      · rw [if_pos c8] at hf
        refine j_iconst E 0 ic_0 dX12_readPump_71 ?_
        obtain ⟨M12, h19, hf⟩ := bn1_e hf
        refine j_invV [] [] E (c_X12_takeEnd h19) ml_X12_311 mv_X12_takeEnd rfl ⟨le_ rfl, le_ rfl⟩ (rcM cf_X12) rfl rfl (le_ rfl) ⟨le_ rfl, le_ rfl⟩ dX12_readPump_72 ?_
        refine j_aload_n E 2 rfl dX12_readPump_75 ?_
        obtain ⟨r13, h20, hf⟩ := bn1_e hf
        refine j_invV [] [.int r13] E (c_X12_isGood h20) ml_X12_275 mv_X12_isGood rfl ⟨le_ rfl, le_ rfl⟩ (rcM cf_X12) rfl rfl (le_ rfl) ⟨le_ rfl, le_ rfl⟩ dX12_readPump_76 ?_
        refine j_if_eq E 89 (by decide) dX12_readPump_79 (fun c9 => ?_) (fun c9 => ?_)
        · rw [if_pos c9] at hf
          cases hf
          exact j_vret E (le_ rfl) (le_ rfl) dX12_readPump_89
        · rw [if_neg c9] at hf
          refine j_aload_n E 2 rfl dX12_readPump_82 ?_
          refine j_iload_n E 1 rfl dX12_readPump_83 ?_
          refine j_iload_n E 0 rfl dX12_readPump_84 ?_
          obtain ⟨r14, M13, h21, hf⟩ := bn2_e hf
          refine j_invV [] [.int r14] E (c_X12_pumpNow h21) ml_X12_351 mv_X12_pumpNow rfl ⟨le_ rfl, le_ rfl⟩ (rcM cf_X12) rfl rfl (le_ rfl) ⟨le_ rfl, le_ rfl⟩ dX12_readPump_85 ?_
          refine j_istore_n (ls' := [(3, .int r14), (2, .int r2), (1, .int r1), (0, .ref (z + aM 0))]) E (lt_ rfl) rfl dX12_readPump_88 ?_
          cases hf
          exact j_vret E (le_ rfl) (le_ rfl) dX12_readPump_89
      · rw [if_neg c8] at hf
        refine j_aload_n E 2 rfl dX12_readPump_58 ?_
        refine j_iload_n E 1 rfl dX12_readPump_59 ?_
        refine j_iload_n E 0 rfl dX12_readPump_60 ?_
        obtain ⟨r15, h22, hf⟩ := bn1_e hf
        refine j_invV [.ref (z + aM 0)] [.int r15, .ref (z + aM 0)] E (c_X12_mayPump h22) ml_X12_348 mv_X12_mayPump rfl ⟨le_ rfl, le_ rfl⟩ (rcM cf_X12) rfl rfl (le_ rfl) ⟨le_ rfl, le_ rfl⟩ dX12_readPump_61 ?_
        refine j_if_ne E 71 (by decide) dX12_readPump_64 (fun c10 => ?_) (fun c10 => ?_)
        · rw [if_neg c10] at hf
          refine j_iconst E 0 ic_0 dX12_readPump_71 ?_
          obtain ⟨M14, h23, hf⟩ := bn1_e hf
          refine j_invV [] [] E (c_X12_takeEnd h23) ml_X12_311 mv_X12_takeEnd rfl ⟨le_ rfl, le_ rfl⟩ (rcM cf_X12) rfl rfl (le_ rfl) ⟨le_ rfl, le_ rfl⟩ dX12_readPump_72 ?_
          refine j_aload_n E 2 rfl dX12_readPump_75 ?_
          obtain ⟨r16, h24, hf⟩ := bn1_e hf
          refine j_invV [] [.int r16] E (c_X12_isGood h24) ml_X12_275 mv_X12_isGood rfl ⟨le_ rfl, le_ rfl⟩ (rcM cf_X12) rfl rfl (le_ rfl) ⟨le_ rfl, le_ rfl⟩ dX12_readPump_76 ?_
          refine j_if_eq E 89 (by decide) dX12_readPump_79 (fun c11 => ?_) (fun c11 => ?_)
          · rw [if_pos c11] at hf
            cases hf
            exact j_vret E (le_ rfl) (le_ rfl) dX12_readPump_89
          · rw [if_neg c11] at hf
            refine j_aload_n E 2 rfl dX12_readPump_82 ?_
            refine j_iload_n E 1 rfl dX12_readPump_83 ?_
            refine j_iload_n E 0 rfl dX12_readPump_84 ?_
            obtain ⟨r17, M15, h25, hf⟩ := bn2_e hf
            refine j_invV [] [.int r17] E (c_X12_pumpNow h25) ml_X12_351 mv_X12_pumpNow rfl ⟨le_ rfl, le_ rfl⟩ (rcM cf_X12) rfl rfl (le_ rfl) ⟨le_ rfl, le_ rfl⟩ dX12_readPump_85 ?_
            refine j_istore_n (ls' := [(3, .int r17), (2, .int r2), (1, .int r1), (0, .ref (z + aM 0))]) E (lt_ rfl) rfl dX12_readPump_88 ?_
            cases hf
            exact j_vret E (le_ rfl) (le_ rfl) dX12_readPump_89
        · rw [if_pos c10] at hf
          refine j_iconst E 1 ic_1 dX12_readPump_67 ?_
          refine j_goto E 72 (by decide) dX12_readPump_68 ?_
          obtain ⟨M16, h26, hf⟩ := bn1_e hf
          refine j_invV [] [] E (c_X12_takeEnd h26) ml_X12_311 mv_X12_takeEnd rfl ⟨le_ rfl, le_ rfl⟩ (rcM cf_X12) rfl rfl (le_ rfl) ⟨le_ rfl, le_ rfl⟩ dX12_readPump_72 ?_
          refine j_aload_n E 2 rfl dX12_readPump_75 ?_
          obtain ⟨r18, h27, hf⟩ := bn1_e hf
          refine j_invV [] [.int r18] E (c_X12_isGood h27) ml_X12_275 mv_X12_isGood rfl ⟨le_ rfl, le_ rfl⟩ (rcM cf_X12) rfl rfl (le_ rfl) ⟨le_ rfl, le_ rfl⟩ dX12_readPump_76 ?_
          refine j_if_eq E 89 (by decide) dX12_readPump_79 (fun c12 => ?_) (fun c12 => ?_)
          · rw [if_pos c12] at hf
            cases hf
            exact j_vret E (le_ rfl) (le_ rfl) dX12_readPump_89
          · rw [if_neg c12] at hf
            refine j_aload_n E 2 rfl dX12_readPump_82 ?_
            refine j_iload_n E 1 rfl dX12_readPump_83 ?_
            refine j_iload_n E 0 rfl dX12_readPump_84 ?_
            obtain ⟨r19, M17, h28, hf⟩ := bn2_e hf
            refine j_invV [] [.int r19] E (c_X12_pumpNow h28) ml_X12_351 mv_X12_pumpNow rfl ⟨le_ rfl, le_ rfl⟩ (rcM cf_X12) rfl rfl (le_ rfl) ⟨le_ rfl, le_ rfl⟩ dX12_readPump_85 ?_
            refine j_istore_n (ls' := [(3, .int r19), (2, .int r2), (1, .int r1), (0, .ref (z + aM 0))]) E (lt_ rfl) rfl dX12_readPump_88 ?_
            cases hf
            exact j_vret E (le_ rfl) (le_ rfl) dX12_readPump_89
  · rw [if_pos c1] at hf
    refine j_iconst E 1 ic_1 dX12_readPump_30 ?_
    refine j_goto E 35 (by decide) dX12_readPump_31 ?_
    refine j_iconst E 3 ic_3 dX12_readPump_35 ?_
    obtain ⟨M18, h29, hf⟩ := bn1_e hf
    refine j_invV [] [] E (c_X12_requireNot h29) ml_X12_289 mv_X12_requireNot rfl ⟨le_ rfl, le_ rfl⟩ (rcM cf_X12) rfl rfl (le_ rfl) ⟨le_ rfl, le_ rfl⟩ dX12_readPump_36 ?_
    refine j_aload_n E 2 rfl dX12_readPump_39 ?_
    obtain ⟨r20, h30, hf⟩ := bn1_e hf
    refine j_invV [] [.int r20] E (c_X12_isGood h30) ml_X12_275 mv_X12_isGood rfl ⟨le_ rfl, le_ rfl⟩ (rcM cf_X12) rfl rfl (le_ rfl) ⟨le_ rfl, le_ rfl⟩ dX12_readPump_40 ?_
    refine j_if_eq E 50 (by decide) dX12_readPump_43 (fun c13 => ?_) (fun c13 => ?_)
    · rw [if_pos c13] at hf
      refine j_aload_n E 2 rfl dX12_readPump_50 ?_
      refine j_aload_n E 2 rfl dX12_readPump_51 ?_
      obtain ⟨r21, h31, hf⟩ := bn1_e hf
      refine j_invV [.ref (z + aM 0)] [.int r21, .ref (z + aM 0)] E (c_X12_isGood h31) ml_X12_275 mv_X12_isGood rfl ⟨le_ rfl, le_ rfl⟩ (rcM cf_X12) rfl rfl (le_ rfl) ⟨le_ rfl, le_ rfl⟩ dX12_readPump_52 ?_
      refine j_if_eq E 71 (by decide) dX12_readPump_55 (fun c14 => ?_) (fun c14 => ?_)
      · rw [if_pos c14] at hf
        refine j_iconst E 0 ic_0 dX12_readPump_71 ?_
        obtain ⟨M19, h32, hf⟩ := bn1_e hf
        refine j_invV [] [] E (c_X12_takeEnd h32) ml_X12_311 mv_X12_takeEnd rfl ⟨le_ rfl, le_ rfl⟩ (rcM cf_X12) rfl rfl (le_ rfl) ⟨le_ rfl, le_ rfl⟩ dX12_readPump_72 ?_
        refine j_aload_n E 2 rfl dX12_readPump_75 ?_
        obtain ⟨r22, h33, hf⟩ := bn1_e hf
        refine j_invV [] [.int r22] E (c_X12_isGood h33) ml_X12_275 mv_X12_isGood rfl ⟨le_ rfl, le_ rfl⟩ (rcM cf_X12) rfl rfl (le_ rfl) ⟨le_ rfl, le_ rfl⟩ dX12_readPump_76 ?_
        refine j_if_eq E 89 (by decide) dX12_readPump_79 (fun c15 => ?_) (fun c15 => ?_)
        · rw [if_pos c15] at hf
          cases hf
          exact j_vret E (le_ rfl) (le_ rfl) dX12_readPump_89
        · rw [if_neg c15] at hf
          refine j_aload_n E 2 rfl dX12_readPump_82 ?_
          refine j_iload_n E 1 rfl dX12_readPump_83 ?_
          refine j_iload_n E 0 rfl dX12_readPump_84 ?_
          obtain ⟨r23, M20, h34, hf⟩ := bn2_e hf
          refine j_invV [] [.int r23] E (c_X12_pumpNow h34) ml_X12_351 mv_X12_pumpNow rfl ⟨le_ rfl, le_ rfl⟩ (rcM cf_X12) rfl rfl (le_ rfl) ⟨le_ rfl, le_ rfl⟩ dX12_readPump_85 ?_
          refine j_istore_n (ls' := [(3, .int r23), (2, .int r2), (1, .int r1), (0, .ref (z + aM 0))]) E (lt_ rfl) rfl dX12_readPump_88 ?_
          cases hf
          exact j_vret E (le_ rfl) (le_ rfl) dX12_readPump_89
      · rw [if_neg c14] at hf
        refine j_aload_n E 2 rfl dX12_readPump_58 ?_
        refine j_iload_n E 1 rfl dX12_readPump_59 ?_
        refine j_iload_n E 0 rfl dX12_readPump_60 ?_
        obtain ⟨r24, h35, hf⟩ := bn1_e hf
        refine j_invV [.ref (z + aM 0)] [.int r24, .ref (z + aM 0)] E (c_X12_mayPump h35) ml_X12_348 mv_X12_mayPump rfl ⟨le_ rfl, le_ rfl⟩ (rcM cf_X12) rfl rfl (le_ rfl) ⟨le_ rfl, le_ rfl⟩ dX12_readPump_61 ?_
        refine j_if_ne E 71 (by decide) dX12_readPump_64 (fun c16 => ?_) (fun c16 => ?_)
        · rw [if_neg c16] at hf
          refine j_iconst E 0 ic_0 dX12_readPump_71 ?_
          obtain ⟨M21, h36, hf⟩ := bn1_e hf
          refine j_invV [] [] E (c_X12_takeEnd h36) ml_X12_311 mv_X12_takeEnd rfl ⟨le_ rfl, le_ rfl⟩ (rcM cf_X12) rfl rfl (le_ rfl) ⟨le_ rfl, le_ rfl⟩ dX12_readPump_72 ?_
          refine j_aload_n E 2 rfl dX12_readPump_75 ?_
          obtain ⟨r25, h37, hf⟩ := bn1_e hf
          refine j_invV [] [.int r25] E (c_X12_isGood h37) ml_X12_275 mv_X12_isGood rfl ⟨le_ rfl, le_ rfl⟩ (rcM cf_X12) rfl rfl (le_ rfl) ⟨le_ rfl, le_ rfl⟩ dX12_readPump_76 ?_
          refine j_if_eq E 89 (by decide) dX12_readPump_79 (fun c17 => ?_) (fun c17 => ?_)
          · rw [if_pos c17] at hf
            cases hf
            exact j_vret E (le_ rfl) (le_ rfl) dX12_readPump_89
          · rw [if_neg c17] at hf
            refine j_aload_n E 2 rfl dX12_readPump_82 ?_
            refine j_iload_n E 1 rfl dX12_readPump_83 ?_
            refine j_iload_n E 0 rfl dX12_readPump_84 ?_
            obtain ⟨r26, M22, h38, hf⟩ := bn2_e hf
            refine j_invV [] [.int r26] E (c_X12_pumpNow h38) ml_X12_351 mv_X12_pumpNow rfl ⟨le_ rfl, le_ rfl⟩ (rcM cf_X12) rfl rfl (le_ rfl) ⟨le_ rfl, le_ rfl⟩ dX12_readPump_85 ?_
            refine j_istore_n (ls' := [(3, .int r26), (2, .int r2), (1, .int r1), (0, .ref (z + aM 0))]) E (lt_ rfl) rfl dX12_readPump_88 ?_
            cases hf
            exact j_vret E (le_ rfl) (le_ rfl) dX12_readPump_89
        · rw [if_pos c16] at hf
          refine j_iconst E 1 ic_1 dX12_readPump_67 ?_
          refine j_goto E 72 (by decide) dX12_readPump_68 ?_
          obtain ⟨M23, h39, hf⟩ := bn1_e hf
          refine j_invV [] [] E (c_X12_takeEnd h39) ml_X12_311 mv_X12_takeEnd rfl ⟨le_ rfl, le_ rfl⟩ (rcM cf_X12) rfl rfl (le_ rfl) ⟨le_ rfl, le_ rfl⟩ dX12_readPump_72 ?_
          refine j_aload_n E 2 rfl dX12_readPump_75 ?_
          obtain ⟨r27, h40, hf⟩ := bn1_e hf
          refine j_invV [] [.int r27] E (c_X12_isGood h40) ml_X12_275 mv_X12_isGood rfl ⟨le_ rfl, le_ rfl⟩ (rcM cf_X12) rfl rfl (le_ rfl) ⟨le_ rfl, le_ rfl⟩ dX12_readPump_76 ?_
          refine j_if_eq E 89 (by decide) dX12_readPump_79 (fun c18 => ?_) (fun c18 => ?_)
          · rw [if_pos c18] at hf
            cases hf
            exact j_vret E (le_ rfl) (le_ rfl) dX12_readPump_89
          · rw [if_neg c18] at hf
            refine j_aload_n E 2 rfl dX12_readPump_82 ?_
            refine j_iload_n E 1 rfl dX12_readPump_83 ?_
            refine j_iload_n E 0 rfl dX12_readPump_84 ?_
            obtain ⟨r28, M24, h41, hf⟩ := bn2_e hf
            refine j_invV [] [.int r28] E (c_X12_pumpNow h41) ml_X12_351 mv_X12_pumpNow rfl ⟨le_ rfl, le_ rfl⟩ (rcM cf_X12) rfl rfl (le_ rfl) ⟨le_ rfl, le_ rfl⟩ dX12_readPump_85 ?_
            refine j_istore_n (ls' := [(3, .int r28), (2, .int r2), (1, .int r1), (0, .ref (z + aM 0))]) E (lt_ rfl) rfl dX12_readPump_88 ?_
            cases hf
            exact j_vret E (le_ rfl) (le_ rfl) dX12_readPump_89
    · rw [if_neg c13] at hf
      refine j_aload_n E 2 rfl dX12_readPump_46 ?_
      obtain ⟨M25, h42, hf⟩ := bn1_e hf
      refine j_invV [] [] E (c_X12_goOn h42) ml_X12_259 mv_X12_goOn rfl ⟨le_ rfl, le_ rfl⟩ (rcM cf_X12) rfl rfl (le_ rfl) ⟨le_ rfl, le_ rfl⟩ dX12_readPump_47 ?_
      refine j_aload_n E 2 rfl dX12_readPump_50 ?_
      refine j_aload_n E 2 rfl dX12_readPump_51 ?_
      obtain ⟨r29, h43, hf⟩ := bn1_e hf
      refine j_invV [.ref (z + aM 0)] [.int r29, .ref (z + aM 0)] E (c_X12_isGood h43) ml_X12_275 mv_X12_isGood rfl ⟨le_ rfl, le_ rfl⟩ (rcM cf_X12) rfl rfl (le_ rfl) ⟨le_ rfl, le_ rfl⟩ dX12_readPump_52 ?_
      refine j_if_eq E 71 (by decide) dX12_readPump_55 (fun c19 => ?_) (fun c19 => ?_)
      · rw [if_pos c19] at hf
        refine j_iconst E 0 ic_0 dX12_readPump_71 ?_
        obtain ⟨M26, h44, hf⟩ := bn1_e hf
        refine j_invV [] [] E (c_X12_takeEnd h44) ml_X12_311 mv_X12_takeEnd rfl ⟨le_ rfl, le_ rfl⟩ (rcM cf_X12) rfl rfl (le_ rfl) ⟨le_ rfl, le_ rfl⟩ dX12_readPump_72 ?_
        refine j_aload_n E 2 rfl dX12_readPump_75 ?_
        obtain ⟨r30, h45, hf⟩ := bn1_e hf
        refine j_invV [] [.int r30] E (c_X12_isGood h45) ml_X12_275 mv_X12_isGood rfl ⟨le_ rfl, le_ rfl⟩ (rcM cf_X12) rfl rfl (le_ rfl) ⟨le_ rfl, le_ rfl⟩ dX12_readPump_76 ?_
        refine j_if_eq E 89 (by decide) dX12_readPump_79 (fun c20 => ?_) (fun c20 => ?_)
        · rw [if_pos c20] at hf
          cases hf
          exact j_vret E (le_ rfl) (le_ rfl) dX12_readPump_89
        · rw [if_neg c20] at hf
          refine j_aload_n E 2 rfl dX12_readPump_82 ?_
          refine j_iload_n E 1 rfl dX12_readPump_83 ?_
          refine j_iload_n E 0 rfl dX12_readPump_84 ?_
          obtain ⟨r31, M27, h46, hf⟩ := bn2_e hf
          refine j_invV [] [.int r31] E (c_X12_pumpNow h46) ml_X12_351 mv_X12_pumpNow rfl ⟨le_ rfl, le_ rfl⟩ (rcM cf_X12) rfl rfl (le_ rfl) ⟨le_ rfl, le_ rfl⟩ dX12_readPump_85 ?_
          refine j_istore_n (ls' := [(3, .int r31), (2, .int r2), (1, .int r1), (0, .ref (z + aM 0))]) E (lt_ rfl) rfl dX12_readPump_88 ?_
          cases hf
          exact j_vret E (le_ rfl) (le_ rfl) dX12_readPump_89
      · rw [if_neg c19] at hf
        refine j_aload_n E 2 rfl dX12_readPump_58 ?_
        refine j_iload_n E 1 rfl dX12_readPump_59 ?_
        refine j_iload_n E 0 rfl dX12_readPump_60 ?_
        obtain ⟨r32, h47, hf⟩ := bn1_e hf
        refine j_invV [.ref (z + aM 0)] [.int r32, .ref (z + aM 0)] E (c_X12_mayPump h47) ml_X12_348 mv_X12_mayPump rfl ⟨le_ rfl, le_ rfl⟩ (rcM cf_X12) rfl rfl (le_ rfl) ⟨le_ rfl, le_ rfl⟩ dX12_readPump_61 ?_
        refine j_if_ne E 71 (by decide) dX12_readPump_64 (fun c21 => ?_) (fun c21 => ?_)
        · rw [if_neg c21] at hf
          refine j_iconst E 0 ic_0 dX12_readPump_71 ?_
          obtain ⟨M28, h48, hf⟩ := bn1_e hf
          refine j_invV [] [] E (c_X12_takeEnd h48) ml_X12_311 mv_X12_takeEnd rfl ⟨le_ rfl, le_ rfl⟩ (rcM cf_X12) rfl rfl (le_ rfl) ⟨le_ rfl, le_ rfl⟩ dX12_readPump_72 ?_
          refine j_aload_n E 2 rfl dX12_readPump_75 ?_
          obtain ⟨r33, h49, hf⟩ := bn1_e hf
          refine j_invV [] [.int r33] E (c_X12_isGood h49) ml_X12_275 mv_X12_isGood rfl ⟨le_ rfl, le_ rfl⟩ (rcM cf_X12) rfl rfl (le_ rfl) ⟨le_ rfl, le_ rfl⟩ dX12_readPump_76 ?_
          refine j_if_eq E 89 (by decide) dX12_readPump_79 (fun c22 => ?_) (fun c22 => ?_)
          · rw [if_pos c22] at hf
            cases hf
            exact j_vret E (le_ rfl) (le_ rfl) dX12_readPump_89
          · rw [if_neg c22] at hf
            refine j_aload_n E 2 rfl dX12_readPump_82 ?_
            refine j_iload_n E 1 rfl dX12_readPump_83 ?_
            refine j_iload_n E 0 rfl dX12_readPump_84 ?_
            obtain ⟨r34, M29, h50, hf⟩ := bn2_e hf
            refine j_invV [] [.int r34] E (c_X12_pumpNow h50) ml_X12_351 mv_X12_pumpNow rfl ⟨le_ rfl, le_ rfl⟩ (rcM cf_X12) rfl rfl (le_ rfl) ⟨le_ rfl, le_ rfl⟩ dX12_readPump_85 ?_
            refine j_istore_n (ls' := [(3, .int r34), (2, .int r2), (1, .int r1), (0, .ref (z + aM 0))]) E (lt_ rfl) rfl dX12_readPump_88 ?_
            cases hf
            exact j_vret E (le_ rfl) (le_ rfl) dX12_readPump_89
        · rw [if_pos c21] at hf
          refine j_iconst E 1 ic_1 dX12_readPump_67 ?_
          refine j_goto E 72 (by decide) dX12_readPump_68 ?_
          obtain ⟨M30, h51, hf⟩ := bn1_e hf
          refine j_invV [] [] E (c_X12_takeEnd h51) ml_X12_311 mv_X12_takeEnd rfl ⟨le_ rfl, le_ rfl⟩ (rcM cf_X12) rfl rfl (le_ rfl) ⟨le_ rfl, le_ rfl⟩ dX12_readPump_72 ?_
          refine j_aload_n E 2 rfl dX12_readPump_75 ?_
          obtain ⟨r35, h52, hf⟩ := bn1_e hf
          refine j_invV [] [.int r35] E (c_X12_isGood h52) ml_X12_275 mv_X12_isGood rfl ⟨le_ rfl, le_ rfl⟩ (rcM cf_X12) rfl rfl (le_ rfl) ⟨le_ rfl, le_ rfl⟩ dX12_readPump_76 ?_
          refine j_if_eq E 89 (by decide) dX12_readPump_79 (fun c23 => ?_) (fun c23 => ?_)
          · rw [if_pos c23] at hf
            cases hf
            exact j_vret E (le_ rfl) (le_ rfl) dX12_readPump_89
          · rw [if_neg c23] at hf
            refine j_aload_n E 2 rfl dX12_readPump_82 ?_
            refine j_iload_n E 1 rfl dX12_readPump_83 ?_
            refine j_iload_n E 0 rfl dX12_readPump_84 ?_
            obtain ⟨r36, M31, h53, hf⟩ := bn2_e hf
            refine j_invV [] [.int r36] E (c_X12_pumpNow h53) ml_X12_351 mv_X12_pumpNow rfl ⟨le_ rfl, le_ rfl⟩ (rcM cf_X12) rfl rfl (le_ rfl) ⟨le_ rfl, le_ rfl⟩ dX12_readPump_85 ?_
            refine j_istore_n (ls' := [(3, .int r36), (2, .int r2), (1, .int r1), (0, .ref (z + aM 0))]) E (lt_ rfl) rfl dX12_readPump_88 ?_
            cases hf
            exact j_vret E (le_ rfl) (le_ rfl) dX12_readPump_89
def f_X12_readStatement (M : MT) : Option MT :=
  bn1 (f_X12_isWord M (M.2.1 16)) (fun r1 => if r1 = 0 then (bn1 (f_X12_isWord M (M.2.1 18)) (fun r2 => if r2 = 0 then (bn1 (f_X12_isWord M (M.2.1 17)) (fun r3 => if r3 = 0 then (bn1 (f_X12_isWord M (M.2.1 19)) (fun r4 => if r4 = 0 then (bn1 (f_X12_isWord M (M.2.1 20)) (fun r5 => if r5 = 0 then (bn1 (f_X12_isWord M (M.2.1 21)) (fun r6 => if r6 = 0 then (bn1 (f_X12_isWord M (M.2.1 22)) (fun r7 => if r7 = 0 then (bn1 (f_X12_isWord M (M.2.1 23)) (fun r8 => if r8 = 0 then (bn1 (f_X12_isWord M (M.2.1 24)) (fun r9 => if r9 = 0 then (bn1 (f_X12_isWord M (M.2.1 25)) (fun r10 => if r10 = 0 then (bn1 (f_X12_fault M 1) (fun M1 => some M1)) else (bn1 (f_X12_readPump M) (fun M2 => some M2)))) else (bn1 (f_X12_readPay M) (fun M3 => some M3)))) else (bn1 (f_X12_readSell M) (fun M4 => some M4)))) else (bn1 (f_X12_readBottle M) (fun M5 => some M5)))) else (bn1 (f_X12_readLoad M) (fun M6 => some M6)))) else (bn1 (f_X12_readTank M) (fun M7 => some M7)))) else (bn1 (f_X12_readPlot M) (fun M8 => some M8)))) else (bn1 (f_X12_readPrice M) (fun M9 => some M9)))) else (bn1 (f_X12_readNew M 0) (fun M10 => some M10)))) else (bn1 (f_X12_readNew M 1) (fun M11 => some M11)))
set_option maxRecDepth 20000 in
theorem c_X12_readStatement {l : Launch} {D : DD} {z : Nat} {X : XT} {o : Int64} {f1 : Nat} {M : MT} {M' : MT} (hf : f_X12_readStatement M = some M') : CC l yX12_readStatement cX12_readStatement 1 none (rmk 7 0 0) D z [.ref (z + aM 0)] (GG D z (X, (f1 + 1, M, o))) none (GG D z (X, (f1 + 1, M', o))) := by
  unfold f_X12_readStatement at hf
  refine cc_of pn_X12 (le_ rfl) (ls := [(0, .ref (z + aM 0))]) rfl ?_
  intro p e s m args below meth c E
  refine j_aload_n E 0 rfl dX12_readStatement_0 ?_
  refine j_aload_n E 0 rfl dX12_readStatement_1 ?_
  refine j_getM (f := 16) E cf_X12 fl_X12_48 (lt_ rfl) rfl rfl dX12_readStatement_2 ?_
  obtain ⟨r1, h1, hf⟩ := bn1_e hf
  refine j_invV [] [.int r1] E (c_X12_isWord h1) ml_X12_304 mv_X12_isWord rfl ⟨le_ rfl, le_ rfl⟩ (rcM cf_X12) rfl rfl (le_ rfl) ⟨le_ rfl, le_ rfl⟩ dX12_readStatement_5 ?_
  refine j_if_eq E 19 (by decide) dX12_readStatement_8 (fun c1 => ?_) (fun c1 => ?_)
  · rw [if_pos c1] at hf
    refine j_aload_n E 0 rfl dX12_readStatement_19 ?_
    refine j_aload_n E 0 rfl dX12_readStatement_20 ?_
    refine j_getM (f := 18) E cf_X12 fl_X12_58 (lt_ rfl) rfl rfl dX12_readStatement_21 ?_
    obtain ⟨r2, h2, hf⟩ := bn1_e hf
    refine j_invV [] [.int r2] E (c_X12_isWord h2) ml_X12_304 mv_X12_isWord rfl ⟨le_ rfl, le_ rfl⟩ (rcM cf_X12) rfl rfl (le_ rfl) ⟨le_ rfl, le_ rfl⟩ dX12_readStatement_24 ?_
    refine j_if_eq E 38 (by decide) dX12_readStatement_27 (fun c2 => ?_) (fun c2 => ?_)
    · rw [if_pos c2] at hf
      refine j_aload_n E 0 rfl dX12_readStatement_38 ?_
      refine j_aload_n E 0 rfl dX12_readStatement_39 ?_
      refine j_getM (f := 17) E cf_X12 fl_X12_53 (lt_ rfl) rfl rfl dX12_readStatement_40 ?_
      obtain ⟨r3, h3, hf⟩ := bn1_e hf
      refine j_invV [] [.int r3] E (c_X12_isWord h3) ml_X12_304 mv_X12_isWord rfl ⟨le_ rfl, le_ rfl⟩ (rcM cf_X12) rfl rfl (le_ rfl) ⟨le_ rfl, le_ rfl⟩ dX12_readStatement_43 ?_
      refine j_if_eq E 56 (by decide) dX12_readStatement_46 (fun c3 => ?_) (fun c3 => ?_)
      · rw [if_pos c3] at hf
        refine j_aload_n E 0 rfl dX12_readStatement_56 ?_
        refine j_aload_n E 0 rfl dX12_readStatement_57 ?_
        refine j_getM (f := 19) E cf_X12 fl_X12_63 (lt_ rfl) rfl rfl dX12_readStatement_58 ?_
        obtain ⟨r4, h4, hf⟩ := bn1_e hf
        refine j_invV [] [.int r4] E (c_X12_isWord h4) ml_X12_304 mv_X12_isWord rfl ⟨le_ rfl, le_ rfl⟩ (rcM cf_X12) rfl rfl (le_ rfl) ⟨le_ rfl, le_ rfl⟩ dX12_readStatement_61 ?_
        refine j_if_eq E 74 (by decide) dX12_readStatement_64 (fun c4 => ?_) (fun c4 => ?_)
        · rw [if_pos c4] at hf
          refine j_aload_n E 0 rfl dX12_readStatement_74 ?_
          refine j_aload_n E 0 rfl dX12_readStatement_75 ?_
          refine j_getM (f := 20) E cf_X12 fl_X12_68 (lt_ rfl) rfl rfl dX12_readStatement_76 ?_
          obtain ⟨r5, h5, hf⟩ := bn1_e hf
          refine j_invV [] [.int r5] E (c_X12_isWord h5) ml_X12_304 mv_X12_isWord rfl ⟨le_ rfl, le_ rfl⟩ (rcM cf_X12) rfl rfl (le_ rfl) ⟨le_ rfl, le_ rfl⟩ dX12_readStatement_79 ?_
          refine j_if_eq E 92 (by decide) dX12_readStatement_82 (fun c5 => ?_) (fun c5 => ?_)
          · rw [if_pos c5] at hf
            refine j_aload_n E 0 rfl dX12_readStatement_92 ?_
            refine j_aload_n E 0 rfl dX12_readStatement_93 ?_
            refine j_getM (f := 21) E cf_X12 fl_X12_73 (lt_ rfl) rfl rfl dX12_readStatement_94 ?_
            obtain ⟨r6, h6, hf⟩ := bn1_e hf
            refine j_invV [] [.int r6] E (c_X12_isWord h6) ml_X12_304 mv_X12_isWord rfl ⟨le_ rfl, le_ rfl⟩ (rcM cf_X12) rfl rfl (le_ rfl) ⟨le_ rfl, le_ rfl⟩ dX12_readStatement_97 ?_
            refine j_if_eq E 110 (by decide) dX12_readStatement_100 (fun c6 => ?_) (fun c6 => ?_)
            · rw [if_pos c6] at hf
              refine j_aload_n E 0 rfl dX12_readStatement_110 ?_
              refine j_aload_n E 0 rfl dX12_readStatement_111 ?_
              refine j_getM (f := 22) E cf_X12 fl_X12_78 (lt_ rfl) rfl rfl dX12_readStatement_112 ?_
              obtain ⟨r7, h7, hf⟩ := bn1_e hf
              refine j_invV [] [.int r7] E (c_X12_isWord h7) ml_X12_304 mv_X12_isWord rfl ⟨le_ rfl, le_ rfl⟩ (rcM cf_X12) rfl rfl (le_ rfl) ⟨le_ rfl, le_ rfl⟩ dX12_readStatement_115 ?_
              refine j_if_eq E 128 (by decide) dX12_readStatement_118 (fun c7 => ?_) (fun c7 => ?_)
              · rw [if_pos c7] at hf
                refine j_aload_n E 0 rfl dX12_readStatement_128 ?_
                refine j_aload_n E 0 rfl dX12_readStatement_129 ?_
                refine j_getM (f := 23) E cf_X12 fl_X12_83 (lt_ rfl) rfl rfl dX12_readStatement_130 ?_
                obtain ⟨r8, h8, hf⟩ := bn1_e hf
                refine j_invV [] [.int r8] E (c_X12_isWord h8) ml_X12_304 mv_X12_isWord rfl ⟨le_ rfl, le_ rfl⟩ (rcM cf_X12) rfl rfl (le_ rfl) ⟨le_ rfl, le_ rfl⟩ dX12_readStatement_133 ?_
                refine j_if_eq E 146 (by decide) dX12_readStatement_136 (fun c8 => ?_) (fun c8 => ?_)
                · rw [if_pos c8] at hf
                  refine j_aload_n E 0 rfl dX12_readStatement_146 ?_
                  refine j_aload_n E 0 rfl dX12_readStatement_147 ?_
                  refine j_getM (f := 24) E cf_X12 fl_X12_88 (lt_ rfl) rfl rfl dX12_readStatement_148 ?_
                  obtain ⟨r9, h9, hf⟩ := bn1_e hf
                  refine j_invV [] [.int r9] E (c_X12_isWord h9) ml_X12_304 mv_X12_isWord rfl ⟨le_ rfl, le_ rfl⟩ (rcM cf_X12) rfl rfl (le_ rfl) ⟨le_ rfl, le_ rfl⟩ dX12_readStatement_151 ?_
                  refine j_if_eq E 164 (by decide) dX12_readStatement_154 (fun c9 => ?_) (fun c9 => ?_)
                  · rw [if_pos c9] at hf
                    refine j_aload_n E 0 rfl dX12_readStatement_164 ?_
                    refine j_aload_n E 0 rfl dX12_readStatement_165 ?_
                    refine j_getM (f := 25) E cf_X12 fl_X12_93 (lt_ rfl) rfl rfl dX12_readStatement_166 ?_
                    obtain ⟨r10, h10, hf⟩ := bn1_e hf
                    refine j_invV [] [.int r10] E (c_X12_isWord h10) ml_X12_304 mv_X12_isWord rfl ⟨le_ rfl, le_ rfl⟩ (rcM cf_X12) rfl rfl (le_ rfl) ⟨le_ rfl, le_ rfl⟩ dX12_readStatement_169 ?_
                    refine j_if_eq E 182 (by decide) dX12_readStatement_172 (fun c10 => ?_) (fun c10 => ?_)
                    · rw [if_pos c10] at hf
                      refine j_aload_n E 0 rfl dX12_readStatement_182 ?_
                      refine j_iconst E 1 ic_1 dX12_readStatement_183 ?_
                      obtain ⟨M1, h11, hf⟩ := bn1_e hf
                      refine j_invV [] [] E (c_X12_fault h11) ml_X12_279 mv_X12_fault rfl ⟨le_ rfl, le_ rfl⟩ (rcM cf_X12) rfl rfl (le_ rfl) ⟨le_ rfl, le_ rfl⟩ dX12_readStatement_184 ?_
                      cases hf
                      exact j_vret E (le_ rfl) (le_ rfl) dX12_readStatement_187
                    · rw [if_neg c10] at hf
                      refine j_aload_n E 0 rfl dX12_readStatement_175 ?_
                      obtain ⟨M2, h12, hf⟩ := bn1_e hf
                      refine j_invV [] [] E (c_X12_readPump h12) ml_X12_378 mv_X12_readPump rfl ⟨le_ rfl, le_ rfl⟩ (rcM cf_X12) rfl rfl (le_ rfl) ⟨le_ rfl, le_ rfl⟩ dX12_readStatement_176 ?_
                      refine j_goto E 187 (by decide) dX12_readStatement_179 ?_
                      cases hf
                      exact j_vret E (le_ rfl) (le_ rfl) dX12_readStatement_187
                  · rw [if_neg c9] at hf
                    refine j_aload_n E 0 rfl dX12_readStatement_157 ?_
                    obtain ⟨M3, h13, hf⟩ := bn1_e hf
                    refine j_invV [] [] E (c_X12_readPay h13) ml_X12_375 mv_X12_readPay rfl ⟨le_ rfl, le_ rfl⟩ (rcM cf_X12) rfl rfl (le_ rfl) ⟨le_ rfl, le_ rfl⟩ dX12_readStatement_158 ?_
                    refine j_goto E 187 (by decide) dX12_readStatement_161 ?_
                    cases hf
                    exact j_vret E (le_ rfl) (le_ rfl) dX12_readStatement_187
                · rw [if_neg c8] at hf
                  refine j_aload_n E 0 rfl dX12_readStatement_139 ?_
                  obtain ⟨M4, h14, hf⟩ := bn1_e hf
                  refine j_invV [] [] E (c_X12_readSell h14) ml_X12_372 mv_X12_readSell rfl ⟨le_ rfl, le_ rfl⟩ (rcM cf_X12) rfl rfl (le_ rfl) ⟨le_ rfl, le_ rfl⟩ dX12_readStatement_140 ?_
                  refine j_goto E 187 (by decide) dX12_readStatement_143 ?_
                  cases hf
                  exact j_vret E (le_ rfl) (le_ rfl) dX12_readStatement_187
              · rw [if_neg c7] at hf
                refine j_aload_n E 0 rfl dX12_readStatement_121 ?_
                obtain ⟨M5, h15, hf⟩ := bn1_e hf
                refine j_invV [] [] E (c_X12_readBottle h15) ml_X12_369 mv_X12_readBottle rfl ⟨le_ rfl, le_ rfl⟩ (rcM cf_X12) rfl rfl (le_ rfl) ⟨le_ rfl, le_ rfl⟩ dX12_readStatement_122 ?_
                refine j_goto E 187 (by decide) dX12_readStatement_125 ?_
                cases hf
                exact j_vret E (le_ rfl) (le_ rfl) dX12_readStatement_187
            · rw [if_neg c6] at hf
              refine j_aload_n E 0 rfl dX12_readStatement_103 ?_
              obtain ⟨M6, h16, hf⟩ := bn1_e hf
              refine j_invV [] [] E (c_X12_readLoad h16) ml_X12_366 mv_X12_readLoad rfl ⟨le_ rfl, le_ rfl⟩ (rcM cf_X12) rfl rfl (le_ rfl) ⟨le_ rfl, le_ rfl⟩ dX12_readStatement_104 ?_
              refine j_goto E 187 (by decide) dX12_readStatement_107 ?_
              cases hf
              exact j_vret E (le_ rfl) (le_ rfl) dX12_readStatement_187
          · rw [if_neg c5] at hf
            refine j_aload_n E 0 rfl dX12_readStatement_85 ?_
            obtain ⟨M7, h17, hf⟩ := bn1_e hf
            refine j_invV [] [] E (c_X12_readTank h17) ml_X12_363 mv_X12_readTank rfl ⟨le_ rfl, le_ rfl⟩ (rcM cf_X12) rfl rfl (le_ rfl) ⟨le_ rfl, le_ rfl⟩ dX12_readStatement_86 ?_
            refine j_goto E 187 (by decide) dX12_readStatement_89 ?_
            cases hf
            exact j_vret E (le_ rfl) (le_ rfl) dX12_readStatement_187
        · rw [if_neg c4] at hf
          refine j_aload_n E 0 rfl dX12_readStatement_67 ?_
          obtain ⟨M8, h18, hf⟩ := bn1_e hf
          refine j_invV [] [] E (c_X12_readPlot h18) ml_X12_360 mv_X12_readPlot rfl ⟨le_ rfl, le_ rfl⟩ (rcM cf_X12) rfl rfl (le_ rfl) ⟨le_ rfl, le_ rfl⟩ dX12_readStatement_68 ?_
          refine j_goto E 187 (by decide) dX12_readStatement_71 ?_
          cases hf
          exact j_vret E (le_ rfl) (le_ rfl) dX12_readStatement_187
      · rw [if_neg c3] at hf
        refine j_aload_n E 0 rfl dX12_readStatement_49 ?_
        obtain ⟨M9, h19, hf⟩ := bn1_e hf
        refine j_invV [] [] E (c_X12_readPrice h19) ml_X12_357 mv_X12_readPrice rfl ⟨le_ rfl, le_ rfl⟩ (rcM cf_X12) rfl rfl (le_ rfl) ⟨le_ rfl, le_ rfl⟩ dX12_readStatement_50 ?_
        refine j_goto E 187 (by decide) dX12_readStatement_53 ?_
        cases hf
        exact j_vret E (le_ rfl) (le_ rfl) dX12_readStatement_187
    · rw [if_neg c2] at hf
      refine j_aload_n E 0 rfl dX12_readStatement_30 ?_
      refine j_iconst E 0 ic_0 dX12_readStatement_31 ?_
      obtain ⟨M10, h20, hf⟩ := bn1_e hf
      refine j_invV [] [] E (c_X12_readNew h20) ml_X12_354 mv_X12_readNew rfl ⟨le_ rfl, le_ rfl⟩ (rcM cf_X12) rfl rfl (le_ rfl) ⟨le_ rfl, le_ rfl⟩ dX12_readStatement_32 ?_
      refine j_goto E 187 (by decide) dX12_readStatement_35 ?_
      cases hf
      exact j_vret E (le_ rfl) (le_ rfl) dX12_readStatement_187
  · rw [if_neg c1] at hf
    refine j_aload_n E 0 rfl dX12_readStatement_11 ?_
    refine j_iconst E 1 ic_1 dX12_readStatement_12 ?_
    obtain ⟨M11, h21, hf⟩ := bn1_e hf
    refine j_invV [] [] E (c_X12_readNew h21) ml_X12_354 mv_X12_readNew rfl ⟨le_ rfl, le_ rfl⟩ (rcM cf_X12) rfl rfl (le_ rfl) ⟨le_ rfl, le_ rfl⟩ dX12_readStatement_13 ?_
    refine j_goto E 187 (by decide) dX12_readStatement_16 ?_
    cases hf
    exact j_vret E (le_ rfl) (le_ rfl) dX12_readStatement_187
def f_X12_readText_12 : Nat → MT → Option MT
  | 0, _ => none
  | n + 1, M => bn1 (f_X12_isGood M) (fun r1 => if r1 = 0 then (some M) else (if (M.1 0 7) = 0 then (some M) else (bn1 (f_X12_readStatement M) (fun M1 => f_X12_readText_12 n M1))))
def f_X12_readText (M : MT) : Option MT :=
  bn1 (f_X12_startText M) (fun M1 => bn1 (f_X12_readCooperative M1) (fun M2 => bn1 (f_X12_readClasses M2) (fun M3 => f_X12_readText_12 2000 M3)))
set_option maxRecDepth 20000 in
theorem b_X12_readText_12 {p : Program} {l : Launch} {e : Env} {s : State} {m : MethodId} {args : Array Value} {below : List Frame} {meth : Method} {c : Code} {D : DD} {z : Nat} {X : XT} {o : Int64} {f1 : Nat} (E : Cx p s m args meth c D z RX12 cX12_readText 1 none) {M' : MT} : ∀ (n : Nat) (M : MT) (hf : f_X12_readText_12 n M = some M'), J p l e (rmk 8 0 0) s m args below meth c D z (GG D z (X, (f1 + 1, M, o))) 0 0 (MQ below (QC z none (GG D z (X, (f1 + 1, M', o)))) args s (rmk 8 0 0).cells (rmk 8 0 0).slots (Az z)) 1 12 [(0, .ref (z + aM 0))] [] := by
  intro n
  induction n with
  | zero =>
    intro M hf
    exact none_e hf
  | succ n ih =>
    intro M hf
    rw [f_X12_readText_12] at hf
    refine j_aload_n E 0 rfl dX12_readText_12 ?_
    obtain ⟨r1, h1, hf⟩ := bn1_e hf
    refine j_invV [] [.int r1] E (c_X12_isGood h1) ml_X12_275 mv_X12_isGood rfl ⟨le_ rfl, le_ rfl⟩ (rcM cf_X12) rfl rfl (le_ rfl) ⟨le_ rfl, le_ rfl⟩ dX12_readText_13 ?_
    refine j_if_eq E 33 (by decide) dX12_readText_16 (fun c1 => ?_) (fun c1 => ?_)
    · rw [if_pos c1] at hf
      cases hf
      exact j_vret E (le_ rfl) (le_ rfl) dX12_readText_33
    · rw [if_neg c1] at hf
      refine j_aload_n E 0 rfl dX12_readText_19 ?_
      refine j_getM (f := 7) E cf_X12 fl_X12_239 (lt_ rfl) rfl rfl dX12_readText_20 ?_
      refine j_if_eq E 33 (by decide) dX12_readText_23 (fun c2 => ?_) (fun c2 => ?_)
      · rw [if_pos c2] at hf
        cases hf
        exact j_vret E (le_ rfl) (le_ rfl) dX12_readText_33
      · rw [if_neg c2] at hf
        refine j_aload_n E 0 rfl dX12_readText_26 ?_
        obtain ⟨M1, h2, hf⟩ := bn1_e hf
        refine j_invV [] [] E (c_X12_readStatement h2) ml_X12_390 mv_X12_readStatement rfl ⟨le_ rfl, le_ rfl⟩ (rcM cf_X12) rfl rfl (le_ rfl) ⟨le_ rfl, le_ rfl⟩ dX12_readText_27 ?_
        refine j_goto E 12 (by decide) dX12_readText_30 ?_
        exact ih _ hf
set_option maxRecDepth 20000 in
theorem c_X12_readText {l : Launch} {D : DD} {z : Nat} {X : XT} {o : Int64} {f1 : Nat} {M : MT} {M' : MT} (hf : f_X12_readText M = some M') : CC l yX12_readText cX12_readText 1 none (rmk 8 0 0) D z [.ref (z + aM 0)] (GG D z (X, (f1 + 1, M, o))) none (GG D z (X, (f1 + 1, M', o))) := by
  unfold f_X12_readText at hf
  refine cc_of pn_X12 (le_ rfl) (ls := [(0, .ref (z + aM 0))]) rfl ?_
  intro p e s m args below meth c E
  refine j_aload_n E 0 rfl dX12_readText_0 ?_
  obtain ⟨M1, h1, hf⟩ := bn1_e hf
  refine j_invV [] [] E (c_X12_startText h1) ml_X12_381 mv_X12_startText rfl ⟨le_ rfl, le_ rfl⟩ (rcM cf_X12) rfl rfl (le_ rfl) ⟨le_ rfl, le_ rfl⟩ dX12_readText_1 ?_
  refine j_aload_n E 0 rfl dX12_readText_4 ?_
  obtain ⟨M2, h2, hf⟩ := bn1_e hf
  refine j_invV [] [] E (c_X12_readCooperative h2) ml_X12_384 mv_X12_readCooperative rfl ⟨le_ rfl, le_ rfl⟩ (rcM cf_X12) rfl rfl (le_ rfl) ⟨le_ rfl, le_ rfl⟩ dX12_readText_5 ?_
  refine j_aload_n E 0 rfl dX12_readText_8 ?_
  obtain ⟨M3, h3, hf⟩ := bn1_e hf
  refine j_invV [] [] E (c_X12_readClasses h3) ml_X12_387 mv_X12_readClasses rfl ⟨le_ rfl, le_ rfl⟩ (rcM cf_X12) rfl rfl (le_ rfl) ⟨le_ rfl, le_ rfl⟩ dX12_readText_9 ?_
  exact b_X12_readText_12 E 2000 _ hf
def f_X12_remember_52 : Nat → MT → Int32 → Option MT
  | 0, _, _ => none
  | n + 1, M, v1 => if 264 ≤ v1 then (bnd (mi M 0 27 ((M.1 0 27) + 1)) (fun M1 => some M1)) else (gd (¬ (v1 < 0 ∨ 264 ≤ v1.toNatClampNeg)) (gd (¬ (((264 * (M.1 0 27)) + v1) < 0 ∨ 1584 ≤ ((264 * (M.1 0 27)) + v1).toNatClampNeg)) (bnd (mi M 4 (((264 * (M.1 0 27)) + v1).toNatClampNeg) (M.1 1 v1.toNatClampNeg)) (fun M2 => f_X12_remember_52 n M2 (v1 + 1)))))
def f_X12_remember_11 : Nat → MT → Int32 → Option MT
  | 0, _, _ => none
  | n + 1, M, v1 => if 1320 ≤ v1 then (bnd (mi M 0 27 ((M.1 0 27) - 1)) (fun M1 => f_X12_remember_52 2000 M1 0)) else (bnd (v1 + 264) (fun x1 => gd (¬ (x1 < 0 ∨ 1584 ≤ x1.toNatClampNeg)) (gd (¬ (v1 < 0 ∨ 1584 ≤ v1.toNatClampNeg)) (bnd (mi M 4 (v1.toNatClampNeg) (M.1 4 x1.toNatClampNeg)) (fun M2 => f_X12_remember_11 n M2 (v1 + 1))))))
def f_X12_remember (M : MT) : Option MT :=
  if (M.1 0 27) = 6 then (f_X12_remember_11 2000 M 0) else (f_X12_remember_52 2000 M 0)
set_option maxRecDepth 20000 in
theorem b_X12_remember_52 {p : Program} {l : Launch} {e : Env} {s : State} {m : MethodId} {args : Array Value} {below : List Frame} {meth : Method} {c : Code} {D : DD} {z : Nat} {X : XT} {o : Int64} {f1 : Nat} (E : Cx p s m args meth c D z RX12 cX12_remember 2 none) {M' : MT} : ∀ (n : Nat) (M : MT) (v1 : Int32) (hf : f_X12_remember_52 n M v1 = some M'), J p l e (rmk 1 0 0) s m args below meth c D z (GG D z (X, (f1 + 1, M, o))) 0 0 (MQ below (QC z none (GG D z (X, (f1 + 1, M', o)))) args s (rmk 1 0 0).cells (rmk 1 0 0).slots (Az z)) 2 52 [(0, .ref (z + aM 0)), (1, .int v1)] [] := by
  intro n
  induction n with
  | zero =>
    intro M v1 hf
    exact none_e hf
  | succ n ih =>
    intro M v1 hf
    rw [f_X12_remember_52] at hf
    refine j_iload_n E 1 rfl dX12_remember_52 ?_
    refine j_sipush E 264 sp_264 dX12_remember_53 ?_
    refine j_icmp_ge E 86 (by decide) dX12_remember_56 (fun c1 => ?_) (fun c1 => ?_)
    · rw [if_pos c1] at hf
      refine j_aload_n E 0 rfl dX12_remember_86 ?_
      refine j_dup E rfl dX12_remember_87 ?_
      refine j_getM (f := 27) E cf_X12 fl_X12_393 (lt_ rfl) rfl rfl dX12_remember_88 ?_
      refine j_iconst E 1 ic_1 dX12_remember_91 ?_
      refine j_iadd E dX12_remember_92 ?_
      obtain ⟨M1, hM1, hf⟩ := bnd_e hf
      refine j_putM (f := 27) E cf_X12 fl_X12_393 (lt_ rfl) ⟨rfl, rfl⟩ (fit_i _) (lt_ rfl) peM_27 hM1 dX12_remember_93 ?_
      cases hf
      exact j_vret E (le_ rfl) (le_ rfl) dX12_remember_96
    · rw [if_neg c1] at hf
      refine j_aload_n E 0 rfl dX12_remember_59 ?_
      refine j_getM (f := 26) E cf_X12 fl_X12_96 (lt_ rfl) rfl rfl dX12_remember_60 ?_
      refine j_sipush E 264 sp_264 dX12_remember_63 ?_
      refine j_aload_n E 0 rfl dX12_remember_66 ?_
      refine j_getM (f := 27) E cf_X12 fl_X12_393 (lt_ rfl) rfl rfl dX12_remember_67 ?_
      refine j_imul E dX12_remember_70 ?_
      refine j_iload_n E 1 rfl dX12_remember_71 ?_
      refine j_iadd E dX12_remember_72 ?_
      refine j_aload_n E 0 rfl dX12_remember_73 ?_
      refine j_getM (f := 1) E cf_X12 fl_X12_17 (lt_ rfl) rfl rfl dX12_remember_74 ?_
      refine j_iload_n E 1 rfl dX12_remember_77 ?_
      obtain ⟨g1, hf⟩ := gd_e hf
      refine j_ialdM E (lt_ rfl) entM1 g1 (v1.toNatClampNeg) rfl dX12_remember_78 ?_
      obtain ⟨g2, hf⟩ := gd_e hf
      obtain ⟨M2, hM2, hf⟩ := bnd_e hf
      refine j_iastM E (lt_ rfl) (fun _ => entM4) g2 (((264 * (M.1 0 27)) + v1).toNatClampNeg) rfl hM2 dX12_remember_79 ?_
      refine j_iinc (ls' := [(1, .int (v1 + 1)), (0, .ref (z + aM 0))]) E 1 rfl (lt_ rfl) (v1 + 1) (congrArg (fun q => v1 + q) ic_1) rfl dX12_remember_80 ?_
      refine j_goto E 52 (by decide) dX12_remember_83 ?_
      refine j_sub [1, 0] rfl ?_
      exact ih _ _ hf
set_option maxRecDepth 20000 in
theorem b_X12_remember_11 {p : Program} {l : Launch} {e : Env} {s : State} {m : MethodId} {args : Array Value} {below : List Frame} {meth : Method} {c : Code} {D : DD} {z : Nat} {X : XT} {o : Int64} {f1 : Nat} (E : Cx p s m args meth c D z RX12 cX12_remember 2 none) {M' : MT} : ∀ (n : Nat) (M : MT) (v1 : Int32) (hf : f_X12_remember_11 n M v1 = some M'), J p l e (rmk 1 0 0) s m args below meth c D z (GG D z (X, (f1 + 1, M, o))) 0 0 (MQ below (QC z none (GG D z (X, (f1 + 1, M', o)))) args s (rmk 1 0 0).cells (rmk 1 0 0).slots (Az z)) 2 11 [(0, .ref (z + aM 0)), (1, .int v1)] [] := by
  intro n
  induction n with
  | zero =>
    intro M v1 hf
    exact none_e hf
  | succ n ih =>
    intro M v1 hf
    rw [f_X12_remember_11] at hf
    refine j_iload_n E 1 rfl dX12_remember_11 ?_
    refine j_sipush E 1320 sp_1320 dX12_remember_12 ?_
    refine j_icmp_ge E 40 (by decide) dX12_remember_15 (fun c1 => ?_) (fun c1 => ?_)
    · rw [if_pos c1] at hf
      refine j_aload_n E 0 rfl dX12_remember_40 ?_
      refine j_dup E rfl dX12_remember_41 ?_
      refine j_getM (f := 27) E cf_X12 fl_X12_393 (lt_ rfl) rfl rfl dX12_remember_42 ?_
      refine j_iconst E 1 ic_1 dX12_remember_45 ?_
      refine j_isub E dX12_remember_46 ?_
      obtain ⟨M1, hM1, hf⟩ := bnd_e hf
      refine j_putM (f := 27) E cf_X12 fl_X12_393 (lt_ rfl) ⟨rfl, rfl⟩ (fit_i _) (lt_ rfl) peM_27 hM1 dX12_remember_47 ?_
      refine j_iconst E 0 ic_0 dX12_remember_50 ?_
      refine j_istore_n (ls' := [(1, .int 0), (0, .ref (z + aM 0))]) E (lt_ rfl) rfl dX12_remember_51 ?_
      refine j_sub [1, 0] rfl ?_
      exact b_X12_remember_52 E 2000 _ _ hf
    · rw [if_neg c1] at hf
      refine j_aload_n E 0 rfl dX12_remember_18 ?_
      refine j_getM (f := 26) E cf_X12 fl_X12_96 (lt_ rfl) rfl rfl dX12_remember_19 ?_
      refine j_iload_n E 1 rfl dX12_remember_22 ?_
      refine j_aload_n E 0 rfl dX12_remember_23 ?_
      refine j_getM (f := 26) E cf_X12 fl_X12_96 (lt_ rfl) rfl rfl dX12_remember_24 ?_
      refine j_iload_n E 1 rfl dX12_remember_27 ?_
      refine j_sipush E 264 sp_264 dX12_remember_28 ?_
      refine j_iadd E dX12_remember_31 ?_
      obtain ⟨x1, hx1, hf⟩ := bnd_e hf
      refine j_name hx1 ?_
      obtain ⟨g1, hf⟩ := gd_e hf
      refine j_ialdM E (lt_ rfl) entM4 g1 (x1.toNatClampNeg) rfl dX12_remember_32 ?_
      obtain ⟨g2, hf⟩ := gd_e hf
      obtain ⟨M2, hM2, hf⟩ := bnd_e hf
      refine j_iastM E (lt_ rfl) (fun _ => entM4) g2 (v1.toNatClampNeg) rfl hM2 dX12_remember_33 ?_
      refine j_iinc (ls' := [(1, .int (v1 + 1)), (0, .ref (z + aM 0))]) E 1 rfl (lt_ rfl) (v1 + 1) (congrArg (fun q => v1 + q) ic_1) rfl dX12_remember_34 ?_
      refine j_goto E 11 (by decide) dX12_remember_37 ?_
      refine j_sub [1, 0] rfl ?_
      exact ih _ _ hf
set_option maxRecDepth 20000 in
theorem c_X12_remember {l : Launch} {D : DD} {z : Nat} {X : XT} {o : Int64} {f1 : Nat} {M : MT} {M' : MT} (hf : f_X12_remember M = some M') : CC l yX12_remember cX12_remember 2 none (rmk 1 0 0) D z [.ref (z + aM 0)] (GG D z (X, (f1 + 1, M, o))) none (GG D z (X, (f1 + 1, M', o))) := by
  unfold f_X12_remember at hf
  refine cc_of pn_X12 (le_ rfl) (ls := [(0, .ref (z + aM 0))]) rfl ?_
  intro p e s m args below meth c E
  refine j_aload_n E 0 rfl dX12_remember_0 ?_
  refine j_getM (f := 27) E cf_X12 fl_X12_393 (lt_ rfl) rfl rfl dX12_remember_1 ?_
  refine j_bipush E 6 bp_6 dX12_remember_4 ?_
  refine j_icmp_ne E 50 (by decide) dX12_remember_6 (fun c1 => ?_) (fun c1 => ?_)
  · rw [if_neg c1] at hf
    refine j_iconst E 0 ic_0 dX12_remember_50 ?_
    refine j_istore_n (ls' := [(1, .int 0), (0, .ref (z + aM 0))]) E (lt_ rfl) rfl dX12_remember_51 ?_
    refine j_sub [1, 0] rfl ?_
    exact b_X12_remember_52 E 2000 _ _ hf
  · rw [if_pos c1] at hf
    refine j_iconst E 0 ic_0 dX12_remember_9 ?_
    refine j_istore_n (ls' := [(1, .int 0), (0, .ref (z + aM 0))]) E (lt_ rfl) rfl dX12_remember_10 ?_
    refine j_sub [1, 0] rfl ?_
    exact b_X12_remember_11 E 2000 _ _ hf
def f_X12_store_3 (v1 : Int32) : Nat → MT → Int32 → Option MT
  | 0, _, _ => none
  | n + 1, M, v2 => if v2 < 0 then (some M) else (gd (¬ ((M.1 0 5) < 0 ∨ 600 ≤ (M.1 0 5).toNatClampNeg)) (bnd (mi M 3 ((M.1 0 5).toNatClampNeg) (((v1 >>> (v2 &&& 31)).toInt8.toInt32)).toInt8.toInt32) (fun M1 => bnd (mi M1 0 5 ((M1.1 0 5) + 1)) (fun M2 => f_X12_store_3 v1 n M2 (v2 + (-8))))))
def f_X12_store (M : MT) (v1 : Int32) : Option MT :=
  f_X12_store_3 v1 2000 M 24
set_option maxRecDepth 20000 in
theorem b_X12_store_3 {p : Program} {l : Launch} {e : Env} {s : State} {m : MethodId} {args : Array Value} {below : List Frame} {meth : Method} {c : Code} {D : DD} {z : Nat} {X : XT} {o : Int64} {f1 : Nat} {v1 : Int32} (E : Cx p s m args meth c D z RX12 cX12_store 3 none) {M' : MT} : ∀ (n : Nat) (M : MT) (v2 : Int32) (hf : f_X12_store_3 v1 n M v2 = some M'), J p l e (rmk 1 0 0) s m args below meth c D z (GG D z (X, (f1 + 1, M, o))) 0 0 (MQ below (QC z none (GG D z (X, (f1 + 1, M', o)))) args s (rmk 1 0 0).cells (rmk 1 0 0).slots (Az z)) 3 3 [(0, .ref (z + aM 0)), (1, .int v1), (2, .int v2)] [] := by
  intro n
  induction n with
  | zero =>
    intro M v2 hf
    exact none_e hf
  | succ n ih =>
    intro M v2 hf
    rw [f_X12_store_3] at hf
    refine j_iload_n E 2 rfl dX12_store_3 ?_
    refine j_if_lt E 36 (by decide) dX12_store_4 (fun c1 => ?_) (fun c1 => ?_)
    · rw [if_pos c1] at hf
      cases hf
      exact j_vret E (le_ rfl) (le_ rfl) dX12_store_36
    · rw [if_neg c1] at hf
      refine j_aload_n E 0 rfl dX12_store_7 ?_
      refine j_getM (f := 4) E cf_X12 fl_X12_27 (lt_ rfl) rfl rfl dX12_store_8 ?_
      refine j_aload_n E 0 rfl dX12_store_11 ?_
      refine j_getM (f := 5) E cf_X12 fl_X12_218 (lt_ rfl) rfl rfl dX12_store_12 ?_
      refine j_iload_n E 1 rfl dX12_store_15 ?_
      refine j_iload_n E 2 rfl dX12_store_16 ?_
      refine j_ishr E dX12_store_17 ?_
      refine j_i2b E dX12_store_18 ?_
      obtain ⟨g1, hf⟩ := gd_e hf
      obtain ⟨M1, hM1, hf⟩ := bnd_e hf
      refine j_bastM E (lt_ rfl) (fun _ => entM3) g1 ((M.1 0 5).toNatClampNeg) rfl hM1 dX12_store_19 ?_
      refine j_aload_n E 0 rfl dX12_store_20 ?_
      refine j_dup E rfl dX12_store_21 ?_
      refine j_getM (f := 5) E cf_X12 fl_X12_218 (lt_ rfl) rfl rfl dX12_store_22 ?_
      refine j_iconst E 1 ic_1 dX12_store_25 ?_
      refine j_iadd E dX12_store_26 ?_
      obtain ⟨M2, hM2, hf⟩ := bnd_e hf
      refine j_putM (f := 5) E cf_X12 fl_X12_218 (lt_ rfl) ⟨rfl, rfl⟩ (fit_i _) (lt_ rfl) peM_5 hM2 dX12_store_27 ?_
      refine j_iinc (ls' := [(2, .int (v2 + (-8))), (0, .ref (z + aM 0)), (1, .int v1)]) E 2 rfl (lt_ rfl) (v2 + (-8)) (congrArg (fun q => v2 + q) ic_m8) rfl dX12_store_30 ?_
      refine j_goto E 3 (by decide) dX12_store_33 ?_
      refine j_sub [1, 2, 0] rfl ?_
      exact ih _ _ hf
set_option maxRecDepth 20000 in
theorem c_X12_store {l : Launch} {D : DD} {z : Nat} {X : XT} {o : Int64} {f1 : Nat} {M : MT} {v1 : Int32} {M' : MT} (hf : f_X12_store M v1 = some M') : CC l yX12_store cX12_store 3 none (rmk 1 0 0) D z [.ref (z + aM 0), .int v1] (GG D z (X, (f1 + 1, M, o))) none (GG D z (X, (f1 + 1, M', o))) := by
  unfold f_X12_store at hf
  refine cc_of pn_X12 (le_ rfl) (ls := [(0, .ref (z + aM 0)), (1, .int v1)]) rfl ?_
  intro p e s m args below meth c E
  refine j_bipush E 24 bp_24 dX12_store_0 ?_
  refine j_istore_n (ls' := [(2, .int 24), (0, .ref (z + aM 0)), (1, .int v1)]) E (lt_ rfl) rfl dX12_store_2 ?_
  refine j_sub [1, 2, 0] rfl ?_
  exact b_X12_store_3 E 2000 _ _ hf
def f_X12_append (M : MT) (v1 : Int32) (v2 : Int32) (v3 : Int32) (v4 : Int32) (v5 : Int32) : Option (Int32 × MT) :=
  if 600 < ((M.1 0 5) + 20) then (bn2 (f_X12_passes1 M 0) (fun r1 M1 => if r1 = 0 then (some (0, M1)) else (bn1 (f_X12_store M1 v1) (fun M2 => bn1 (f_X12_store M2 v2) (fun M3 => bn1 (f_X12_store M3 v3) (fun M4 => bn1 (f_X12_store M4 v4) (fun M5 => bn1 (f_X12_store M5 v5) (fun M6 => some ((M6.1 0 5), M6))))))))) else (bn2 (f_X12_passes1 M 1) (fun r2 M7 => if r2 = 0 then (some (0, M7)) else (bn1 (f_X12_store M7 v1) (fun M8 => bn1 (f_X12_store M8 v2) (fun M9 => bn1 (f_X12_store M9 v3) (fun M10 => bn1 (f_X12_store M10 v4) (fun M11 => bn1 (f_X12_store M11 v5) (fun M12 => some ((M12.1 0 5), M12)))))))))
set_option maxRecDepth 20000 in
theorem c_X12_append {l : Launch} {D : DD} {z : Nat} {X : XT} {o : Int64} {f1 : Nat} {M : MT} {v1 : Int32} {v2 : Int32} {v3 : Int32} {v4 : Int32} {v5 : Int32} {r : Int32} {M' : MT} (hf : f_X12_append M v1 v2 v3 v4 v5 = some (r, M')) : CC l yX12_append cX12_append 6 (some .int) (rmk 3 0 0) D z [.ref (z + aM 0), .int v1, .int v2, .int v3, .int v4, .int v5] (GG D z (X, (f1 + 1, M, o))) (some (.int r)) (GG D z (X, (f1 + 1, M', o))) := by
  unfold f_X12_append at hf
  refine cc_of pn_X12 (le_ rfl) (ls := [(0, .ref (z + aM 0)), (1, .int v1), (2, .int v2), (3, .int v3), (4, .int v4), (5, .int v5)]) rfl ?_
  intro p e s m args below meth c E
  refine j_aload_n E 0 rfl dX12_append_0 ?_
  refine j_aload_n E 0 rfl dX12_append_1 ?_
  refine j_getM (f := 5) E cf_X12 fl_X12_218 (lt_ rfl) rfl rfl dX12_append_2 ?_
  refine j_bipush E 20 bp_20 dX12_append_5 ?_
  refine j_iadd E dX12_append_7 ?_
  refine j_sipush E 600 sp_600 dX12_append_8 ?_
  refine j_icmp_gt E 18 (by decide) dX12_append_11 (fun c1 => ?_) (fun c1 => ?_)
  · rw [if_pos c1] at hf
    refine j_iconst E 0 ic_0 dX12_append_18 ?_
    obtain ⟨r1, M1, h1, hf⟩ := bn2_e hf
    refine j_invV [] [.int r1] E (c_X12_passes1 h1) ml_X12_396 mv_X12_passes1 rfl ⟨le_ rfl, le_ rfl⟩ (rcM cf_X12) rfl rfl (le_ rfl) ⟨le_ rfl, le_ rfl⟩ dX12_append_19 ?_
    refine j_if_ne E 27 (by decide) dX12_append_22 (fun c2 => ?_) (fun c2 => ?_)
    · rw [if_neg c2] at hf
      refine j_aload_n E 0 rfl dX12_append_27 ?_
      refine j_iload_n E 1 rfl dX12_append_28 ?_
      obtain ⟨M2, h2, hf⟩ := bn1_e hf
      refine j_invV [] [] E (c_X12_store h2) ml_X12_400 mv_X12_store rfl ⟨le_ rfl, le_ rfl⟩ (rcM cf_X12) rfl rfl (le_ rfl) ⟨le_ rfl, le_ rfl⟩ dX12_append_29 ?_
      refine j_aload_n E 0 rfl dX12_append_32 ?_
      refine j_iload_n E 2 rfl dX12_append_33 ?_
      obtain ⟨M3, h3, hf⟩ := bn1_e hf
      refine j_invV [] [] E (c_X12_store h3) ml_X12_400 mv_X12_store rfl ⟨le_ rfl, le_ rfl⟩ (rcM cf_X12) rfl rfl (le_ rfl) ⟨le_ rfl, le_ rfl⟩ dX12_append_34 ?_
      refine j_aload_n E 0 rfl dX12_append_37 ?_
      refine j_iload_n E 3 rfl dX12_append_38 ?_
      obtain ⟨M4, h4, hf⟩ := bn1_e hf
      refine j_invV [] [] E (c_X12_store h4) ml_X12_400 mv_X12_store rfl ⟨le_ rfl, le_ rfl⟩ (rcM cf_X12) rfl rfl (le_ rfl) ⟨le_ rfl, le_ rfl⟩ dX12_append_39 ?_
      refine j_aload_n E 0 rfl dX12_append_42 ?_
      refine j_iload E 4 rfl dX12_append_43 ?_
      obtain ⟨M5, h5, hf⟩ := bn1_e hf
      refine j_invV [] [] E (c_X12_store h5) ml_X12_400 mv_X12_store rfl ⟨le_ rfl, le_ rfl⟩ (rcM cf_X12) rfl rfl (le_ rfl) ⟨le_ rfl, le_ rfl⟩ dX12_append_45 ?_
      refine j_aload_n E 0 rfl dX12_append_48 ?_
      refine j_iload E 5 rfl dX12_append_49 ?_
      obtain ⟨M6, h6, hf⟩ := bn1_e hf
      refine j_invV [] [] E (c_X12_store h6) ml_X12_400 mv_X12_store rfl ⟨le_ rfl, le_ rfl⟩ (rcM cf_X12) rfl rfl (le_ rfl) ⟨le_ rfl, le_ rfl⟩ dX12_append_51 ?_
      refine j_aload_n E 0 rfl dX12_append_54 ?_
      refine j_getM (f := 5) E cf_X12 fl_X12_218 (lt_ rfl) rfl rfl dX12_append_55 ?_
      cases hf
      exact j_iret E rfl (le_ rfl) (le_ rfl) dX12_append_58
    · rw [if_pos c2] at hf
      refine j_iconst E 0 ic_0 dX12_append_25 ?_
      cases hf
      exact j_iret E rfl (le_ rfl) (le_ rfl) dX12_append_26
  · rw [if_neg c1] at hf
    refine j_iconst E 1 ic_1 dX12_append_14 ?_
    refine j_goto E 19 (by decide) dX12_append_15 ?_
    obtain ⟨r2, M7, h7, hf⟩ := bn2_e hf
    refine j_invV [] [.int r2] E (c_X12_passes1 h7) ml_X12_396 mv_X12_passes1 rfl ⟨le_ rfl, le_ rfl⟩ (rcM cf_X12) rfl rfl (le_ rfl) ⟨le_ rfl, le_ rfl⟩ dX12_append_19 ?_
    refine j_if_ne E 27 (by decide) dX12_append_22 (fun c3 => ?_) (fun c3 => ?_)
    · rw [if_neg c3] at hf
      refine j_aload_n E 0 rfl dX12_append_27 ?_
      refine j_iload_n E 1 rfl dX12_append_28 ?_
      obtain ⟨M8, h8, hf⟩ := bn1_e hf
      refine j_invV [] [] E (c_X12_store h8) ml_X12_400 mv_X12_store rfl ⟨le_ rfl, le_ rfl⟩ (rcM cf_X12) rfl rfl (le_ rfl) ⟨le_ rfl, le_ rfl⟩ dX12_append_29 ?_
      refine j_aload_n E 0 rfl dX12_append_32 ?_
      refine j_iload_n E 2 rfl dX12_append_33 ?_
      obtain ⟨M9, h9, hf⟩ := bn1_e hf
      refine j_invV [] [] E (c_X12_store h9) ml_X12_400 mv_X12_store rfl ⟨le_ rfl, le_ rfl⟩ (rcM cf_X12) rfl rfl (le_ rfl) ⟨le_ rfl, le_ rfl⟩ dX12_append_34 ?_
      refine j_aload_n E 0 rfl dX12_append_37 ?_
      refine j_iload_n E 3 rfl dX12_append_38 ?_
      obtain ⟨M10, h10, hf⟩ := bn1_e hf
      refine j_invV [] [] E (c_X12_store h10) ml_X12_400 mv_X12_store rfl ⟨le_ rfl, le_ rfl⟩ (rcM cf_X12) rfl rfl (le_ rfl) ⟨le_ rfl, le_ rfl⟩ dX12_append_39 ?_
      refine j_aload_n E 0 rfl dX12_append_42 ?_
      refine j_iload E 4 rfl dX12_append_43 ?_
      obtain ⟨M11, h11, hf⟩ := bn1_e hf
      refine j_invV [] [] E (c_X12_store h11) ml_X12_400 mv_X12_store rfl ⟨le_ rfl, le_ rfl⟩ (rcM cf_X12) rfl rfl (le_ rfl) ⟨le_ rfl, le_ rfl⟩ dX12_append_45 ?_
      refine j_aload_n E 0 rfl dX12_append_48 ?_
      refine j_iload E 5 rfl dX12_append_49 ?_
      obtain ⟨M12, h12, hf⟩ := bn1_e hf
      refine j_invV [] [] E (c_X12_store h12) ml_X12_400 mv_X12_store rfl ⟨le_ rfl, le_ rfl⟩ (rcM cf_X12) rfl rfl (le_ rfl) ⟨le_ rfl, le_ rfl⟩ dX12_append_51 ?_
      refine j_aload_n E 0 rfl dX12_append_54 ?_
      refine j_getM (f := 5) E cf_X12 fl_X12_218 (lt_ rfl) rfl rfl dX12_append_55 ?_
      cases hf
      exact j_iret E rfl (le_ rfl) (le_ rfl) dX12_append_58
    · rw [if_pos c3] at hf
      refine j_iconst E 0 ic_0 dX12_append_25 ?_
      cases hf
      exact j_iret E rfl (le_ rfl) (le_ rfl) dX12_append_26
def f_X12_truncate (M : MT) (v1 : Int32) : Option (Int32 × MT) :=
  bn1 (f_X12_in (v1.toInt64) 0 ((M.1 0 5).toInt64)) (fun r1 => bn2 (f_X12_passes1 M r1) (fun r2 M1 => if r2 = 0 then (some (0, M1)) else (bnd (mi M1 0 5 v1) (fun M2 => some (v1, M2)))))
set_option maxRecDepth 20000 in
theorem c_X12_truncate {l : Launch} {D : DD} {z : Nat} {X : XT} {o : Int64} {f1 : Nat} {M : MT} {v1 : Int32} {r : Int32} {M' : MT} (hf : f_X12_truncate M v1 = some (r, M')) : CC l yX12_truncate cX12_truncate 2 (some .int) (rmk 3 0 0) D z [.ref (z + aM 0), .int v1] (GG D z (X, (f1 + 1, M, o))) (some (.int r)) (GG D z (X, (f1 + 1, M', o))) := by
  unfold f_X12_truncate at hf
  refine cc_of pn_X12 (le_ rfl) (ls := [(0, .ref (z + aM 0)), (1, .int v1)]) rfl ?_
  intro p e s m args below meth c E
  refine j_aload_n E 0 rfl dX12_truncate_0 ?_
  refine j_iload_n E 1 rfl dX12_truncate_1 ?_
  refine j_i2l E dX12_truncate_2 ?_
  refine j_lconst E 0 rfl dX12_truncate_3 ?_
  refine j_aload_n E 0 rfl dX12_truncate_4 ?_
  refine j_getM (f := 5) E cf_X12 fl_X12_218 (lt_ rfl) rfl rfl dX12_truncate_5 ?_
  refine j_i2l E dX12_truncate_8 ?_
  obtain ⟨r1, h1, hf⟩ := bn1_e hf
  refine j_invS [.ref (z + aM 0)] [.int r1, .ref (z + aM 0)] E (c_X12_in h1) ml_X12_282 ms_X12_in rfl ⟨le_ rfl, le_ rfl⟩ rfl rfl (le_ rfl) ⟨le_ rfl, le_ rfl⟩ dX12_truncate_9 ?_
  obtain ⟨r2, M1, h2, hf⟩ := bn2_e hf
  refine j_invV [] [.int r2] E (c_X12_passes1 h2) ml_X12_396 mv_X12_passes1 rfl ⟨le_ rfl, le_ rfl⟩ (rcM cf_X12) rfl rfl (le_ rfl) ⟨le_ rfl, le_ rfl⟩ dX12_truncate_12 ?_
  refine j_if_ne E 20 (by decide) dX12_truncate_15 (fun c1 => ?_) (fun c1 => ?_)
  · rw [if_neg c1] at hf
    refine j_aload_n E 0 rfl dX12_truncate_20 ?_
    refine j_iload_n E 1 rfl dX12_truncate_21 ?_
    obtain ⟨M2, hM2, hf⟩ := bnd_e hf
    refine j_putM (f := 5) E cf_X12 fl_X12_218 (lt_ rfl) ⟨rfl, rfl⟩ (fit_i _) (lt_ rfl) peM_5 hM2 dX12_truncate_22 ?_
    refine j_iload_n E 1 rfl dX12_truncate_25 ?_
    cases hf
    exact j_iret E rfl (le_ rfl) (le_ rfl) dX12_truncate_26
  · rw [if_pos c1] at hf
    refine j_iconst E 0 ic_0 dX12_truncate_18 ?_
    cases hf
    exact j_iret E rfl (le_ rfl) (le_ rfl) dX12_truncate_19
def f_X12_load_73 : Nat → MT → Int32 → Option (Int32 × MT)
  | 0, _, _ => none
  | n + 1, M, v1 => if 264 ≤ v1 then (some ((M.1 1 7), M)) else (gd (¬ (v1 < 0 ∨ 264 ≤ v1.toNatClampNeg)) (gd (¬ (v1 < 0 ∨ 264 ≤ v1.toNatClampNeg)) (bnd (mi M 1 (v1.toNatClampNeg) (M.1 2 v1.toNatClampNeg)) (fun M1 => f_X12_load_73 n M1 (v1 + 1)))))
def f_X12_load (M : MT) : Option (Int32 × MT) :=
  bnd (mi M 0 0 0) (fun M1 => bnd (mr M1 2) (fun M2 => bn1 (f_X12_readText M2) (fun M3 => bnd (mr M3 1) (fun M4 => bnd (mi M4 0 5 0) (fun M5 => bnd (mi M5 0 30 (M5.1 0 12)) (fun M6 => bn1 (f_X12_isGood M6) (fun r1 => if r1 = 0 then (bnd (mi M6 0 31 (M6.1 0 13)) (fun M7 => bn1 (f_X12_isGood M7) (fun r2 => if r2 = 0 then (some ((-7), M7)) else (bn1 (f_X12_remember M7) (fun M8 => f_X12_load_73 2000 M8 0))))) else (bnd (mi M6 0 31 (-1)) (fun M9 => bn1 (f_X12_isGood M9) (fun r3 => if r3 = 0 then (some ((-7), M9)) else (bn1 (f_X12_remember M9) (fun M10 => f_X12_load_73 2000 M10 0))))))))))))
set_option maxRecDepth 20000 in
theorem b_X12_load_73 {p : Program} {l : Launch} {e : Env} {s : State} {m : MethodId} {args : Array Value} {below : List Frame} {meth : Method} {c : Code} {D : DD} {z : Nat} {X : XT} {o : Int64} {f1 : Nat} (E : Cx p s m args meth c D z RX12 cX12_load 2 (some .int)) {r : Int32} {M' : MT} : ∀ (n : Nat) (M : MT) (v1 : Int32) (hf : f_X12_load_73 n M v1 = some (r, M')), J p l e (rmk 9 0 0) s m args below meth c D z (GG D z (X, (f1 + 1, M, o))) 0 0 (MQ below (QC z (some (.int r)) (GG D z (X, (f1 + 1, M', o)))) args s (rmk 9 0 0).cells (rmk 9 0 0).slots (Az z)) 2 73 [(0, .ref (z + aM 0)), (1, .int v1)] [] := by
  intro n
  induction n with
  | zero =>
    intro M v1 hf
    exact none_e hf
  | succ n ih =>
    intro M v1 hf
    rw [f_X12_load_73] at hf
    refine j_iload_n E 1 rfl dX12_load_73 ?_
    refine j_sipush E 264 sp_264 dX12_load_74 ?_
    refine j_icmp_ge E 98 (by decide) dX12_load_77 (fun c1 => ?_) (fun c1 => ?_)
    · rw [if_pos c1] at hf
      refine j_aload_n E 0 rfl dX12_load_98 ?_
      refine j_getM (f := 1) E cf_X12 fl_X12_17 (lt_ rfl) rfl rfl dX12_load_99 ?_
      refine j_bipush E 7 bp_7 dX12_load_102 ?_
      refine j_ialdM E (lt_ rfl) entM1 (vi_7 (lt_ rfl)) (7) tn_7 dX12_load_104 ?_
      cases hf
      exact j_iret E rfl (le_ rfl) (le_ rfl) dX12_load_105
    · rw [if_neg c1] at hf
      refine j_aload_n E 0 rfl dX12_load_80 ?_
      refine j_getM (f := 1) E cf_X12 fl_X12_17 (lt_ rfl) rfl rfl dX12_load_81 ?_
      refine j_iload_n E 1 rfl dX12_load_84 ?_
      refine j_aload_n E 0 rfl dX12_load_85 ?_
      refine j_getM (f := 2) E cf_X12 fl_X12_21 (lt_ rfl) rfl rfl dX12_load_86 ?_
      refine j_iload_n E 1 rfl dX12_load_89 ?_
      obtain ⟨g1, hf⟩ := gd_e hf
      refine j_ialdM E (lt_ rfl) entM2 g1 (v1.toNatClampNeg) rfl dX12_load_90 ?_
      obtain ⟨g2, hf⟩ := gd_e hf
      obtain ⟨M1, hM1, hf⟩ := bnd_e hf
      refine j_iastM E (lt_ rfl) (fun _ => entM1) g2 (v1.toNatClampNeg) rfl hM1 dX12_load_91 ?_
      refine j_iinc (ls' := [(1, .int (v1 + 1)), (0, .ref (z + aM 0))]) E 1 rfl (lt_ rfl) (v1 + 1) (congrArg (fun q => v1 + q) ic_1) rfl dX12_load_92 ?_
      refine j_goto E 73 (by decide) dX12_load_95 ?_
      refine j_sub [1, 0] rfl ?_
      exact ih _ _ hf
set_option maxRecDepth 20000 in
theorem c_X12_load {l : Launch} {D : DD} {z : Nat} {X : XT} {o : Int64} {f1 : Nat} {M : MT} {r : Int32} {M' : MT} (hf : f_X12_load M = some (r, M')) : CC l yX12_load cX12_load 2 (some .int) (rmk 9 0 0) D z [.ref (z + aM 0)] (GG D z (X, (f1 + 1, M, o))) (some (.int r)) (GG D z (X, (f1 + 1, M', o))) := by
  unfold f_X12_load at hf
  refine cc_of pn_X12 (le_ rfl) (ls := [(0, .ref (z + aM 0))]) rfl ?_
  intro p e s m args below meth c E
  refine j_aload_n E 0 rfl dX12_load_0 ?_
  refine j_iconst E 0 ic_0 dX12_load_1 ?_
  obtain ⟨M1, hM1, hf⟩ := bnd_e hf
  refine j_putM (f := 0) E cf_X12 fl_X12_3 (lt_ rfl) ⟨rfl, rfl⟩ (fit_i _) (lt_ rfl) peM_0 hM1 dX12_load_2 ?_
  refine j_aload_n E 0 rfl dX12_load_5 ?_
  refine j_aload_n E 0 rfl dX12_load_6 ?_
  refine j_getM (f := 2) E cf_X12 fl_X12_21 (lt_ rfl) rfl rfl dX12_load_7 ?_
  obtain ⟨M2, hM2, hf⟩ := bnd_e hf
  refine j_putMr E cf_X12 fl_X12_24 (lt_ rfl) ⟨rfl, rfl⟩ (fun _ => ⟨rfl, rfl⟩) (by decide) hM2 dX12_load_10 ?_
  refine j_aload_n E 0 rfl dX12_load_13 ?_
  obtain ⟨M3, h1, hf⟩ := bn1_e hf
  refine j_invV [] [] E (c_X12_readText h1) ml_X12_403 mv_X12_readText rfl ⟨le_ rfl, le_ rfl⟩ (rcM cf_X12) rfl rfl (le_ rfl) ⟨le_ rfl, le_ rfl⟩ dX12_load_14 ?_
  refine j_aload_n E 0 rfl dX12_load_17 ?_
  refine j_aload_n E 0 rfl dX12_load_18 ?_
  refine j_getM (f := 1) E cf_X12 fl_X12_17 (lt_ rfl) rfl rfl dX12_load_19 ?_
  obtain ⟨M4, hM4, hf⟩ := bnd_e hf
  refine j_putMr E cf_X12 fl_X12_24 (lt_ rfl) ⟨rfl, rfl⟩ (fun _ => ⟨rfl, rfl⟩) (by decide) hM4 dX12_load_22 ?_
  refine j_aload_n E 0 rfl dX12_load_25 ?_
  refine j_iconst E 0 ic_0 dX12_load_26 ?_
  obtain ⟨M5, hM5, hf⟩ := bnd_e hf
  refine j_putM (f := 5) E cf_X12 fl_X12_218 (lt_ rfl) ⟨rfl, rfl⟩ (fit_i _) (lt_ rfl) peM_5 hM5 dX12_load_27 ?_
  refine j_aload_n E 0 rfl dX12_load_30 ?_
  refine j_aload_n E 0 rfl dX12_load_31 ?_
  refine j_getM (f := 12) E cf_X12 fl_X12_256 (lt_ rfl) rfl rfl dX12_load_32 ?_
  obtain ⟨M6, hM6, hf⟩ := bnd_e hf
  refine j_putM (f := 30) E cf_X12 fl_X12_406 (lt_ rfl) ⟨rfl, rfl⟩ (fit_i _) (lt_ rfl) peM_30 hM6 dX12_load_35 ?_
  refine j_aload_n E 0 rfl dX12_load_38 ?_
  refine j_aload_n E 0 rfl dX12_load_39 ?_
  obtain ⟨r1, h2, hf⟩ := bn1_e hf
  refine j_invV [.ref (z + aM 0)] [.int r1, .ref (z + aM 0)] E (c_X12_isGood h2) ml_X12_275 mv_X12_isGood rfl ⟨le_ rfl, le_ rfl⟩ (rcM cf_X12) rfl rfl (le_ rfl) ⟨le_ rfl, le_ rfl⟩ dX12_load_40 ?_
  refine j_if_eq E 50 (by decide) dX12_load_43 (fun c1 => ?_) (fun c1 => ?_)
  · rw [if_pos c1] at hf
    refine j_aload_n E 0 rfl dX12_load_50 ?_
    refine j_getM (f := 13) E cf_X12 fl_X12_262 (lt_ rfl) rfl rfl dX12_load_51 ?_
    obtain ⟨M7, hM7, hf⟩ := bnd_e hf
    refine j_putM (f := 31) E cf_X12 fl_X12_102 (lt_ rfl) ⟨rfl, rfl⟩ (fit_i _) (lt_ rfl) peM_31 hM7 dX12_load_54 ?_
    refine j_aload_n E 0 rfl dX12_load_57 ?_
    obtain ⟨r2, h3, hf⟩ := bn1_e hf
    refine j_invV [] [.int r2] E (c_X12_isGood h3) ml_X12_275 mv_X12_isGood rfl ⟨le_ rfl, le_ rfl⟩ (rcM cf_X12) rfl rfl (le_ rfl) ⟨le_ rfl, le_ rfl⟩ dX12_load_58 ?_
    refine j_if_ne E 67 (by decide) dX12_load_61 (fun c2 => ?_) (fun c2 => ?_)
    · rw [if_neg c2] at hf
      refine j_aload_n E 0 rfl dX12_load_67 ?_
      obtain ⟨M8, h4, hf⟩ := bn1_e hf
      refine j_invV [] [] E (c_X12_remember h4) ml_X12_409 mv_X12_remember rfl ⟨le_ rfl, le_ rfl⟩ (rcM cf_X12) rfl rfl (le_ rfl) ⟨le_ rfl, le_ rfl⟩ dX12_load_68 ?_
      refine j_iconst E 0 ic_0 dX12_load_71 ?_
      refine j_istore_n (ls' := [(1, .int 0), (0, .ref (z + aM 0))]) E (lt_ rfl) rfl dX12_load_72 ?_
      refine j_sub [1, 0] rfl ?_
      exact b_X12_load_73 E 2000 _ _ hf
    · rw [if_pos c2] at hf
      refine j_bipush E (-7) bp_m7 dX12_load_64 ?_
      cases hf
      exact j_iret E rfl (le_ rfl) (le_ rfl) dX12_load_66
  · rw [if_neg c1] at hf
    refine j_iconst E (-1) ic_m1 dX12_load_46 ?_
    refine j_goto E 54 (by decide) dX12_load_47 ?_
    obtain ⟨M9, hM9, hf⟩ := bnd_e hf
    refine j_putM (f := 31) E cf_X12 fl_X12_102 (lt_ rfl) ⟨rfl, rfl⟩ (fit_i _) (lt_ rfl) peM_31 hM9 dX12_load_54 ?_
    refine j_aload_n E 0 rfl dX12_load_57 ?_
    obtain ⟨r3, h5, hf⟩ := bn1_e hf
    refine j_invV [] [.int r3] E (c_X12_isGood h5) ml_X12_275 mv_X12_isGood rfl ⟨le_ rfl, le_ rfl⟩ (rcM cf_X12) rfl rfl (le_ rfl) ⟨le_ rfl, le_ rfl⟩ dX12_load_58 ?_
    refine j_if_ne E 67 (by decide) dX12_load_61 (fun c3 => ?_) (fun c3 => ?_)
    · rw [if_neg c3] at hf
      refine j_aload_n E 0 rfl dX12_load_67 ?_
      obtain ⟨M10, h6, hf⟩ := bn1_e hf
      refine j_invV [] [] E (c_X12_remember h6) ml_X12_409 mv_X12_remember rfl ⟨le_ rfl, le_ rfl⟩ (rcM cf_X12) rfl rfl (le_ rfl) ⟨le_ rfl, le_ rfl⟩ dX12_load_68 ?_
      refine j_iconst E 0 ic_0 dX12_load_71 ?_
      refine j_istore_n (ls' := [(1, .int 0), (0, .ref (z + aM 0))]) E (lt_ rfl) rfl dX12_load_72 ?_
      refine j_sub [1, 0] rfl ?_
      exact b_X12_load_73 E 2000 _ _ hf
    · rw [if_pos c3] at hf
      refine j_bipush E (-7) bp_m7 dX12_load_64 ?_
      cases hf
      exact j_iret E rfl (le_ rfl) (le_ rfl) dX12_load_66
def f_X12_errorCode (M : MT) : Option (Int32 × MT) :=
  bnd (mi M 0 0 0) (fun M1 => some ((M1.1 0 30), M1))
set_option maxRecDepth 20000 in
theorem c_X12_errorCode {l : Launch} {D : DD} {z : Nat} {X : XT} {o : Int64} {f1 : Nat} {M : MT} {r : Int32} {M' : MT} (hf : f_X12_errorCode M = some (r, M')) : CC l yX12_errorCode cX12_errorCode 1 (some .int) (rmk 1 0 0) D z [.ref (z + aM 0)] (GG D z (X, (f1 + 1, M, o))) (some (.int r)) (GG D z (X, (f1 + 1, M', o))) := by
  unfold f_X12_errorCode at hf
  refine cc_of pn_X12 (le_ rfl) (ls := [(0, .ref (z + aM 0))]) rfl ?_
  intro p e s m args below meth c E
  refine j_aload_n E 0 rfl dX12_errorCode_0 ?_
  refine j_iconst E 0 ic_0 dX12_errorCode_1 ?_
  obtain ⟨M1, hM1, hf⟩ := bnd_e hf
  refine j_putM (f := 0) E cf_X12 fl_X12_3 (lt_ rfl) ⟨rfl, rfl⟩ (fit_i _) (lt_ rfl) peM_0 hM1 dX12_errorCode_2 ?_
  refine j_aload_n E 0 rfl dX12_errorCode_5 ?_
  refine j_getM (f := 30) E cf_X12 fl_X12_406 (lt_ rfl) rfl rfl dX12_errorCode_6 ?_
  cases hf
  exact j_iret E rfl (le_ rfl) (le_ rfl) dX12_errorCode_9
def f_X12_errorOffset (M : MT) : Option (Int32 × MT) :=
  bnd (mi M 0 0 0) (fun M1 => some ((M1.1 0 31), M1))
set_option maxRecDepth 20000 in
theorem c_X12_errorOffset {l : Launch} {D : DD} {z : Nat} {X : XT} {o : Int64} {f1 : Nat} {M : MT} {r : Int32} {M' : MT} (hf : f_X12_errorOffset M = some (r, M')) : CC l yX12_errorOffset cX12_errorOffset 1 (some .int) (rmk 1 0 0) D z [.ref (z + aM 0)] (GG D z (X, (f1 + 1, M, o))) (some (.int r)) (GG D z (X, (f1 + 1, M', o))) := by
  unfold f_X12_errorOffset at hf
  refine cc_of pn_X12 (le_ rfl) (ls := [(0, .ref (z + aM 0))]) rfl ?_
  intro p e s m args below meth c E
  refine j_aload_n E 0 rfl dX12_errorOffset_0 ?_
  refine j_iconst E 0 ic_0 dX12_errorOffset_1 ?_
  obtain ⟨M1, hM1, hf⟩ := bnd_e hf
  refine j_putM (f := 0) E cf_X12 fl_X12_3 (lt_ rfl) ⟨rfl, rfl⟩ (fit_i _) (lt_ rfl) peM_0 hM1 dX12_errorOffset_2 ?_
  refine j_aload_n E 0 rfl dX12_errorOffset_5 ?_
  refine j_getM (f := 31) E cf_X12 fl_X12_102 (lt_ rfl) rfl rfl dX12_errorOffset_6 ?_
  cases hf
  exact j_iret E rfl (le_ rfl) (le_ rfl) dX12_errorOffset_9
def f_X12_hasPair (M : MT) (v1 : Int32) (v2 : Int32) : Option Int32 :=
  bn1 (f_X12_in (v1.toInt64) 0 (((M.1 1 4) - 1).toInt64)) (fun r1 => if r1 = 0 then (some 0) else (bn1 (f_X12_in (v2.toInt64) 0 (((M.1 1 3) - 1).toInt64)) (fun r2 => if r2 = 0 then (some 0) else (some 1))))
set_option maxRecDepth 20000 in
theorem c_X12_hasPair {l : Launch} {D : DD} {z : Nat} {X : XT} {o : Int64} {f1 : Nat} {M : MT} {v1 : Int32} {v2 : Int32} {r : Int32} (hf : f_X12_hasPair M v1 v2 = some r) : CC l yX12_hasPair cX12_hasPair 3 (some .boolean) (rmk 2 0 0) D z [.ref (z + aM 0), .int v1, .int v2] (GG D z (X, (f1 + 1, M, o))) (some (.int r)) (GG D z (X, (f1 + 1, M, o))) := by
  unfold f_X12_hasPair at hf
  refine cc_of pn_X12 (le_ rfl) (ls := [(0, .ref (z + aM 0)), (1, .int v1), (2, .int v2)]) rfl ?_
  intro p e s m args below meth c E
  refine j_iload_n E 1 rfl dX12_hasPair_0 ?_
  refine j_i2l E dX12_hasPair_1 ?_
  refine j_lconst E 0 rfl dX12_hasPair_2 ?_
  refine j_aload_n E 0 rfl dX12_hasPair_3 ?_
  refine j_getM (f := 1) E cf_X12 fl_X12_17 (lt_ rfl) rfl rfl dX12_hasPair_4 ?_
  refine j_iconst E 4 ic_4 dX12_hasPair_7 ?_
  refine j_ialdM E (lt_ rfl) entM1 (vi_4 (lt_ rfl)) (4) tn_4 dX12_hasPair_8 ?_
  refine j_iconst E 1 ic_1 dX12_hasPair_9 ?_
  refine j_isub E dX12_hasPair_10 ?_
  refine j_i2l E dX12_hasPair_11 ?_
  obtain ⟨r1, h1, hf⟩ := bn1_e hf
  refine j_invS [] [.int r1] E (c_X12_in h1) ml_X12_282 ms_X12_in rfl ⟨le_ rfl, le_ rfl⟩ rfl rfl (le_ rfl) ⟨le_ rfl, le_ rfl⟩ dX12_hasPair_12 ?_
  refine j_if_eq E 40 (by decide) dX12_hasPair_15 (fun c1 => ?_) (fun c1 => ?_)
  · rw [if_pos c1] at hf
    refine j_iconst E 0 ic_0 dX12_hasPair_40 ?_
    cases hf
    exact j_iret E rfl (le_ rfl) (le_ rfl) dX12_hasPair_41
  · rw [if_neg c1] at hf
    refine j_iload_n E 2 rfl dX12_hasPair_18 ?_
    refine j_i2l E dX12_hasPair_19 ?_
    refine j_lconst E 0 rfl dX12_hasPair_20 ?_
    refine j_aload_n E 0 rfl dX12_hasPair_21 ?_
    refine j_getM (f := 1) E cf_X12 fl_X12_17 (lt_ rfl) rfl rfl dX12_hasPair_22 ?_
    refine j_iconst E 3 ic_3 dX12_hasPair_25 ?_
    refine j_ialdM E (lt_ rfl) entM1 (vi_3 (lt_ rfl)) (3) tn_3 dX12_hasPair_26 ?_
    refine j_iconst E 1 ic_1 dX12_hasPair_27 ?_
    refine j_isub E dX12_hasPair_28 ?_
    refine j_i2l E dX12_hasPair_29 ?_
    obtain ⟨r2, h2, hf⟩ := bn1_e hf
    refine j_invS [] [.int r2] E (c_X12_in h2) ml_X12_282 ms_X12_in rfl ⟨le_ rfl, le_ rfl⟩ rfl rfl (le_ rfl) ⟨le_ rfl, le_ rfl⟩ dX12_hasPair_30 ?_
    refine j_if_eq E 40 (by decide) dX12_hasPair_33 (fun c2 => ?_) (fun c2 => ?_)
    · rw [if_pos c2] at hf
      refine j_iconst E 0 ic_0 dX12_hasPair_40 ?_
      cases hf
      exact j_iret E rfl (le_ rfl) (le_ rfl) dX12_hasPair_41
    · rw [if_neg c2] at hf
      refine j_iconst E 1 ic_1 dX12_hasPair_36 ?_
      refine j_goto E 41 (by decide) dX12_hasPair_37 ?_
      cases hf
      exact j_iret E rfl (le_ rfl) (le_ rfl) dX12_hasPair_41
def f_X12_hasVariety (M : MT) (v1 : Int32) : Option Int32 :=
  bn1 (f_X12_in (v1.toInt64) 0 (((M.1 1 4) - 1).toInt64)) (fun r1 => gd (r1 &&& 1 = r1) (some r1))
set_option maxRecDepth 20000 in
theorem c_X12_hasVariety {l : Launch} {D : DD} {z : Nat} {X : XT} {o : Int64} {f1 : Nat} {M : MT} {v1 : Int32} {r : Int32} (hf : f_X12_hasVariety M v1 = some r) : CC l yX12_hasVariety cX12_hasVariety 2 (some .boolean) (rmk 2 0 0) D z [.ref (z + aM 0), .int v1] (GG D z (X, (f1 + 1, M, o))) (some (.int r)) (GG D z (X, (f1 + 1, M, o))) := by
  unfold f_X12_hasVariety at hf
  refine cc_of pn_X12 (le_ rfl) (ls := [(0, .ref (z + aM 0)), (1, .int v1)]) rfl ?_
  intro p e s m args below meth c E
  refine j_iload_n E 1 rfl dX12_hasVariety_0 ?_
  refine j_i2l E dX12_hasVariety_1 ?_
  refine j_lconst E 0 rfl dX12_hasVariety_2 ?_
  refine j_aload_n E 0 rfl dX12_hasVariety_3 ?_
  refine j_getM (f := 1) E cf_X12 fl_X12_17 (lt_ rfl) rfl rfl dX12_hasVariety_4 ?_
  refine j_iconst E 4 ic_4 dX12_hasVariety_7 ?_
  refine j_ialdM E (lt_ rfl) entM1 (vi_4 (lt_ rfl)) (4) tn_4 dX12_hasVariety_8 ?_
  refine j_iconst E 1 ic_1 dX12_hasVariety_9 ?_
  refine j_isub E dX12_hasVariety_10 ?_
  refine j_i2l E dX12_hasVariety_11 ?_
  obtain ⟨r1, h1, hf⟩ := bn1_e hf
  refine j_invS [] [.int r1] E (c_X12_in h1) ml_X12_282 ms_X12_in rfl ⟨le_ rfl, le_ rfl⟩ rfl rfl (le_ rfl) ⟨le_ rfl, le_ rfl⟩ dX12_hasVariety_12 ?_
  obtain ⟨g1, hf⟩ := gd_e hf
  cases hf
  exact j_iret E (nz_ g1) (le_ rfl) (le_ rfl) dX12_hasVariety_15
def f_X12_hasGrower (M : MT) (v1 : Int32) : Option Int32 :=
  bn1 (f_X12_in (v1.toInt64) 0 (((M.1 1 5) - 1).toInt64)) (fun r1 => gd (r1 &&& 1 = r1) (some r1))
set_option maxRecDepth 20000 in
theorem c_X12_hasGrower {l : Launch} {D : DD} {z : Nat} {X : XT} {o : Int64} {f1 : Nat} {M : MT} {v1 : Int32} {r : Int32} (hf : f_X12_hasGrower M v1 = some r) : CC l yX12_hasGrower cX12_hasGrower 2 (some .boolean) (rmk 2 0 0) D z [.ref (z + aM 0), .int v1] (GG D z (X, (f1 + 1, M, o))) (some (.int r)) (GG D z (X, (f1 + 1, M, o))) := by
  unfold f_X12_hasGrower at hf
  refine cc_of pn_X12 (le_ rfl) (ls := [(0, .ref (z + aM 0)), (1, .int v1)]) rfl ?_
  intro p e s m args below meth c E
  refine j_iload_n E 1 rfl dX12_hasGrower_0 ?_
  refine j_i2l E dX12_hasGrower_1 ?_
  refine j_lconst E 0 rfl dX12_hasGrower_2 ?_
  refine j_aload_n E 0 rfl dX12_hasGrower_3 ?_
  refine j_getM (f := 1) E cf_X12 fl_X12_17 (lt_ rfl) rfl rfl dX12_hasGrower_4 ?_
  refine j_iconst E 5 ic_5 dX12_hasGrower_7 ?_
  refine j_ialdM E (lt_ rfl) entM1 (vi_5 (lt_ rfl)) (5) tn_5 dX12_hasGrower_8 ?_
  refine j_iconst E 1 ic_1 dX12_hasGrower_9 ?_
  refine j_isub E dX12_hasGrower_10 ?_
  refine j_i2l E dX12_hasGrower_11 ?_
  obtain ⟨r1, h1, hf⟩ := bn1_e hf
  refine j_invS [] [.int r1] E (c_X12_in h1) ml_X12_282 ms_X12_in rfl ⟨le_ rfl, le_ rfl⟩ rfl rfl (le_ rfl) ⟨le_ rfl, le_ rfl⟩ dX12_hasGrower_12 ?_
  obtain ⟨g1, hf⟩ := gd_e hf
  cases hf
  exact j_iret E (nz_ g1) (le_ rfl) (le_ rfl) dX12_hasGrower_15
def f_X12_hasPlot (M : MT) (v1 : Int32) : Option Int32 :=
  bn1 (f_X12_in (v1.toInt64) 0 (((M.1 1 6) - 1).toInt64)) (fun r1 => gd (r1 &&& 1 = r1) (some r1))
set_option maxRecDepth 20000 in
theorem c_X12_hasPlot {l : Launch} {D : DD} {z : Nat} {X : XT} {o : Int64} {f1 : Nat} {M : MT} {v1 : Int32} {r : Int32} (hf : f_X12_hasPlot M v1 = some r) : CC l yX12_hasPlot cX12_hasPlot 2 (some .boolean) (rmk 2 0 0) D z [.ref (z + aM 0), .int v1] (GG D z (X, (f1 + 1, M, o))) (some (.int r)) (GG D z (X, (f1 + 1, M, o))) := by
  unfold f_X12_hasPlot at hf
  refine cc_of pn_X12 (le_ rfl) (ls := [(0, .ref (z + aM 0)), (1, .int v1)]) rfl ?_
  intro p e s m args below meth c E
  refine j_iload_n E 1 rfl dX12_hasPlot_0 ?_
  refine j_i2l E dX12_hasPlot_1 ?_
  refine j_lconst E 0 rfl dX12_hasPlot_2 ?_
  refine j_aload_n E 0 rfl dX12_hasPlot_3 ?_
  refine j_getM (f := 1) E cf_X12 fl_X12_17 (lt_ rfl) rfl rfl dX12_hasPlot_4 ?_
  refine j_bipush E 6 bp_6 dX12_hasPlot_7 ?_
  refine j_ialdM E (lt_ rfl) entM1 (vi_6 (lt_ rfl)) (6) tn_6 dX12_hasPlot_9 ?_
  refine j_iconst E 1 ic_1 dX12_hasPlot_10 ?_
  refine j_isub E dX12_hasPlot_11 ?_
  refine j_i2l E dX12_hasPlot_12 ?_
  obtain ⟨r1, h1, hf⟩ := bn1_e hf
  refine j_invS [] [.int r1] E (c_X12_in h1) ml_X12_282 ms_X12_in rfl ⟨le_ rfl, le_ rfl⟩ rfl rfl (le_ rfl) ⟨le_ rfl, le_ rfl⟩ dX12_hasPlot_13 ?_
  obtain ⟨g1, hf⟩ := gd_e hf
  cases hf
  exact j_iret E (nz_ g1) (le_ rfl) (le_ rfl) dX12_hasPlot_16
def f_X12_hasLoad (M : MT) (v1 : Int32) : Option Int32 :=
  bn1 (f_X12_in (v1.toInt64) 0 (((M.1 1 7) - 1).toInt64)) (fun r1 => gd (r1 &&& 1 = r1) (some r1))
set_option maxRecDepth 20000 in
theorem c_X12_hasLoad {l : Launch} {D : DD} {z : Nat} {X : XT} {o : Int64} {f1 : Nat} {M : MT} {v1 : Int32} {r : Int32} (hf : f_X12_hasLoad M v1 = some r) : CC l yX12_hasLoad cX12_hasLoad 2 (some .boolean) (rmk 2 0 0) D z [.ref (z + aM 0), .int v1] (GG D z (X, (f1 + 1, M, o))) (some (.int r)) (GG D z (X, (f1 + 1, M, o))) := by
  unfold f_X12_hasLoad at hf
  refine cc_of pn_X12 (le_ rfl) (ls := [(0, .ref (z + aM 0)), (1, .int v1)]) rfl ?_
  intro p e s m args below meth c E
  refine j_iload_n E 1 rfl dX12_hasLoad_0 ?_
  refine j_i2l E dX12_hasLoad_1 ?_
  refine j_lconst E 0 rfl dX12_hasLoad_2 ?_
  refine j_aload_n E 0 rfl dX12_hasLoad_3 ?_
  refine j_getM (f := 1) E cf_X12 fl_X12_17 (lt_ rfl) rfl rfl dX12_hasLoad_4 ?_
  refine j_bipush E 7 bp_7 dX12_hasLoad_7 ?_
  refine j_ialdM E (lt_ rfl) entM1 (vi_7 (lt_ rfl)) (7) tn_7 dX12_hasLoad_9 ?_
  refine j_iconst E 1 ic_1 dX12_hasLoad_10 ?_
  refine j_isub E dX12_hasLoad_11 ?_
  refine j_i2l E dX12_hasLoad_12 ?_
  obtain ⟨r1, h1, hf⟩ := bn1_e hf
  refine j_invS [] [.int r1] E (c_X12_in h1) ml_X12_282 ms_X12_in rfl ⟨le_ rfl, le_ rfl⟩ rfl rfl (le_ rfl) ⟨le_ rfl, le_ rfl⟩ dX12_hasLoad_13 ?_
  obtain ⟨g1, hf⟩ := gd_e hf
  cases hf
  exact j_iret E (nz_ g1) (le_ rfl) (le_ rfl) dX12_hasLoad_16
def f_X12_hasTank (M : MT) (v1 : Int32) : Option Int32 :=
  bn1 (f_X12_in (v1.toInt64) 0 (((M.1 1 8) - 1).toInt64)) (fun r1 => gd (r1 &&& 1 = r1) (some r1))
set_option maxRecDepth 20000 in
theorem c_X12_hasTank {l : Launch} {D : DD} {z : Nat} {X : XT} {o : Int64} {f1 : Nat} {M : MT} {v1 : Int32} {r : Int32} (hf : f_X12_hasTank M v1 = some r) : CC l yX12_hasTank cX12_hasTank 2 (some .boolean) (rmk 2 0 0) D z [.ref (z + aM 0), .int v1] (GG D z (X, (f1 + 1, M, o))) (some (.int r)) (GG D z (X, (f1 + 1, M, o))) := by
  unfold f_X12_hasTank at hf
  refine cc_of pn_X12 (le_ rfl) (ls := [(0, .ref (z + aM 0)), (1, .int v1)]) rfl ?_
  intro p e s m args below meth c E
  refine j_iload_n E 1 rfl dX12_hasTank_0 ?_
  refine j_i2l E dX12_hasTank_1 ?_
  refine j_lconst E 0 rfl dX12_hasTank_2 ?_
  refine j_aload_n E 0 rfl dX12_hasTank_3 ?_
  refine j_getM (f := 1) E cf_X12 fl_X12_17 (lt_ rfl) rfl rfl dX12_hasTank_4 ?_
  refine j_bipush E 8 bp_8 dX12_hasTank_7 ?_
  refine j_ialdM E (lt_ rfl) entM1 (vi_8 (lt_ rfl)) (8) tn_8 dX12_hasTank_9 ?_
  refine j_iconst E 1 ic_1 dX12_hasTank_10 ?_
  refine j_isub E dX12_hasTank_11 ?_
  refine j_i2l E dX12_hasTank_12 ?_
  obtain ⟨r1, h1, hf⟩ := bn1_e hf
  refine j_invS [] [.int r1] E (c_X12_in h1) ml_X12_282 ms_X12_in rfl ⟨le_ rfl, le_ rfl⟩ rfl rfl (le_ rfl) ⟨le_ rfl, le_ rfl⟩ dX12_hasTank_13 ?_
  obtain ⟨g1, hf⟩ := gd_e hf
  cases hf
  exact j_iret E (nz_ g1) (le_ rfl) (le_ rfl) dX12_hasTank_16
def f_X12_hasLot (M : MT) (v1 : Int32) : Option Int32 :=
  bn1 (f_X12_in (v1.toInt64) 0 (((M.1 1 9) - 1).toInt64)) (fun r1 => gd (r1 &&& 1 = r1) (some r1))
set_option maxRecDepth 20000 in
theorem c_X12_hasLot {l : Launch} {D : DD} {z : Nat} {X : XT} {o : Int64} {f1 : Nat} {M : MT} {v1 : Int32} {r : Int32} (hf : f_X12_hasLot M v1 = some r) : CC l yX12_hasLot cX12_hasLot 2 (some .boolean) (rmk 2 0 0) D z [.ref (z + aM 0), .int v1] (GG D z (X, (f1 + 1, M, o))) (some (.int r)) (GG D z (X, (f1 + 1, M, o))) := by
  unfold f_X12_hasLot at hf
  refine cc_of pn_X12 (le_ rfl) (ls := [(0, .ref (z + aM 0)), (1, .int v1)]) rfl ?_
  intro p e s m args below meth c E
  refine j_iload_n E 1 rfl dX12_hasLot_0 ?_
  refine j_i2l E dX12_hasLot_1 ?_
  refine j_lconst E 0 rfl dX12_hasLot_2 ?_
  refine j_aload_n E 0 rfl dX12_hasLot_3 ?_
  refine j_getM (f := 1) E cf_X12 fl_X12_17 (lt_ rfl) rfl rfl dX12_hasLot_4 ?_
  refine j_bipush E 9 bp_9 dX12_hasLot_7 ?_
  refine j_ialdM E (lt_ rfl) entM1 (vi_9 (lt_ rfl)) (9) tn_9 dX12_hasLot_9 ?_
  refine j_iconst E 1 ic_1 dX12_hasLot_10 ?_
  refine j_isub E dX12_hasLot_11 ?_
  refine j_i2l E dX12_hasLot_12 ?_
  obtain ⟨r1, h1, hf⟩ := bn1_e hf
  refine j_invS [] [.int r1] E (c_X12_in h1) ml_X12_282 ms_X12_in rfl ⟨le_ rfl, le_ rfl⟩ rfl rfl (le_ rfl) ⟨le_ rfl, le_ rfl⟩ dX12_hasLot_13 ?_
  obtain ⟨g1, hf⟩ := gd_e hf
  cases hf
  exact j_iret E (nz_ g1) (le_ rfl) (le_ rfl) dX12_hasLot_16
def f_X12_tell (M : MT) (v1 : Int32) : Option (Int32 × MT) :=
  bnd (mi M 0 0 0) (fun M1 => gd (¬ (v1 < 0 ∨ 264 ≤ v1.toNatClampNeg)) (some ((M1.1 1 v1.toNatClampNeg), M1)))
set_option maxRecDepth 20000 in
theorem c_X12_tell {l : Launch} {D : DD} {z : Nat} {X : XT} {o : Int64} {f1 : Nat} {M : MT} {v1 : Int32} {r : Int32} {M' : MT} (hf : f_X12_tell M v1 = some (r, M')) : CC l yX12_tell cX12_tell 2 (some .int) (rmk 1 0 0) D z [.ref (z + aM 0), .int v1] (GG D z (X, (f1 + 1, M, o))) (some (.int r)) (GG D z (X, (f1 + 1, M', o))) := by
  unfold f_X12_tell at hf
  refine cc_of pn_X12 (le_ rfl) (ls := [(0, .ref (z + aM 0)), (1, .int v1)]) rfl ?_
  intro p e s m args below meth c E
  refine j_aload_n E 0 rfl dX12_tell_0 ?_
  refine j_iconst E 0 ic_0 dX12_tell_1 ?_
  obtain ⟨M1, hM1, hf⟩ := bnd_e hf
  refine j_putM (f := 0) E cf_X12 fl_X12_3 (lt_ rfl) ⟨rfl, rfl⟩ (fit_i _) (lt_ rfl) peM_0 hM1 dX12_tell_2 ?_
  refine j_aload_n E 0 rfl dX12_tell_5 ?_
  refine j_getM (f := 1) E cf_X12 fl_X12_17 (lt_ rfl) rfl rfl dX12_tell_6 ?_
  refine j_iload_n E 1 rfl dX12_tell_9 ?_
  obtain ⟨g1, hf⟩ := gd_e hf
  refine j_ialdM E (lt_ rfl) entM1 g1 (v1.toNatClampNeg) rfl dX12_tell_10 ?_
  cases hf
  exact j_iret E rfl (le_ rfl) (le_ rfl) dX12_tell_11
def f_X12_varietyCount (M : MT) : Option (Int32 × MT) :=
  bn2 (f_X12_tell M 4) (fun r1 M1 => some (r1, M1))
set_option maxRecDepth 20000 in
theorem c_X12_varietyCount {l : Launch} {D : DD} {z : Nat} {X : XT} {o : Int64} {f1 : Nat} {M : MT} {r : Int32} {M' : MT} (hf : f_X12_varietyCount M = some (r, M')) : CC l yX12_varietyCount cX12_varietyCount 1 (some .int) (rmk 2 0 0) D z [.ref (z + aM 0)] (GG D z (X, (f1 + 1, M, o))) (some (.int r)) (GG D z (X, (f1 + 1, M', o))) := by
  unfold f_X12_varietyCount at hf
  refine cc_of pn_X12 (le_ rfl) (ls := [(0, .ref (z + aM 0))]) rfl ?_
  intro p e s m args below meth c E
  refine j_aload_n E 0 rfl dX12_varietyCount_0 ?_
  refine j_iconst E 4 ic_4 dX12_varietyCount_1 ?_
  obtain ⟨r1, M1, h1, hf⟩ := bn2_e hf
  refine j_invV [] [.int r1] E (c_X12_tell h1) ml_X12_412 mv_X12_tell rfl ⟨le_ rfl, le_ rfl⟩ (rcM cf_X12) rfl rfl (le_ rfl) ⟨le_ rfl, le_ rfl⟩ dX12_varietyCount_2 ?_
  cases hf
  exact j_iret E rfl (le_ rfl) (le_ rfl) dX12_varietyCount_5
def f_X12_classCount (M : MT) : Option (Int32 × MT) :=
  bn2 (f_X12_tell M 3) (fun r1 M1 => some (r1, M1))
set_option maxRecDepth 20000 in
theorem c_X12_classCount {l : Launch} {D : DD} {z : Nat} {X : XT} {o : Int64} {f1 : Nat} {M : MT} {r : Int32} {M' : MT} (hf : f_X12_classCount M = some (r, M')) : CC l yX12_classCount cX12_classCount 1 (some .int) (rmk 2 0 0) D z [.ref (z + aM 0)] (GG D z (X, (f1 + 1, M, o))) (some (.int r)) (GG D z (X, (f1 + 1, M', o))) := by
  unfold f_X12_classCount at hf
  refine cc_of pn_X12 (le_ rfl) (ls := [(0, .ref (z + aM 0))]) rfl ?_
  intro p e s m args below meth c E
  refine j_aload_n E 0 rfl dX12_classCount_0 ?_
  refine j_iconst E 3 ic_3 dX12_classCount_1 ?_
  obtain ⟨r1, M1, h1, hf⟩ := bn2_e hf
  refine j_invV [] [.int r1] E (c_X12_tell h1) ml_X12_412 mv_X12_tell rfl ⟨le_ rfl, le_ rfl⟩ (rcM cf_X12) rfl rfl (le_ rfl) ⟨le_ rfl, le_ rfl⟩ dX12_classCount_2 ?_
  cases hf
  exact j_iret E rfl (le_ rfl) (le_ rfl) dX12_classCount_5
def f_X12_growerCount (M : MT) : Option (Int32 × MT) :=
  bn2 (f_X12_tell M 5) (fun r1 M1 => some (r1, M1))
set_option maxRecDepth 20000 in
theorem c_X12_growerCount {l : Launch} {D : DD} {z : Nat} {X : XT} {o : Int64} {f1 : Nat} {M : MT} {r : Int32} {M' : MT} (hf : f_X12_growerCount M = some (r, M')) : CC l yX12_growerCount cX12_growerCount 1 (some .int) (rmk 2 0 0) D z [.ref (z + aM 0)] (GG D z (X, (f1 + 1, M, o))) (some (.int r)) (GG D z (X, (f1 + 1, M', o))) := by
  unfold f_X12_growerCount at hf
  refine cc_of pn_X12 (le_ rfl) (ls := [(0, .ref (z + aM 0))]) rfl ?_
  intro p e s m args below meth c E
  refine j_aload_n E 0 rfl dX12_growerCount_0 ?_
  refine j_iconst E 5 ic_5 dX12_growerCount_1 ?_
  obtain ⟨r1, M1, h1, hf⟩ := bn2_e hf
  refine j_invV [] [.int r1] E (c_X12_tell h1) ml_X12_412 mv_X12_tell rfl ⟨le_ rfl, le_ rfl⟩ (rcM cf_X12) rfl rfl (le_ rfl) ⟨le_ rfl, le_ rfl⟩ dX12_growerCount_2 ?_
  cases hf
  exact j_iret E rfl (le_ rfl) (le_ rfl) dX12_growerCount_5
def f_X12_plotCount (M : MT) : Option (Int32 × MT) :=
  bn2 (f_X12_tell M 6) (fun r1 M1 => some (r1, M1))
set_option maxRecDepth 20000 in
theorem c_X12_plotCount {l : Launch} {D : DD} {z : Nat} {X : XT} {o : Int64} {f1 : Nat} {M : MT} {r : Int32} {M' : MT} (hf : f_X12_plotCount M = some (r, M')) : CC l yX12_plotCount cX12_plotCount 1 (some .int) (rmk 2 0 0) D z [.ref (z + aM 0)] (GG D z (X, (f1 + 1, M, o))) (some (.int r)) (GG D z (X, (f1 + 1, M', o))) := by
  unfold f_X12_plotCount at hf
  refine cc_of pn_X12 (le_ rfl) (ls := [(0, .ref (z + aM 0))]) rfl ?_
  intro p e s m args below meth c E
  refine j_aload_n E 0 rfl dX12_plotCount_0 ?_
  refine j_bipush E 6 bp_6 dX12_plotCount_1 ?_
  obtain ⟨r1, M1, h1, hf⟩ := bn2_e hf
  refine j_invV [] [.int r1] E (c_X12_tell h1) ml_X12_412 mv_X12_tell rfl ⟨le_ rfl, le_ rfl⟩ (rcM cf_X12) rfl rfl (le_ rfl) ⟨le_ rfl, le_ rfl⟩ dX12_plotCount_3 ?_
  cases hf
  exact j_iret E rfl (le_ rfl) (le_ rfl) dX12_plotCount_6
def f_X12_loadCount (M : MT) : Option (Int32 × MT) :=
  bn2 (f_X12_tell M 7) (fun r1 M1 => some (r1, M1))
set_option maxRecDepth 20000 in
theorem c_X12_loadCount {l : Launch} {D : DD} {z : Nat} {X : XT} {o : Int64} {f1 : Nat} {M : MT} {r : Int32} {M' : MT} (hf : f_X12_loadCount M = some (r, M')) : CC l yX12_loadCount cX12_loadCount 1 (some .int) (rmk 2 0 0) D z [.ref (z + aM 0)] (GG D z (X, (f1 + 1, M, o))) (some (.int r)) (GG D z (X, (f1 + 1, M', o))) := by
  unfold f_X12_loadCount at hf
  refine cc_of pn_X12 (le_ rfl) (ls := [(0, .ref (z + aM 0))]) rfl ?_
  intro p e s m args below meth c E
  refine j_aload_n E 0 rfl dX12_loadCount_0 ?_
  refine j_bipush E 7 bp_7 dX12_loadCount_1 ?_
  obtain ⟨r1, M1, h1, hf⟩ := bn2_e hf
  refine j_invV [] [.int r1] E (c_X12_tell h1) ml_X12_412 mv_X12_tell rfl ⟨le_ rfl, le_ rfl⟩ (rcM cf_X12) rfl rfl (le_ rfl) ⟨le_ rfl, le_ rfl⟩ dX12_loadCount_3 ?_
  cases hf
  exact j_iret E rfl (le_ rfl) (le_ rfl) dX12_loadCount_6
def f_X12_lotCount (M : MT) : Option (Int32 × MT) :=
  bn2 (f_X12_tell M 9) (fun r1 M1 => some (r1, M1))
set_option maxRecDepth 20000 in
theorem c_X12_lotCount {l : Launch} {D : DD} {z : Nat} {X : XT} {o : Int64} {f1 : Nat} {M : MT} {r : Int32} {M' : MT} (hf : f_X12_lotCount M = some (r, M')) : CC l yX12_lotCount cX12_lotCount 1 (some .int) (rmk 2 0 0) D z [.ref (z + aM 0)] (GG D z (X, (f1 + 1, M, o))) (some (.int r)) (GG D z (X, (f1 + 1, M', o))) := by
  unfold f_X12_lotCount at hf
  refine cc_of pn_X12 (le_ rfl) (ls := [(0, .ref (z + aM 0))]) rfl ?_
  intro p e s m args below meth c E
  refine j_aload_n E 0 rfl dX12_lotCount_0 ?_
  refine j_bipush E 9 bp_9 dX12_lotCount_1 ?_
  obtain ⟨r1, M1, h1, hf⟩ := bn2_e hf
  refine j_invV [] [.int r1] E (c_X12_tell h1) ml_X12_412 mv_X12_tell rfl ⟨le_ rfl, le_ rfl⟩ (rcM cf_X12) rfl rfl (le_ rfl) ⟨le_ rfl, le_ rfl⟩ dX12_lotCount_3 ?_
  cases hf
  exact j_iret E rfl (le_ rfl) (le_ rfl) dX12_lotCount_6
def f_X12_classBySugar (M : MT) (v1 : Int32) : Option (Int32 × MT) :=
  bn1 (f_X12_in (v1.toInt64) 0 250) (fun r1 => bn2 (f_X12_passes1 M r1) (fun r2 M1 => if r2 = 0 then (some (0, M1)) else (bn1 (f_X12_gradeOf M1 v1) (fun r3 => some (r3, M1)))))
set_option maxRecDepth 20000 in
theorem c_X12_classBySugar {l : Launch} {D : DD} {z : Nat} {X : XT} {o : Int64} {f1 : Nat} {M : MT} {v1 : Int32} {r : Int32} {M' : MT} (hf : f_X12_classBySugar M v1 = some (r, M')) : CC l yX12_classBySugar cX12_classBySugar 2 (some .int) (rmk 3 0 0) D z [.ref (z + aM 0), .int v1] (GG D z (X, (f1 + 1, M, o))) (some (.int r)) (GG D z (X, (f1 + 1, M', o))) := by
  unfold f_X12_classBySugar at hf
  refine cc_of pn_X12 (le_ rfl) (ls := [(0, .ref (z + aM 0)), (1, .int v1)]) rfl ?_
  intro p e s m args below meth c E
  refine j_aload_n E 0 rfl dX12_classBySugar_0 ?_
  refine j_iload_n E 1 rfl dX12_classBySugar_1 ?_
  refine j_i2l E dX12_classBySugar_2 ?_
  refine j_lconst E 0 rfl dX12_classBySugar_3 ?_
  refine j_ldc2 E ct_X12_415 dX12_classBySugar_4 ?_
  obtain ⟨r1, h1, hf⟩ := bn1_e hf
  refine j_invS [.ref (z + aM 0)] [.int r1, .ref (z + aM 0)] E (c_X12_in h1) ml_X12_282 ms_X12_in rfl ⟨le_ rfl, le_ rfl⟩ rfl rfl (le_ rfl) ⟨le_ rfl, le_ rfl⟩ dX12_classBySugar_7 ?_
  obtain ⟨r2, M1, h2, hf⟩ := bn2_e hf
  refine j_invV [] [.int r2] E (c_X12_passes1 h2) ml_X12_396 mv_X12_passes1 rfl ⟨le_ rfl, le_ rfl⟩ (rcM cf_X12) rfl rfl (le_ rfl) ⟨le_ rfl, le_ rfl⟩ dX12_classBySugar_10 ?_
  refine j_if_eq E 24 (by decide) dX12_classBySugar_13 (fun c1 => ?_) (fun c1 => ?_)
  · rw [if_pos c1] at hf
    refine j_iconst E 0 ic_0 dX12_classBySugar_24 ?_
    cases hf
    exact j_iret E rfl (le_ rfl) (le_ rfl) dX12_classBySugar_25
  · rw [if_neg c1] at hf
    refine j_aload_n E 0 rfl dX12_classBySugar_16 ?_
    refine j_iload_n E 1 rfl dX12_classBySugar_17 ?_
    obtain ⟨r3, h3, hf⟩ := bn1_e hf
    refine j_invV [] [.int r3] E (c_X12_gradeOf h3) ml_X12_161 mv_X12_gradeOf rfl ⟨le_ rfl, le_ rfl⟩ (rcM cf_X12) rfl rfl (le_ rfl) ⟨le_ rfl, le_ rfl⟩ dX12_classBySugar_18 ?_
    refine j_goto E 25 (by decide) dX12_classBySugar_21 ?_
    cases hf
    exact j_iret E rfl (le_ rfl) (le_ rfl) dX12_classBySugar_25
def f_X12_price (M : MT) (v1 : Int32) (v2 : Int32) : Option (Int32 × MT) :=
  bn1 (f_X12_hasPair M v1 v2) (fun r1 => bn2 (f_X12_passes1 M r1) (fun r2 M1 => if r2 = 0 then (some (0, M1)) else (bn1 (f_X12_priceOf M1 v1 v2) (fun r3 => some (r3, M1)))))
set_option maxRecDepth 20000 in
theorem c_X12_price {l : Launch} {D : DD} {z : Nat} {X : XT} {o : Int64} {f1 : Nat} {M : MT} {v1 : Int32} {v2 : Int32} {r : Int32} {M' : MT} (hf : f_X12_price M v1 v2 = some (r, M')) : CC l yX12_price cX12_price 3 (some .int) (rmk 3 0 0) D z [.ref (z + aM 0), .int v1, .int v2] (GG D z (X, (f1 + 1, M, o))) (some (.int r)) (GG D z (X, (f1 + 1, M', o))) := by
  unfold f_X12_price at hf
  refine cc_of pn_X12 (le_ rfl) (ls := [(0, .ref (z + aM 0)), (1, .int v1), (2, .int v2)]) rfl ?_
  intro p e s m args below meth c E
  refine j_aload_n E 0 rfl dX12_price_0 ?_
  refine j_aload_n E 0 rfl dX12_price_1 ?_
  refine j_iload_n E 1 rfl dX12_price_2 ?_
  refine j_iload_n E 2 rfl dX12_price_3 ?_
  obtain ⟨r1, h1, hf⟩ := bn1_e hf
  refine j_invV [.ref (z + aM 0)] [.int r1, .ref (z + aM 0)] E (c_X12_hasPair h1) ml_X12_417 mv_X12_hasPair rfl ⟨le_ rfl, le_ rfl⟩ (rcM cf_X12) rfl rfl (le_ rfl) ⟨le_ rfl, le_ rfl⟩ dX12_price_4 ?_
  obtain ⟨r2, M1, h2, hf⟩ := bn2_e hf
  refine j_invV [] [.int r2] E (c_X12_passes1 h2) ml_X12_396 mv_X12_passes1 rfl ⟨le_ rfl, le_ rfl⟩ (rcM cf_X12) rfl rfl (le_ rfl) ⟨le_ rfl, le_ rfl⟩ dX12_price_7 ?_
  refine j_if_eq E 22 (by decide) dX12_price_10 (fun c1 => ?_) (fun c1 => ?_)
  · rw [if_pos c1] at hf
    refine j_iconst E 0 ic_0 dX12_price_22 ?_
    cases hf
    exact j_iret E rfl (le_ rfl) (le_ rfl) dX12_price_23
  · rw [if_neg c1] at hf
    refine j_aload_n E 0 rfl dX12_price_13 ?_
    refine j_iload_n E 1 rfl dX12_price_14 ?_
    refine j_iload_n E 2 rfl dX12_price_15 ?_
    obtain ⟨r3, h3, hf⟩ := bn1_e hf
    refine j_invV [] [.int r3] E (c_X12_priceOf h3) ml_X12_186 mv_X12_priceOf rfl ⟨le_ rfl, le_ rfl⟩ (rcM cf_X12) rfl rfl (le_ rfl) ⟨le_ rfl, le_ rfl⟩ dX12_price_16 ?_
    refine j_goto E 23 (by decide) dX12_price_19 ?_
    cases hf
    exact j_iret E rfl (le_ rfl) (le_ rfl) dX12_price_23
def f_X12_weightBy_5 (M : MT) (v1 : Int32) (v2 : Int32) : Nat → Int32 → Int32 → Option Int32
  | 0, _, _ => none
  | n + 1, v3, v4 => if (M.1 1 7) ≤ v4 then (some v3) else (bn1 (f_X12_varietyOf M v4) (fun r1 => if r1 = v1 then (bn1 (f_X12_ofLoad M v4 3) (fun r2 => if r2 = v2 then (bn1 (f_X12_ofLoad M v4 1) (fun r3 => bnd (v3 + r3) (fun x3 => f_X12_weightBy_5 M v1 v2 n x3 (v4 + 1)))) else (bnd (v3 + 0) (fun x2 => f_X12_weightBy_5 M v1 v2 n x2 (v4 + 1))))) else (bnd (v3 + 0) (fun x1 => f_X12_weightBy_5 M v1 v2 n x1 (v4 + 1)))))
def f_X12_weightBy (M : MT) (v1 : Int32) (v2 : Int32) : Option Int32 :=
  f_X12_weightBy_5 M v1 v2 2000 0 0
set_option maxRecDepth 20000 in
theorem b_X12_weightBy_5 {p : Program} {l : Launch} {e : Env} {s : State} {m : MethodId} {args : Array Value} {below : List Frame} {meth : Method} {c : Code} {D : DD} {z : Nat} {X : XT} {o : Int64} {f1 : Nat} {M : MT} {v1 : Int32} {v2 : Int32} (E : Cx p s m args meth c D z RX12 cX12_weightBy 5 (some .int)) {r : Int32} : ∀ (n : Nat) (v3 : Int32) (v4 : Int32) (hf : f_X12_weightBy_5 M v1 v2 n v3 v4 = some r), J p l e (rmk 3 0 0) s m args below meth c D z (GG D z (X, (f1 + 1, M, o))) 0 0 (MQ below (QC z (some (.int r)) (GG D z (X, (f1 + 1, M, o)))) args s (rmk 3 0 0).cells (rmk 3 0 0).slots (Az z)) 5 5 [(0, .ref (z + aM 0)), (1, .int v1), (2, .int v2), (3, .int v3), (4, .int v4)] [] := by
  intro n
  induction n with
  | zero =>
    intro v3 v4 hf
    exact none_e hf
  | succ n ih =>
    intro v3 v4 hf
    rw [f_X12_weightBy_5] at hf
    refine j_iload E 4 rfl dX12_weightBy_5 ?_
    refine j_aload_n E 0 rfl dX12_weightBy_7 ?_
    refine j_getM (f := 1) E cf_X12 fl_X12_17 (lt_ rfl) rfl rfl dX12_weightBy_8 ?_
    refine j_bipush E 7 bp_7 dX12_weightBy_11 ?_
    refine j_ialdM E (lt_ rfl) entM1 (vi_7 (lt_ rfl)) (7) tn_7 dX12_weightBy_13 ?_
    refine j_icmp_ge E 58 (by decide) dX12_weightBy_14 (fun c1 => ?_) (fun c1 => ?_)
    · rw [if_pos c1] at hf
      refine j_iload_n E 3 rfl dX12_weightBy_58 ?_
      cases hf
      exact j_iret E rfl (le_ rfl) (le_ rfl) dX12_weightBy_59
    · rw [if_neg c1] at hf
      refine j_iload_n E 3 rfl dX12_weightBy_17 ?_
      refine j_aload_n E 0 rfl dX12_weightBy_18 ?_
      refine j_iload E 4 rfl dX12_weightBy_19 ?_
      obtain ⟨r1, h1, hf⟩ := bn1_e hf
      refine j_invV [.int v3] [.int r1, .int v3] E (c_X12_varietyOf h1) ml_X12_183 mv_X12_varietyOf rfl ⟨le_ rfl, le_ rfl⟩ (rcM cf_X12) rfl rfl (le_ rfl) ⟨le_ rfl, le_ rfl⟩ dX12_weightBy_21 ?_
      refine j_iload_n E 1 rfl dX12_weightBy_24 ?_
      refine j_icmp_ne E 49 (by decide) dX12_weightBy_25 (fun c2 => ?_) (fun c2 => ?_)
      · rw [if_neg c2] at hf
        refine j_iconst E 0 ic_0 dX12_weightBy_49 ?_
        refine j_iadd E dX12_weightBy_50 ?_
        obtain ⟨x1, hx1, hf⟩ := bnd_e hf
        refine j_name hx1 ?_
        refine j_istore_n (ls' := [(3, .int x1), (0, .ref (z + aM 0)), (1, .int v1), (2, .int v2), (4, .int v4)]) E (lt_ rfl) rfl dX12_weightBy_51 ?_
        refine j_iinc (ls' := [(4, .int (v4 + 1)), (3, .int x1), (0, .ref (z + aM 0)), (1, .int v1), (2, .int v2)]) E 4 rfl (lt_ rfl) (v4 + 1) (congrArg (fun q => v4 + q) ic_1) rfl dX12_weightBy_52 ?_
        refine j_goto E 5 (by decide) dX12_weightBy_55 ?_
        refine j_sub [2, 3, 4, 1, 0] rfl ?_
        exact ih _ _ hf
      · rw [if_pos c2] at hf
        refine j_aload_n E 0 rfl dX12_weightBy_28 ?_
        refine j_iload E 4 rfl dX12_weightBy_29 ?_
        refine j_iconst E 3 ic_3 dX12_weightBy_31 ?_
        obtain ⟨r2, h2, hf⟩ := bn1_e hf
        refine j_invV [.int v3] [.int r2, .int v3] E (c_X12_ofLoad h2) ml_X12_148 mv_X12_ofLoad rfl ⟨le_ rfl, le_ rfl⟩ (rcM cf_X12) rfl rfl (le_ rfl) ⟨le_ rfl, le_ rfl⟩ dX12_weightBy_32 ?_
        refine j_iload_n E 2 rfl dX12_weightBy_35 ?_
        refine j_icmp_ne E 49 (by decide) dX12_weightBy_36 (fun c3 => ?_) (fun c3 => ?_)
        · rw [if_neg c3] at hf
          refine j_iconst E 0 ic_0 dX12_weightBy_49 ?_
          refine j_iadd E dX12_weightBy_50 ?_
          obtain ⟨x2, hx2, hf⟩ := bnd_e hf
          refine j_name hx2 ?_
          refine j_istore_n (ls' := [(3, .int x2), (0, .ref (z + aM 0)), (1, .int v1), (2, .int v2), (4, .int v4)]) E (lt_ rfl) rfl dX12_weightBy_51 ?_
          refine j_iinc (ls' := [(4, .int (v4 + 1)), (3, .int x2), (0, .ref (z + aM 0)), (1, .int v1), (2, .int v2)]) E 4 rfl (lt_ rfl) (v4 + 1) (congrArg (fun q => v4 + q) ic_1) rfl dX12_weightBy_52 ?_
          refine j_goto E 5 (by decide) dX12_weightBy_55 ?_
          refine j_sub [2, 3, 4, 1, 0] rfl ?_
          exact ih _ _ hf
        · rw [if_pos c3] at hf
          refine j_aload_n E 0 rfl dX12_weightBy_39 ?_
          refine j_iload E 4 rfl dX12_weightBy_40 ?_
          refine j_iconst E 1 ic_1 dX12_weightBy_42 ?_
          obtain ⟨r3, h3, hf⟩ := bn1_e hf
          refine j_invV [.int v3] [.int r3, .int v3] E (c_X12_ofLoad h3) ml_X12_148 mv_X12_ofLoad rfl ⟨le_ rfl, le_ rfl⟩ (rcM cf_X12) rfl rfl (le_ rfl) ⟨le_ rfl, le_ rfl⟩ dX12_weightBy_43 ?_
          refine j_goto E 50 (by decide) dX12_weightBy_46 ?_
          refine j_iadd E dX12_weightBy_50 ?_
          obtain ⟨x3, hx3, hf⟩ := bnd_e hf
          refine j_name hx3 ?_
          refine j_istore_n (ls' := [(3, .int x3), (0, .ref (z + aM 0)), (1, .int v1), (2, .int v2), (4, .int v4)]) E (lt_ rfl) rfl dX12_weightBy_51 ?_
          refine j_iinc (ls' := [(4, .int (v4 + 1)), (3, .int x3), (0, .ref (z + aM 0)), (1, .int v1), (2, .int v2)]) E 4 rfl (lt_ rfl) (v4 + 1) (congrArg (fun q => v4 + q) ic_1) rfl dX12_weightBy_52 ?_
          refine j_goto E 5 (by decide) dX12_weightBy_55 ?_
          refine j_sub [2, 3, 4, 1, 0] rfl ?_
          exact ih _ _ hf
set_option maxRecDepth 20000 in
theorem c_X12_weightBy {l : Launch} {D : DD} {z : Nat} {X : XT} {o : Int64} {f1 : Nat} {M : MT} {v1 : Int32} {v2 : Int32} {r : Int32} (hf : f_X12_weightBy M v1 v2 = some r) : CC l yX12_weightBy cX12_weightBy 5 (some .int) (rmk 3 0 0) D z [.ref (z + aM 0), .int v1, .int v2] (GG D z (X, (f1 + 1, M, o))) (some (.int r)) (GG D z (X, (f1 + 1, M, o))) := by
  unfold f_X12_weightBy at hf
  refine cc_of pn_X12 (le_ rfl) (ls := [(0, .ref (z + aM 0)), (1, .int v1), (2, .int v2)]) rfl ?_
  intro p e s m args below meth c E
  refine j_iconst E 0 ic_0 dX12_weightBy_0 ?_
  refine j_istore_n (ls' := [(3, .int 0), (0, .ref (z + aM 0)), (1, .int v1), (2, .int v2)]) E (lt_ rfl) rfl dX12_weightBy_1 ?_
  refine j_iconst E 0 ic_0 dX12_weightBy_2 ?_
  refine j_istore (ls' := [(4, .int 0), (3, .int 0), (0, .ref (z + aM 0)), (1, .int v1), (2, .int v2)]) E (lt_ rfl) rfl dX12_weightBy_3 ?_
  refine j_sub [2, 3, 4, 1, 0] rfl ?_
  exact b_X12_weightBy_5 E 2000 _ _ hf
def f_X12_weightOfClass (M : MT) (v1 : Int32) (v2 : Int32) : Option (Int32 × MT) :=
  bn1 (f_X12_hasPair M v1 v2) (fun r1 => bn2 (f_X12_passes1 M r1) (fun r2 M1 => if r2 = 0 then (some (0, M1)) else (bn1 (f_X12_weightBy M1 v1 v2) (fun r3 => some (r3, M1)))))
set_option maxRecDepth 20000 in
theorem c_X12_weightOfClass {l : Launch} {D : DD} {z : Nat} {X : XT} {o : Int64} {f1 : Nat} {M : MT} {v1 : Int32} {v2 : Int32} {r : Int32} {M' : MT} (hf : f_X12_weightOfClass M v1 v2 = some (r, M')) : CC l yX12_weightOfClass cX12_weightOfClass 3 (some .int) (rmk 4 0 0) D z [.ref (z + aM 0), .int v1, .int v2] (GG D z (X, (f1 + 1, M, o))) (some (.int r)) (GG D z (X, (f1 + 1, M', o))) := by
  unfold f_X12_weightOfClass at hf
  refine cc_of pn_X12 (le_ rfl) (ls := [(0, .ref (z + aM 0)), (1, .int v1), (2, .int v2)]) rfl ?_
  intro p e s m args below meth c E
  refine j_aload_n E 0 rfl dX12_weightOfClass_0 ?_
  refine j_aload_n E 0 rfl dX12_weightOfClass_1 ?_
  refine j_iload_n E 1 rfl dX12_weightOfClass_2 ?_
  refine j_iload_n E 2 rfl dX12_weightOfClass_3 ?_
  obtain ⟨r1, h1, hf⟩ := bn1_e hf
  refine j_invV [.ref (z + aM 0)] [.int r1, .ref (z + aM 0)] E (c_X12_hasPair h1) ml_X12_417 mv_X12_hasPair rfl ⟨le_ rfl, le_ rfl⟩ (rcM cf_X12) rfl rfl (le_ rfl) ⟨le_ rfl, le_ rfl⟩ dX12_weightOfClass_4 ?_
  obtain ⟨r2, M1, h2, hf⟩ := bn2_e hf
  refine j_invV [] [.int r2] E (c_X12_passes1 h2) ml_X12_396 mv_X12_passes1 rfl ⟨le_ rfl, le_ rfl⟩ (rcM cf_X12) rfl rfl (le_ rfl) ⟨le_ rfl, le_ rfl⟩ dX12_weightOfClass_7 ?_
  refine j_if_eq E 22 (by decide) dX12_weightOfClass_10 (fun c1 => ?_) (fun c1 => ?_)
  · rw [if_pos c1] at hf
    refine j_iconst E 0 ic_0 dX12_weightOfClass_22 ?_
    cases hf
    exact j_iret E rfl (le_ rfl) (le_ rfl) dX12_weightOfClass_23
  · rw [if_neg c1] at hf
    refine j_aload_n E 0 rfl dX12_weightOfClass_13 ?_
    refine j_iload_n E 1 rfl dX12_weightOfClass_14 ?_
    refine j_iload_n E 2 rfl dX12_weightOfClass_15 ?_
    obtain ⟨r3, h3, hf⟩ := bn1_e hf
    refine j_invV [] [.int r3] E (c_X12_weightBy h3) ml_X12_420 mv_X12_weightBy rfl ⟨le_ rfl, le_ rfl⟩ (rcM cf_X12) rfl rfl (le_ rfl) ⟨le_ rfl, le_ rfl⟩ dX12_weightOfClass_16 ?_
    refine j_goto E 23 (by decide) dX12_weightOfClass_19 ?_
    cases hf
    exact j_iret E rfl (le_ rfl) (le_ rfl) dX12_weightOfClass_23
def f_X12_pairOf (M : MT) (v1 : Int32) : Option Int32 :=
  bn1 (f_X12_varietyOf M v1) (fun r1 => bn1 (f_X12_ofLoad M v1 3) (fun r2 => some ((10 * r1) + r2)))
set_option maxRecDepth 20000 in
theorem c_X12_pairOf {l : Launch} {D : DD} {z : Nat} {X : XT} {o : Int64} {f1 : Nat} {M : MT} {v1 : Int32} {r : Int32} (hf : f_X12_pairOf M v1 = some r) : CC l yX12_pairOf cX12_pairOf 2 (some .int) (rmk 3 0 0) D z [.ref (z + aM 0), .int v1] (GG D z (X, (f1 + 1, M, o))) (some (.int r)) (GG D z (X, (f1 + 1, M, o))) := by
  unfold f_X12_pairOf at hf
  refine cc_of pn_X12 (le_ rfl) (ls := [(0, .ref (z + aM 0)), (1, .int v1)]) rfl ?_
  intro p e s m args below meth c E
  refine j_bipush E 10 bp_10 dX12_pairOf_0 ?_
  refine j_aload_n E 0 rfl dX12_pairOf_2 ?_
  refine j_iload_n E 1 rfl dX12_pairOf_3 ?_
  obtain ⟨r1, h1, hf⟩ := bn1_e hf
  refine j_invV [.int 10] [.int r1, .int 10] E (c_X12_varietyOf h1) ml_X12_183 mv_X12_varietyOf rfl ⟨le_ rfl, le_ rfl⟩ (rcM cf_X12) rfl rfl (le_ rfl) ⟨le_ rfl, le_ rfl⟩ dX12_pairOf_4 ?_
  refine j_imul E dX12_pairOf_7 ?_
  refine j_aload_n E 0 rfl dX12_pairOf_8 ?_
  refine j_iload_n E 1 rfl dX12_pairOf_9 ?_
  refine j_iconst E 3 ic_3 dX12_pairOf_10 ?_
  obtain ⟨r2, h2, hf⟩ := bn1_e hf
  refine j_invV [.int (10 * r1)] [.int r2, .int (10 * r1)] E (c_X12_ofLoad h2) ml_X12_148 mv_X12_ofLoad rfl ⟨le_ rfl, le_ rfl⟩ (rcM cf_X12) rfl rfl (le_ rfl) ⟨le_ rfl, le_ rfl⟩ dX12_pairOf_11 ?_
  refine j_iadd E dX12_pairOf_14 ?_
  cases hf
  exact j_iret E rfl (le_ rfl) (le_ rfl) dX12_pairOf_15
def f_X12_isFirst_4 (M : MT) (v1 : Int32) : Nat → Int32 → Int32 → Option Int32
  | 0, _, _ => none
  | n + 1, v2, v3 => if v1 ≤ v3 then (gd (v2 &&& 1 = v2) (some v2)) else (if v2 = 0 then (f_X12_isFirst_4 M v1 n 0 (v3 + 1)) else (bn1 (f_X12_pairOf M v3) (fun r1 => bn1 (f_X12_pairOf M v1) (fun r2 => if r1 = r2 then (f_X12_isFirst_4 M v1 n 0 (v3 + 1)) else (f_X12_isFirst_4 M v1 n 1 (v3 + 1))))))
def f_X12_isFirst (M : MT) (v1 : Int32) : Option Int32 :=
  f_X12_isFirst_4 M v1 2000 1 0
set_option maxRecDepth 20000 in
theorem b_X12_isFirst_4 {p : Program} {l : Launch} {e : Env} {s : State} {m : MethodId} {args : Array Value} {below : List Frame} {meth : Method} {c : Code} {D : DD} {z : Nat} {X : XT} {o : Int64} {f1 : Nat} {M : MT} {v1 : Int32} (E : Cx p s m args meth c D z RX12 cX12_isFirst 4 (some .boolean)) {r : Int32} : ∀ (n : Nat) (v2 : Int32) (v3 : Int32) (hf : f_X12_isFirst_4 M v1 n v2 v3 = some r), J p l e (rmk 4 0 0) s m args below meth c D z (GG D z (X, (f1 + 1, M, o))) 0 0 (MQ below (QC z (some (.int r)) (GG D z (X, (f1 + 1, M, o)))) args s (rmk 4 0 0).cells (rmk 4 0 0).slots (Az z)) 4 4 [(0, .ref (z + aM 0)), (1, .int v1), (2, .int v2), (3, .int v3)] [] := by
  intro n
  induction n with
  | zero =>
    intro v2 v3 hf
    exact none_e hf
  | succ n ih =>
    intro v2 v3 hf
    rw [f_X12_isFirst_4] at hf
    refine j_iload_n E 3 rfl dX12_isFirst_4 ?_
    refine j_iload_n E 1 rfl dX12_isFirst_5 ?_
    refine j_icmp_ge E 38 (by decide) dX12_isFirst_6 (fun c1 => ?_) (fun c1 => ?_)
    · rw [if_pos c1] at hf
      refine j_iload_n E 2 rfl dX12_isFirst_38 ?_
      obtain ⟨g1, hf⟩ := gd_e hf
      cases hf
      exact j_iret E (nz_ g1) (le_ rfl) (le_ rfl) dX12_isFirst_39
    · rw [if_neg c1] at hf
      refine j_iload_n E 2 rfl dX12_isFirst_9 ?_
      refine j_if_eq E 30 (by decide) dX12_isFirst_10 (fun c2 => ?_) (fun c2 => ?_)
      · rw [if_pos c2] at hf
        refine j_iconst E 0 ic_0 dX12_isFirst_30 ?_
        refine j_istore_n (ls' := [(2, .int 0), (0, .ref (z + aM 0)), (1, .int v1), (3, .int v3)]) E (lt_ rfl) rfl dX12_isFirst_31 ?_
        refine j_iinc (ls' := [(3, .int (v3 + 1)), (2, .int 0), (0, .ref (z + aM 0)), (1, .int v1)]) E 3 rfl (lt_ rfl) (v3 + 1) (congrArg (fun q => v3 + q) ic_1) rfl dX12_isFirst_32 ?_
        refine j_goto E 4 (by decide) dX12_isFirst_35 ?_
        refine j_sub [2, 3, 1, 0] rfl ?_
        exact ih _ _ hf
      · rw [if_neg c2] at hf
        refine j_aload_n E 0 rfl dX12_isFirst_13 ?_
        refine j_iload_n E 3 rfl dX12_isFirst_14 ?_
        obtain ⟨r1, h1, hf⟩ := bn1_e hf
        refine j_invV [] [.int r1] E (c_X12_pairOf h1) ml_X12_423 mv_X12_pairOf rfl ⟨le_ rfl, le_ rfl⟩ (rcM cf_X12) rfl rfl (le_ rfl) ⟨le_ rfl, le_ rfl⟩ dX12_isFirst_15 ?_
        refine j_aload_n E 0 rfl dX12_isFirst_18 ?_
        refine j_iload_n E 1 rfl dX12_isFirst_19 ?_
        obtain ⟨r2, h2, hf⟩ := bn1_e hf
        refine j_invV [.int r1] [.int r2, .int r1] E (c_X12_pairOf h2) ml_X12_423 mv_X12_pairOf rfl ⟨le_ rfl, le_ rfl⟩ (rcM cf_X12) rfl rfl (le_ rfl) ⟨le_ rfl, le_ rfl⟩ dX12_isFirst_20 ?_
        refine j_icmp_eq E 30 (by decide) dX12_isFirst_23 (fun c3 => ?_) (fun c3 => ?_)
        · rw [if_pos c3] at hf
          refine j_iconst E 0 ic_0 dX12_isFirst_30 ?_
          refine j_istore_n (ls' := [(2, .int 0), (0, .ref (z + aM 0)), (1, .int v1), (3, .int v3)]) E (lt_ rfl) rfl dX12_isFirst_31 ?_
          refine j_iinc (ls' := [(3, .int (v3 + 1)), (2, .int 0), (0, .ref (z + aM 0)), (1, .int v1)]) E 3 rfl (lt_ rfl) (v3 + 1) (congrArg (fun q => v3 + q) ic_1) rfl dX12_isFirst_32 ?_
          refine j_goto E 4 (by decide) dX12_isFirst_35 ?_
          refine j_sub [2, 3, 1, 0] rfl ?_
          exact ih _ _ hf
        · rw [if_neg c3] at hf
          refine j_iconst E 1 ic_1 dX12_isFirst_26 ?_
          refine j_goto E 31 (by decide) dX12_isFirst_27 ?_
          refine j_istore_n (ls' := [(2, .int 1), (0, .ref (z + aM 0)), (1, .int v1), (3, .int v3)]) E (lt_ rfl) rfl dX12_isFirst_31 ?_
          refine j_iinc (ls' := [(3, .int (v3 + 1)), (2, .int 1), (0, .ref (z + aM 0)), (1, .int v1)]) E 3 rfl (lt_ rfl) (v3 + 1) (congrArg (fun q => v3 + q) ic_1) rfl dX12_isFirst_32 ?_
          refine j_goto E 4 (by decide) dX12_isFirst_35 ?_
          refine j_sub [2, 3, 1, 0] rfl ?_
          exact ih _ _ hf
set_option maxRecDepth 20000 in
theorem c_X12_isFirst {l : Launch} {D : DD} {z : Nat} {X : XT} {o : Int64} {f1 : Nat} {M : MT} {v1 : Int32} {r : Int32} (hf : f_X12_isFirst M v1 = some r) : CC l yX12_isFirst cX12_isFirst 4 (some .boolean) (rmk 4 0 0) D z [.ref (z + aM 0), .int v1] (GG D z (X, (f1 + 1, M, o))) (some (.int r)) (GG D z (X, (f1 + 1, M, o))) := by
  unfold f_X12_isFirst at hf
  refine cc_of pn_X12 (le_ rfl) (ls := [(0, .ref (z + aM 0)), (1, .int v1)]) rfl ?_
  intro p e s m args below meth c E
  refine j_iconst E 1 ic_1 dX12_isFirst_0 ?_
  refine j_istore_n (ls' := [(2, .int 1), (0, .ref (z + aM 0)), (1, .int v1)]) E (lt_ rfl) rfl dX12_isFirst_1 ?_
  refine j_iconst E 0 ic_0 dX12_isFirst_2 ?_
  refine j_istore_n (ls' := [(3, .int 0), (2, .int 1), (0, .ref (z + aM 0)), (1, .int v1)]) E (lt_ rfl) rfl dX12_isFirst_3 ?_
  refine j_sub [2, 3, 1, 0] rfl ?_
  exact b_X12_isFirst_4 E 2000 _ _ hf
def f_X12_firstsUntil_4 (M : MT) (v1 : Int32) : Nat → Int32 → Int32 → Option Int32
  | 0, _, _ => none
  | n + 1, v2, v3 => if v1 ≤ v3 then (some v2) else (bn1 (f_X12_isFirst M v3) (fun r1 => if r1 = 0 then (bnd (v2 + 0) (fun x1 => f_X12_firstsUntil_4 M v1 n x1 (v3 + 1))) else (bnd (v2 + 1) (fun x2 => f_X12_firstsUntil_4 M v1 n x2 (v3 + 1)))))
def f_X12_firstsUntil (M : MT) (v1 : Int32) : Option Int32 :=
  f_X12_firstsUntil_4 M v1 2000 0 0
set_option maxRecDepth 20000 in
theorem b_X12_firstsUntil_4 {p : Program} {l : Launch} {e : Env} {s : State} {m : MethodId} {args : Array Value} {below : List Frame} {meth : Method} {c : Code} {D : DD} {z : Nat} {X : XT} {o : Int64} {f1 : Nat} {M : MT} {v1 : Int32} (E : Cx p s m args meth c D z RX12 cX12_firstsUntil 4 (some .int)) {r : Int32} : ∀ (n : Nat) (v2 : Int32) (v3 : Int32) (hf : f_X12_firstsUntil_4 M v1 n v2 v3 = some r), J p l e (rmk 5 0 0) s m args below meth c D z (GG D z (X, (f1 + 1, M, o))) 0 0 (MQ below (QC z (some (.int r)) (GG D z (X, (f1 + 1, M, o)))) args s (rmk 5 0 0).cells (rmk 5 0 0).slots (Az z)) 4 4 [(0, .ref (z + aM 0)), (1, .int v1), (2, .int v2), (3, .int v3)] [] := by
  intro n
  induction n with
  | zero =>
    intro v2 v3 hf
    exact none_e hf
  | succ n ih =>
    intro v2 v3 hf
    rw [f_X12_firstsUntil_4] at hf
    refine j_iload_n E 3 rfl dX12_firstsUntil_4 ?_
    refine j_iload_n E 1 rfl dX12_firstsUntil_5 ?_
    refine j_icmp_ge E 31 (by decide) dX12_firstsUntil_6 (fun c1 => ?_) (fun c1 => ?_)
    · rw [if_pos c1] at hf
      refine j_iload_n E 2 rfl dX12_firstsUntil_31 ?_
      cases hf
      exact j_iret E rfl (le_ rfl) (le_ rfl) dX12_firstsUntil_32
    · rw [if_neg c1] at hf
      refine j_iload_n E 2 rfl dX12_firstsUntil_9 ?_
      refine j_aload_n E 0 rfl dX12_firstsUntil_10 ?_
      refine j_iload_n E 3 rfl dX12_firstsUntil_11 ?_
      obtain ⟨r1, h1, hf⟩ := bn1_e hf
      refine j_invV [.int v2] [.int r1, .int v2] E (c_X12_isFirst h1) ml_X12_426 mv_X12_isFirst rfl ⟨le_ rfl, le_ rfl⟩ (rcM cf_X12) rfl rfl (le_ rfl) ⟨le_ rfl, le_ rfl⟩ dX12_firstsUntil_12 ?_
      refine j_if_eq E 22 (by decide) dX12_firstsUntil_15 (fun c2 => ?_) (fun c2 => ?_)
      · rw [if_pos c2] at hf
        refine j_iconst E 0 ic_0 dX12_firstsUntil_22 ?_
        refine j_iadd E dX12_firstsUntil_23 ?_
        obtain ⟨x1, hx1, hf⟩ := bnd_e hf
        refine j_name hx1 ?_
        refine j_istore_n (ls' := [(2, .int x1), (0, .ref (z + aM 0)), (1, .int v1), (3, .int v3)]) E (lt_ rfl) rfl dX12_firstsUntil_24 ?_
        refine j_iinc (ls' := [(3, .int (v3 + 1)), (2, .int x1), (0, .ref (z + aM 0)), (1, .int v1)]) E 3 rfl (lt_ rfl) (v3 + 1) (congrArg (fun q => v3 + q) ic_1) rfl dX12_firstsUntil_25 ?_
        refine j_goto E 4 (by decide) dX12_firstsUntil_28 ?_
        refine j_sub [2, 3, 1, 0] rfl ?_
        exact ih _ _ hf
      · rw [if_neg c2] at hf
        refine j_iconst E 1 ic_1 dX12_firstsUntil_18 ?_
        refine j_goto E 23 (by decide) dX12_firstsUntil_19 ?_
        refine j_iadd E dX12_firstsUntil_23 ?_
        obtain ⟨x2, hx2, hf⟩ := bnd_e hf
        refine j_name hx2 ?_
        refine j_istore_n (ls' := [(2, .int x2), (0, .ref (z + aM 0)), (1, .int v1), (3, .int v3)]) E (lt_ rfl) rfl dX12_firstsUntil_24 ?_
        refine j_iinc (ls' := [(3, .int (v3 + 1)), (2, .int x2), (0, .ref (z + aM 0)), (1, .int v1)]) E 3 rfl (lt_ rfl) (v3 + 1) (congrArg (fun q => v3 + q) ic_1) rfl dX12_firstsUntil_25 ?_
        refine j_goto E 4 (by decide) dX12_firstsUntil_28 ?_
        refine j_sub [2, 3, 1, 0] rfl ?_
        exact ih _ _ hf
set_option maxRecDepth 20000 in
theorem c_X12_firstsUntil {l : Launch} {D : DD} {z : Nat} {X : XT} {o : Int64} {f1 : Nat} {M : MT} {v1 : Int32} {r : Int32} (hf : f_X12_firstsUntil M v1 = some r) : CC l yX12_firstsUntil cX12_firstsUntil 4 (some .int) (rmk 5 0 0) D z [.ref (z + aM 0), .int v1] (GG D z (X, (f1 + 1, M, o))) (some (.int r)) (GG D z (X, (f1 + 1, M, o))) := by
  unfold f_X12_firstsUntil at hf
  refine cc_of pn_X12 (le_ rfl) (ls := [(0, .ref (z + aM 0)), (1, .int v1)]) rfl ?_
  intro p e s m args below meth c E
  refine j_iconst E 0 ic_0 dX12_firstsUntil_0 ?_
  refine j_istore_n (ls' := [(2, .int 0), (0, .ref (z + aM 0)), (1, .int v1)]) E (lt_ rfl) rfl dX12_firstsUntil_1 ?_
  refine j_iconst E 0 ic_0 dX12_firstsUntil_2 ?_
  refine j_istore_n (ls' := [(3, .int 0), (2, .int 0), (0, .ref (z + aM 0)), (1, .int v1)]) E (lt_ rfl) rfl dX12_firstsUntil_3 ?_
  refine j_sub [2, 3, 1, 0] rfl ?_
  exact b_X12_firstsUntil_4 E 2000 _ _ hf
def f_X12_deliveredClasses (M : MT) : Option (Int32 × MT) :=
  bnd (mi M 0 0 0) (fun M1 => bn1 (f_X12_firstsUntil M1 (M1.1 1 7)) (fun r1 => some (r1, M1)))
set_option maxRecDepth 20000 in
theorem c_X12_deliveredClasses {l : Launch} {D : DD} {z : Nat} {X : XT} {o : Int64} {f1 : Nat} {M : MT} {r : Int32} {M' : MT} (hf : f_X12_deliveredClasses M = some (r, M')) : CC l yX12_deliveredClasses cX12_deliveredClasses 1 (some .int) (rmk 6 0 0) D z [.ref (z + aM 0)] (GG D z (X, (f1 + 1, M, o))) (some (.int r)) (GG D z (X, (f1 + 1, M', o))) := by
  unfold f_X12_deliveredClasses at hf
  refine cc_of pn_X12 (le_ rfl) (ls := [(0, .ref (z + aM 0))]) rfl ?_
  intro p e s m args below meth c E
  refine j_aload_n E 0 rfl dX12_deliveredClasses_0 ?_
  refine j_iconst E 0 ic_0 dX12_deliveredClasses_1 ?_
  obtain ⟨M1, hM1, hf⟩ := bnd_e hf
  refine j_putM (f := 0) E cf_X12 fl_X12_3 (lt_ rfl) ⟨rfl, rfl⟩ (fit_i _) (lt_ rfl) peM_0 hM1 dX12_deliveredClasses_2 ?_
  refine j_aload_n E 0 rfl dX12_deliveredClasses_5 ?_
  refine j_aload_n E 0 rfl dX12_deliveredClasses_6 ?_
  refine j_getM (f := 1) E cf_X12 fl_X12_17 (lt_ rfl) rfl rfl dX12_deliveredClasses_7 ?_
  refine j_bipush E 7 bp_7 dX12_deliveredClasses_10 ?_
  refine j_ialdM E (lt_ rfl) entM1 (vi_7 (lt_ rfl)) (7) tn_7 dX12_deliveredClasses_12 ?_
  obtain ⟨r1, h1, hf⟩ := bn1_e hf
  refine j_invV [] [.int r1] E (c_X12_firstsUntil h1) ml_X12_429 mv_X12_firstsUntil rfl ⟨le_ rfl, le_ rfl⟩ (rcM cf_X12) rfl rfl (le_ rfl) ⟨le_ rfl, le_ rfl⟩ dX12_deliveredClasses_13 ?_
  cases hf
  exact j_iret E rfl (le_ rfl) (le_ rfl) dX12_deliveredClasses_16
def f_X12_classInOrder_31 (v1 : Int32) : Nat → MT → Int32 → Option (Int32 × MT)
  | 0, _, _ => none
  | n + 1, M, v2 => bn1 (f_X12_isFirst M v2) (fun r1 => if r1 = 0 then (f_X12_classInOrder_31 v1 n M (v2 + 1)) else (bn1 (f_X12_firstsUntil M v2) (fun r2 => if r2 = v1 then (bn1 (f_X12_pairOf M v2) (fun r3 => some (r3, M))) else (f_X12_classInOrder_31 v1 n M (v2 + 1)))))
def f_X12_classInOrder (M : MT) (v1 : Int32) : Option (Int32 × MT) :=
  bn1 (f_X12_firstsUntil M (M.1 1 7)) (fun r1 => bn1 (f_X12_in (v1.toInt64) 0 ((r1 - 1).toInt64)) (fun r2 => bn2 (f_X12_passes1 M r2) (fun r3 M1 => if r3 = 0 then (some (0, M1)) else (f_X12_classInOrder_31 v1 2000 M1 0))))
set_option maxRecDepth 20000 in
theorem b_X12_classInOrder_31 {p : Program} {l : Launch} {e : Env} {s : State} {m : MethodId} {args : Array Value} {below : List Frame} {meth : Method} {c : Code} {D : DD} {z : Nat} {X : XT} {o : Int64} {f1 : Nat} {v1 : Int32} (E : Cx p s m args meth c D z RX12 cX12_classInOrder 3 (some .int)) {r : Int32} {M' : MT} : ∀ (n : Nat) (M : MT) (v2 : Int32) (hf : f_X12_classInOrder_31 v1 n M v2 = some (r, M')), J p l e (rmk 6 0 0) s m args below meth c D z (GG D z (X, (f1 + 1, M, o))) 0 0 (MQ below (QC z (some (.int r)) (GG D z (X, (f1 + 1, M', o)))) args s (rmk 6 0 0).cells (rmk 6 0 0).slots (Az z)) 3 31 [(0, .ref (z + aM 0)), (1, .int v1), (2, .int v2)] [] := by
  intro n
  induction n with
  | zero =>
    intro M v2 hf
    exact none_e hf
  | succ n ih =>
    intro M v2 hf
    rw [f_X12_classInOrder_31] at hf
    refine j_aload_n E 0 rfl dX12_classInOrder_31 ?_
    refine j_iload_n E 2 rfl dX12_classInOrder_32 ?_
    obtain ⟨r1, h1, hf⟩ := bn1_e hf
    refine j_invV [] [.int r1] E (c_X12_isFirst h1) ml_X12_426 mv_X12_isFirst rfl ⟨le_ rfl, le_ rfl⟩ (rcM cf_X12) rfl rfl (le_ rfl) ⟨le_ rfl, le_ rfl⟩ dX12_classInOrder_33 ?_
    refine j_if_eq E 48 (by decide) dX12_classInOrder_36 (fun c1 => ?_) (fun c1 => ?_)
    · rw [if_pos c1] at hf
      refine j_iinc (ls' := [(2, .int (v2 + 1)), (0, .ref (z + aM 0)), (1, .int v1)]) E 2 rfl (lt_ rfl) (v2 + 1) (congrArg (fun q => v2 + q) ic_1) rfl dX12_classInOrder_48 ?_
      refine j_goto E 31 (by decide) dX12_classInOrder_51 ?_
      refine j_sub [1, 2, 0] rfl ?_
      exact ih _ _ hf
    · rw [if_neg c1] at hf
      refine j_aload_n E 0 rfl dX12_classInOrder_39 ?_
      refine j_iload_n E 2 rfl dX12_classInOrder_40 ?_
      obtain ⟨r2, h2, hf⟩ := bn1_e hf
      refine j_invV [] [.int r2] E (c_X12_firstsUntil h2) ml_X12_429 mv_X12_firstsUntil rfl ⟨le_ rfl, le_ rfl⟩ (rcM cf_X12) rfl rfl (le_ rfl) ⟨le_ rfl, le_ rfl⟩ dX12_classInOrder_41 ?_
      refine j_iload_n E 1 rfl dX12_classInOrder_44 ?_
      refine j_icmp_eq E 54 (by decide) dX12_classInOrder_45 (fun c2 => ?_) (fun c2 => ?_)
      · rw [if_pos c2] at hf
        refine j_aload_n E 0 rfl dX12_classInOrder_54 ?_
        refine j_iload_n E 2 rfl dX12_classInOrder_55 ?_
        obtain ⟨r3, h3, hf⟩ := bn1_e hf
        refine j_invV [] [.int r3] E (c_X12_pairOf h3) ml_X12_423 mv_X12_pairOf rfl ⟨le_ rfl, le_ rfl⟩ (rcM cf_X12) rfl rfl (le_ rfl) ⟨le_ rfl, le_ rfl⟩ dX12_classInOrder_56 ?_
        cases hf
        exact j_iret E rfl (le_ rfl) (le_ rfl) dX12_classInOrder_59
      · rw [if_neg c2] at hf
        refine j_iinc (ls' := [(2, .int (v2 + 1)), (0, .ref (z + aM 0)), (1, .int v1)]) E 2 rfl (lt_ rfl) (v2 + 1) (congrArg (fun q => v2 + q) ic_1) rfl dX12_classInOrder_48 ?_
        refine j_goto E 31 (by decide) dX12_classInOrder_51 ?_
        refine j_sub [1, 2, 0] rfl ?_
        exact ih _ _ hf
set_option maxRecDepth 20000 in
theorem c_X12_classInOrder {l : Launch} {D : DD} {z : Nat} {X : XT} {o : Int64} {f1 : Nat} {M : MT} {v1 : Int32} {r : Int32} {M' : MT} (hf : f_X12_classInOrder M v1 = some (r, M')) : CC l yX12_classInOrder cX12_classInOrder 3 (some .int) (rmk 6 0 0) D z [.ref (z + aM 0), .int v1] (GG D z (X, (f1 + 1, M, o))) (some (.int r)) (GG D z (X, (f1 + 1, M', o))) := by
  unfold f_X12_classInOrder at hf
  refine cc_of pn_X12 (le_ rfl) (ls := [(0, .ref (z + aM 0)), (1, .int v1)]) rfl ?_
  intro p e s m args below meth c E
  refine j_aload_n E 0 rfl dX12_classInOrder_0 ?_
  refine j_iload_n E 1 rfl dX12_classInOrder_1 ?_
  refine j_i2l E dX12_classInOrder_2 ?_
  refine j_lconst E 0 rfl dX12_classInOrder_3 ?_
  refine j_aload_n E 0 rfl dX12_classInOrder_4 ?_
  refine j_aload_n E 0 rfl dX12_classInOrder_5 ?_
  refine j_getM (f := 1) E cf_X12 fl_X12_17 (lt_ rfl) rfl rfl dX12_classInOrder_6 ?_
  refine j_bipush E 7 bp_7 dX12_classInOrder_9 ?_
  refine j_ialdM E (lt_ rfl) entM1 (vi_7 (lt_ rfl)) (7) tn_7 dX12_classInOrder_11 ?_
  obtain ⟨r1, h1, hf⟩ := bn1_e hf
  refine j_invV [.long 0, .long (v1.toInt64), .ref (z + aM 0)] [.int r1, .long 0, .long (v1.toInt64), .ref (z + aM 0)] E (c_X12_firstsUntil h1) ml_X12_429 mv_X12_firstsUntil rfl ⟨le_ rfl, le_ rfl⟩ (rcM cf_X12) rfl rfl (le_ rfl) ⟨le_ rfl, le_ rfl⟩ dX12_classInOrder_12 ?_
  refine j_iconst E 1 ic_1 dX12_classInOrder_15 ?_
  refine j_isub E dX12_classInOrder_16 ?_
  refine j_i2l E dX12_classInOrder_17 ?_
  obtain ⟨r2, h2, hf⟩ := bn1_e hf
  refine j_invS [.ref (z + aM 0)] [.int r2, .ref (z + aM 0)] E (c_X12_in h2) ml_X12_282 ms_X12_in rfl ⟨le_ rfl, le_ rfl⟩ rfl rfl (le_ rfl) ⟨le_ rfl, le_ rfl⟩ dX12_classInOrder_18 ?_
  obtain ⟨r3, M1, h3, hf⟩ := bn2_e hf
  refine j_invV [] [.int r3] E (c_X12_passes1 h3) ml_X12_396 mv_X12_passes1 rfl ⟨le_ rfl, le_ rfl⟩ (rcM cf_X12) rfl rfl (le_ rfl) ⟨le_ rfl, le_ rfl⟩ dX12_classInOrder_21 ?_
  refine j_if_ne E 29 (by decide) dX12_classInOrder_24 (fun c1 => ?_) (fun c1 => ?_)
  · rw [if_neg c1] at hf
    refine j_iconst E 0 ic_0 dX12_classInOrder_29 ?_
    refine j_istore_n (ls' := [(2, .int 0), (0, .ref (z + aM 0)), (1, .int v1)]) E (lt_ rfl) rfl dX12_classInOrder_30 ?_
    refine j_sub [1, 2, 0] rfl ?_
    exact b_X12_classInOrder_31 E 2000 _ _ hf
  · rw [if_pos c1] at hf
    refine j_iconst E 0 ic_0 dX12_classInOrder_27 ?_
    cases hf
    exact j_iret E rfl (le_ rfl) (le_ rfl) dX12_classInOrder_28
def f_X12_greatestClass_11 : Nat → MT → Int32 → Int32 → Int32 → Option (Int32 × MT)
  | 0, _, _, _, _ => none
  | n + 1, M, v1, v2, v3 => if (M.1 1 7) ≤ v3 then (some (v1, M)) else (bn1 (f_X12_varietyOf M v3) (fun r1 => bn1 (f_X12_ofLoad M v3 3) (fun r2 => bn1 (f_X12_weightBy M r1 r2) (fun r3 => if r3 ≤ v2 then (bnd (if v2 < r3 then r3 else v2) (fun x1 => f_X12_greatestClass_11 n M v1 x1 (v3 + 1))) else (bn1 (f_X12_pairOf M v3) (fun r4 => bnd (if v2 < r3 then r3 else v2) (fun x2 => f_X12_greatestClass_11 n M r4 x2 (v3 + 1))))))))
def f_X12_greatestClass (M : MT) : Option (Int32 × MT) :=
  bnd (mi M 0 0 0) (fun M1 => f_X12_greatestClass_11 2000 M1 (-1) 0 0)
set_option maxRecDepth 20000 in
theorem b_X12_greatestClass_11 {p : Program} {l : Launch} {e : Env} {s : State} {m : MethodId} {args : Array Value} {below : List Frame} {meth : Method} {c : Code} {D : DD} {z : Nat} {X : XT} {o : Int64} {f1 : Nat} (E : Cx p s m args meth c D z RX12 cX12_greatestClass 5 (some .int)) {r : Int32} {M' : MT} : ∀ (n : Nat) (M : MT) (v1 : Int32) (v2 : Int32) (v3 : Int32) (hf : f_X12_greatestClass_11 n M v1 v2 v3 = some (r, M')), J p l e (rmk 4 0 0) s m args below meth c D z (GG D z (X, (f1 + 1, M, o))) 0 0 (MQ below (QC z (some (.int r)) (GG D z (X, (f1 + 1, M', o)))) args s (rmk 4 0 0).cells (rmk 4 0 0).slots (Az z)) 5 11 [(0, .ref (z + aM 0)), (1, .int v1), (2, .int v2), (3, .int v3)] [] := by
  intro n
  induction n with
  | zero =>
    intro M v1 v2 v3 hf
    exact none_e hf
  | succ n ih =>
    intro M v1 v2 v3 hf
    rw [f_X12_greatestClass_11] at hf
    refine j_iload_n E 3 rfl dX12_greatestClass_11 ?_
    refine j_aload_n E 0 rfl dX12_greatestClass_12 ?_
    refine j_getM (f := 1) E cf_X12 fl_X12_17 (lt_ rfl) rfl rfl dX12_greatestClass_13 ?_
    refine j_bipush E 7 bp_7 dX12_greatestClass_16 ?_
    refine j_ialdM E (lt_ rfl) entM1 (vi_7 (lt_ rfl)) (7) tn_7 dX12_greatestClass_18 ?_
    refine j_icmp_ge E 68 (by decide) dX12_greatestClass_19 (fun c1 => ?_) (fun c1 => ?_)
    · rw [if_pos c1] at hf
      refine j_iload_n E 1 rfl dX12_greatestClass_68 ?_
      cases hf
      exact j_iret E rfl (le_ rfl) (le_ rfl) dX12_greatestClass_69
    · rw [if_neg c1] at hf
      refine j_aload_n E 0 rfl dX12_greatestClass_22 ?_
      refine j_aload_n E 0 rfl dX12_greatestClass_23 ?_
      refine j_iload_n E 3 rfl dX12_greatestClass_24 ?_
      obtain ⟨r1, h1, hf⟩ := bn1_e hf
      refine j_invV [.ref (z + aM 0)] [.int r1, .ref (z + aM 0)] E (c_X12_varietyOf h1) ml_X12_183 mv_X12_varietyOf rfl ⟨le_ rfl, le_ rfl⟩ (rcM cf_X12) rfl rfl (le_ rfl) ⟨le_ rfl, le_ rfl⟩ dX12_greatestClass_25 ?_
      refine j_aload_n E 0 rfl dX12_greatestClass_28 ?_
      refine j_iload_n E 3 rfl dX12_greatestClass_29 ?_
      refine j_iconst E 3 ic_3 dX12_greatestClass_30 ?_
      obtain ⟨r2, h2, hf⟩ := bn1_e hf
      refine j_invV [.int r1, .ref (z + aM 0)] [.int r2, .int r1, .ref (z + aM 0)] E (c_X12_ofLoad h2) ml_X12_148 mv_X12_ofLoad rfl ⟨le_ rfl, le_ rfl⟩ (rcM cf_X12) rfl rfl (le_ rfl) ⟨le_ rfl, le_ rfl⟩ dX12_greatestClass_31 ?_
      obtain ⟨r3, h3, hf⟩ := bn1_e hf
      refine j_invV [] [.int r3] E (c_X12_weightBy h3) ml_X12_420 mv_X12_weightBy rfl ⟨le_ rfl, le_ rfl⟩ (rcM cf_X12) rfl rfl (le_ rfl) ⟨le_ rfl, le_ rfl⟩ dX12_greatestClass_34 ?_
      refine j_istore (ls' := [(4, .int r3), (0, .ref (z + aM 0)), (1, .int v1), (2, .int v2), (3, .int v3)]) E (lt_ rfl) rfl dX12_greatestClass_37 ?_
      refine j_iload E 0 rfl dX12_greatestClass_39 ?_
      refine j_iload_n E 3 rfl dX12_greatestClass_41 ?_
      refine j_icmp_le E 53 (by decide) dX12_greatestClass_42 (fun c2 => ?_) (fun c2 => ?_)
      · rw [if_pos c2] at hf
        refine j_iload_n E 2 rfl dX12_greatestClass_53 ?_
        refine j_istore_n (ls' := [(1, .int v1), (4, .int r3), (0, .ref (z + aM 0)), (2, .int v2), (3, .int v3)]) E (lt_ rfl) rfl dX12_greatestClass_54 ?_
        refine j_iload_n E 3 rfl dX12_greatestClass_55 ?_
        refine j_iload E 1 rfl dX12_greatestClass_56 ?_
        refine j_max [] E ml_X12_299 st_Lib_Math_max_name in_J9 cd_Lib_Math_max_name (le_ rfl) (le_ rfl) (le_ rfl) (le_ rfl) dX12_greatestClass_58 ?_
        obtain ⟨x1, hx1, hf⟩ := bnd_e hf
        refine j_name hx1 ?_
        refine j_istore_n (ls' := [(2, .int x1), (1, .int v1), (4, .int r3), (0, .ref (z + aM 0)), (3, .int v3)]) E (lt_ rfl) rfl dX12_greatestClass_61 ?_
        refine j_iinc (ls' := [(3, .int (v3 + 1)), (2, .int x1), (1, .int v1), (4, .int r3), (0, .ref (z + aM 0))]) E 4 rfl (lt_ rfl) (v3 + 1) (congrArg (fun q => v3 + q) ic_1) rfl dX12_greatestClass_62 ?_
        refine j_goto E 11 (by decide) dX12_greatestClass_65 ?_
        refine j_sub [4, 2, 1, 0] rfl ?_
        exact ih _ _ _ _ hf
      · rw [if_neg c2] at hf
        refine j_aload_n E 1 rfl dX12_greatestClass_45 ?_
        refine j_iload_n E 4 rfl dX12_greatestClass_46 ?_
        obtain ⟨r4, h4, hf⟩ := bn1_e hf
        refine j_invV [] [.int r4] E (c_X12_pairOf h4) ml_X12_423 mv_X12_pairOf rfl ⟨le_ rfl, le_ rfl⟩ (rcM cf_X12) rfl rfl (le_ rfl) ⟨le_ rfl, le_ rfl⟩ dX12_greatestClass_47 ?_
        refine j_goto E 54 (by decide) dX12_greatestClass_50 ?_
        refine j_istore_n (ls' := [(1, .int r4), (4, .int r3), (0, .ref (z + aM 0)), (2, .int v2), (3, .int v3)]) E (lt_ rfl) rfl dX12_greatestClass_54 ?_
        refine j_iload_n E 3 rfl dX12_greatestClass_55 ?_
        refine j_iload E 1 rfl dX12_greatestClass_56 ?_
        refine j_max [] E ml_X12_299 st_Lib_Math_max_name in_J9 cd_Lib_Math_max_name (le_ rfl) (le_ rfl) (le_ rfl) (le_ rfl) dX12_greatestClass_58 ?_
        obtain ⟨x2, hx2, hf⟩ := bnd_e hf
        refine j_name hx2 ?_
        refine j_istore_n (ls' := [(2, .int x2), (1, .int r4), (4, .int r3), (0, .ref (z + aM 0)), (3, .int v3)]) E (lt_ rfl) rfl dX12_greatestClass_61 ?_
        refine j_iinc (ls' := [(3, .int (v3 + 1)), (2, .int x2), (1, .int r4), (4, .int r3), (0, .ref (z + aM 0))]) E 4 rfl (lt_ rfl) (v3 + 1) (congrArg (fun q => v3 + q) ic_1) rfl dX12_greatestClass_62 ?_
        refine j_goto E 11 (by decide) dX12_greatestClass_65 ?_
        refine j_sub [4, 2, 1, 0] rfl ?_
        exact ih _ _ _ _ hf
set_option maxRecDepth 20000 in
theorem c_X12_greatestClass {l : Launch} {D : DD} {z : Nat} {X : XT} {o : Int64} {f1 : Nat} {M : MT} {r : Int32} {M' : MT} (hf : f_X12_greatestClass M = some (r, M')) : CC l yX12_greatestClass cX12_greatestClass 5 (some .int) (rmk 4 0 0) D z [.ref (z + aM 0)] (GG D z (X, (f1 + 1, M, o))) (some (.int r)) (GG D z (X, (f1 + 1, M', o))) := by
  unfold f_X12_greatestClass at hf
  refine cc_of pn_X12 (le_ rfl) (ls := [(0, .ref (z + aM 0))]) rfl ?_
  intro p e s m args below meth c E
  refine j_aload_n E 0 rfl dX12_greatestClass_0 ?_
  refine j_iconst E 0 ic_0 dX12_greatestClass_1 ?_
  obtain ⟨M1, hM1, hf⟩ := bnd_e hf
  refine j_putM (f := 0) E cf_X12 fl_X12_3 (lt_ rfl) ⟨rfl, rfl⟩ (fit_i _) (lt_ rfl) peM_0 hM1 dX12_greatestClass_2 ?_
  refine j_iconst E (-1) ic_m1 dX12_greatestClass_5 ?_
  refine j_istore_n (ls' := [(1, .int (-1)), (0, .ref (z + aM 0))]) E (lt_ rfl) rfl dX12_greatestClass_6 ?_
  refine j_iconst E 0 ic_0 dX12_greatestClass_7 ?_
  refine j_istore_n (ls' := [(2, .int 0), (1, .int (-1)), (0, .ref (z + aM 0))]) E (lt_ rfl) rfl dX12_greatestClass_8 ?_
  refine j_iconst E 0 ic_0 dX12_greatestClass_9 ?_
  refine j_istore_n (ls' := [(3, .int 0), (2, .int 0), (1, .int (-1)), (0, .ref (z + aM 0))]) E (lt_ rfl) rfl dX12_greatestClass_10 ?_
  refine j_sub [3, 2, 1, 0] rfl ?_
  exact b_X12_greatestClass_11 E 2000 _ _ _ _ hf
def f_X12_plotsOf_18 (v1 : Int32) : Nat → MT → Int32 → Int32 → Option (Int32 × MT)
  | 0, _, _, _ => none
  | n + 1, M, v2, v3 => if (M.1 1 6) ≤ v3 then (some (v2, M)) else (bn1 (f_X12_ofPlot M v3 0) (fun r1 => if r1 = v1 then (bnd (v2 + 1) (fun x2 => f_X12_plotsOf_18 v1 n M x2 (v3 + 1))) else (bnd (v2 + 0) (fun x1 => f_X12_plotsOf_18 v1 n M x1 (v3 + 1)))))
def f_X12_plotsOf (M : MT) (v1 : Int32) : Option (Int32 × MT) :=
  bn1 (f_X12_hasGrower M v1) (fun r1 => bn2 (f_X12_passes1 M r1) (fun r2 M1 => if r2 = 0 then (some (0, M1)) else (f_X12_plotsOf_18 v1 2000 M1 0 0)))
set_option maxRecDepth 20000 in
theorem b_X12_plotsOf_18 {p : Program} {l : Launch} {e : Env} {s : State} {m : MethodId} {args : Array Value} {below : List Frame} {meth : Method} {c : Code} {D : DD} {z : Nat} {X : XT} {o : Int64} {f1 : Nat} {v1 : Int32} (E : Cx p s m args meth c D z RX12 cX12_plotsOf 4 (some .int)) {r : Int32} {M' : MT} : ∀ (n : Nat) (M : MT) (v2 : Int32) (v3 : Int32) (hf : f_X12_plotsOf_18 v1 n M v2 v3 = some (r, M')), J p l e (rmk 3 0 0) s m args below meth c D z (GG D z (X, (f1 + 1, M, o))) 0 0 (MQ below (QC z (some (.int r)) (GG D z (X, (f1 + 1, M', o)))) args s (rmk 3 0 0).cells (rmk 3 0 0).slots (Az z)) 4 18 [(0, .ref (z + aM 0)), (1, .int v1), (2, .int v2), (3, .int v3)] [] := by
  intro n
  induction n with
  | zero =>
    intro M v2 v3 hf
    exact none_e hf
  | succ n ih =>
    intro M v2 v3 hf
    rw [f_X12_plotsOf_18] at hf
    refine j_iload_n E 3 rfl dX12_plotsOf_18 ?_
    refine j_aload_n E 0 rfl dX12_plotsOf_19 ?_
    refine j_getM (f := 1) E cf_X12 fl_X12_17 (lt_ rfl) rfl rfl dX12_plotsOf_20 ?_
    refine j_bipush E 6 bp_6 dX12_plotsOf_23 ?_
    refine j_ialdM E (lt_ rfl) entM1 (vi_6 (lt_ rfl)) (6) tn_6 dX12_plotsOf_25 ?_
    refine j_icmp_ge E 53 (by decide) dX12_plotsOf_26 (fun c1 => ?_) (fun c1 => ?_)
    · rw [if_pos c1] at hf
      refine j_iload_n E 2 rfl dX12_plotsOf_53 ?_
      cases hf
      exact j_iret E rfl (le_ rfl) (le_ rfl) dX12_plotsOf_54
    · rw [if_neg c1] at hf
      refine j_iload_n E 2 rfl dX12_plotsOf_29 ?_
      refine j_aload_n E 0 rfl dX12_plotsOf_30 ?_
      refine j_iload_n E 3 rfl dX12_plotsOf_31 ?_
      refine j_iconst E 0 ic_0 dX12_plotsOf_32 ?_
      obtain ⟨r1, h1, hf⟩ := bn1_e hf
      refine j_invV [.int v2] [.int r1, .int v2] E (c_X12_ofPlot h1) ml_X12_144 mv_X12_ofPlot rfl ⟨le_ rfl, le_ rfl⟩ (rcM cf_X12) rfl rfl (le_ rfl) ⟨le_ rfl, le_ rfl⟩ dX12_plotsOf_33 ?_
      refine j_iload_n E 1 rfl dX12_plotsOf_36 ?_
      refine j_icmp_ne E 44 (by decide) dX12_plotsOf_37 (fun c2 => ?_) (fun c2 => ?_)
      · rw [if_neg c2] at hf
        refine j_iconst E 0 ic_0 dX12_plotsOf_44 ?_
        refine j_iadd E dX12_plotsOf_45 ?_
        obtain ⟨x1, hx1, hf⟩ := bnd_e hf
        refine j_name hx1 ?_
        refine j_istore_n (ls' := [(2, .int x1), (0, .ref (z + aM 0)), (1, .int v1), (3, .int v3)]) E (lt_ rfl) rfl dX12_plotsOf_46 ?_
        refine j_iinc (ls' := [(3, .int (v3 + 1)), (2, .int x1), (0, .ref (z + aM 0)), (1, .int v1)]) E 3 rfl (lt_ rfl) (v3 + 1) (congrArg (fun q => v3 + q) ic_1) rfl dX12_plotsOf_47 ?_
        refine j_goto E 18 (by decide) dX12_plotsOf_50 ?_
        refine j_sub [2, 3, 1, 0] rfl ?_
        exact ih _ _ _ hf
      · rw [if_pos c2] at hf
        refine j_iconst E 1 ic_1 dX12_plotsOf_40 ?_
        refine j_goto E 45 (by decide) dX12_plotsOf_41 ?_
        refine j_iadd E dX12_plotsOf_45 ?_
        obtain ⟨x2, hx2, hf⟩ := bnd_e hf
        refine j_name hx2 ?_
        refine j_istore_n (ls' := [(2, .int x2), (0, .ref (z + aM 0)), (1, .int v1), (3, .int v3)]) E (lt_ rfl) rfl dX12_plotsOf_46 ?_
        refine j_iinc (ls' := [(3, .int (v3 + 1)), (2, .int x2), (0, .ref (z + aM 0)), (1, .int v1)]) E 3 rfl (lt_ rfl) (v3 + 1) (congrArg (fun q => v3 + q) ic_1) rfl dX12_plotsOf_47 ?_
        refine j_goto E 18 (by decide) dX12_plotsOf_50 ?_
        refine j_sub [2, 3, 1, 0] rfl ?_
        exact ih _ _ _ hf
set_option maxRecDepth 20000 in
theorem c_X12_plotsOf {l : Launch} {D : DD} {z : Nat} {X : XT} {o : Int64} {f1 : Nat} {M : MT} {v1 : Int32} {r : Int32} {M' : MT} (hf : f_X12_plotsOf M v1 = some (r, M')) : CC l yX12_plotsOf cX12_plotsOf 4 (some .int) (rmk 3 0 0) D z [.ref (z + aM 0), .int v1] (GG D z (X, (f1 + 1, M, o))) (some (.int r)) (GG D z (X, (f1 + 1, M', o))) := by
  unfold f_X12_plotsOf at hf
  refine cc_of pn_X12 (le_ rfl) (ls := [(0, .ref (z + aM 0)), (1, .int v1)]) rfl ?_
  intro p e s m args below meth c E
  refine j_aload_n E 0 rfl dX12_plotsOf_0 ?_
  refine j_aload_n E 0 rfl dX12_plotsOf_1 ?_
  refine j_iload_n E 1 rfl dX12_plotsOf_2 ?_
  obtain ⟨r1, h1, hf⟩ := bn1_e hf
  refine j_invV [.ref (z + aM 0)] [.int r1, .ref (z + aM 0)] E (c_X12_hasGrower h1) ml_X12_432 mv_X12_hasGrower rfl ⟨le_ rfl, le_ rfl⟩ (rcM cf_X12) rfl rfl (le_ rfl) ⟨le_ rfl, le_ rfl⟩ dX12_plotsOf_3 ?_
  obtain ⟨r2, M1, h2, hf⟩ := bn2_e hf
  refine j_invV [] [.int r2] E (c_X12_passes1 h2) ml_X12_396 mv_X12_passes1 rfl ⟨le_ rfl, le_ rfl⟩ (rcM cf_X12) rfl rfl (le_ rfl) ⟨le_ rfl, le_ rfl⟩ dX12_plotsOf_6 ?_
  refine j_if_ne E 14 (by decide) dX12_plotsOf_9 (fun c1 => ?_) (fun c1 => ?_)
  · rw [if_neg c1] at hf
    refine j_iconst E 0 ic_0 dX12_plotsOf_14 ?_
    refine j_istore_n (ls' := [(2, .int 0), (0, .ref (z + aM 0)), (1, .int v1)]) E (lt_ rfl) rfl dX12_plotsOf_15 ?_
    refine j_iconst E 0 ic_0 dX12_plotsOf_16 ?_
    refine j_istore_n (ls' := [(3, .int 0), (2, .int 0), (0, .ref (z + aM 0)), (1, .int v1)]) E (lt_ rfl) rfl dX12_plotsOf_17 ?_
    refine j_sub [2, 3, 1, 0] rfl ?_
    exact b_X12_plotsOf_18 E 2000 _ _ _ hf
  · rw [if_pos c1] at hf
    refine j_iconst E 0 ic_0 dX12_plotsOf_12 ?_
    cases hf
    exact j_iret E rfl (le_ rfl) (le_ rfl) dX12_plotsOf_13
def f_X12_weightFrom_4 (M : MT) (v1 : Int32) : Nat → Int32 → Int32 → Option Int32
  | 0, _, _ => none
  | n + 1, v2, v3 => if (M.1 1 7) ≤ v3 then (some v2) else (bn1 (f_X12_growerOf M v3) (fun r1 => if r1 = v1 then (bn1 (f_X12_ofLoad M v3 1) (fun r2 => bnd (v2 + r2) (fun x2 => f_X12_weightFrom_4 M v1 n x2 (v3 + 1)))) else (bnd (v2 + 0) (fun x1 => f_X12_weightFrom_4 M v1 n x1 (v3 + 1)))))
def f_X12_weightFrom (M : MT) (v1 : Int32) : Option Int32 :=
  f_X12_weightFrom_4 M v1 2000 0 0
set_option maxRecDepth 20000 in
theorem b_X12_weightFrom_4 {p : Program} {l : Launch} {e : Env} {s : State} {m : MethodId} {args : Array Value} {below : List Frame} {meth : Method} {c : Code} {D : DD} {z : Nat} {X : XT} {o : Int64} {f1 : Nat} {M : MT} {v1 : Int32} (E : Cx p s m args meth c D z RX12 cX12_weightFrom 4 (some .int)) {r : Int32} : ∀ (n : Nat) (v2 : Int32) (v3 : Int32) (hf : f_X12_weightFrom_4 M v1 n v2 v3 = some r), J p l e (rmk 3 0 0) s m args below meth c D z (GG D z (X, (f1 + 1, M, o))) 0 0 (MQ below (QC z (some (.int r)) (GG D z (X, (f1 + 1, M, o)))) args s (rmk 3 0 0).cells (rmk 3 0 0).slots (Az z)) 4 4 [(0, .ref (z + aM 0)), (1, .int v1), (2, .int v2), (3, .int v3)] [] := by
  intro n
  induction n with
  | zero =>
    intro v2 v3 hf
    exact none_e hf
  | succ n ih =>
    intro v2 v3 hf
    rw [f_X12_weightFrom_4] at hf
    refine j_iload_n E 3 rfl dX12_weightFrom_4 ?_
    refine j_aload_n E 0 rfl dX12_weightFrom_5 ?_
    refine j_getM (f := 1) E cf_X12 fl_X12_17 (lt_ rfl) rfl rfl dX12_weightFrom_6 ?_
    refine j_bipush E 7 bp_7 dX12_weightFrom_9 ?_
    refine j_ialdM E (lt_ rfl) entM1 (vi_7 (lt_ rfl)) (7) tn_7 dX12_weightFrom_11 ?_
    refine j_icmp_ge E 43 (by decide) dX12_weightFrom_12 (fun c1 => ?_) (fun c1 => ?_)
    · rw [if_pos c1] at hf
      refine j_iload_n E 2 rfl dX12_weightFrom_43 ?_
      cases hf
      exact j_iret E rfl (le_ rfl) (le_ rfl) dX12_weightFrom_44
    · rw [if_neg c1] at hf
      refine j_iload_n E 2 rfl dX12_weightFrom_15 ?_
      refine j_aload_n E 0 rfl dX12_weightFrom_16 ?_
      refine j_iload_n E 3 rfl dX12_weightFrom_17 ?_
      obtain ⟨r1, h1, hf⟩ := bn1_e hf
      refine j_invV [.int v2] [.int r1, .int v2] E (c_X12_growerOf h1) ml_X12_206 mv_X12_growerOf rfl ⟨le_ rfl, le_ rfl⟩ (rcM cf_X12) rfl rfl (le_ rfl) ⟨le_ rfl, le_ rfl⟩ dX12_weightFrom_18 ?_
      refine j_iload_n E 1 rfl dX12_weightFrom_21 ?_
      refine j_icmp_ne E 34 (by decide) dX12_weightFrom_22 (fun c2 => ?_) (fun c2 => ?_)
      · rw [if_neg c2] at hf
        refine j_iconst E 0 ic_0 dX12_weightFrom_34 ?_
        refine j_iadd E dX12_weightFrom_35 ?_
        obtain ⟨x1, hx1, hf⟩ := bnd_e hf
        refine j_name hx1 ?_
        refine j_istore_n (ls' := [(2, .int x1), (0, .ref (z + aM 0)), (1, .int v1), (3, .int v3)]) E (lt_ rfl) rfl dX12_weightFrom_36 ?_
        refine j_iinc (ls' := [(3, .int (v3 + 1)), (2, .int x1), (0, .ref (z + aM 0)), (1, .int v1)]) E 3 rfl (lt_ rfl) (v3 + 1) (congrArg (fun q => v3 + q) ic_1) rfl dX12_weightFrom_37 ?_
        refine j_goto E 4 (by decide) dX12_weightFrom_40 ?_
        refine j_sub [2, 3, 1, 0] rfl ?_
        exact ih _ _ hf
      · rw [if_pos c2] at hf
        refine j_aload_n E 0 rfl dX12_weightFrom_25 ?_
        refine j_iload_n E 3 rfl dX12_weightFrom_26 ?_
        refine j_iconst E 1 ic_1 dX12_weightFrom_27 ?_
        obtain ⟨r2, h2, hf⟩ := bn1_e hf
        refine j_invV [.int v2] [.int r2, .int v2] E (c_X12_ofLoad h2) ml_X12_148 mv_X12_ofLoad rfl ⟨le_ rfl, le_ rfl⟩ (rcM cf_X12) rfl rfl (le_ rfl) ⟨le_ rfl, le_ rfl⟩ dX12_weightFrom_28 ?_
        refine j_goto E 35 (by decide) dX12_weightFrom_31 ?_
        refine j_iadd E dX12_weightFrom_35 ?_
        obtain ⟨x2, hx2, hf⟩ := bnd_e hf
        refine j_name hx2 ?_
        refine j_istore_n (ls' := [(2, .int x2), (0, .ref (z + aM 0)), (1, .int v1), (3, .int v3)]) E (lt_ rfl) rfl dX12_weightFrom_36 ?_
        refine j_iinc (ls' := [(3, .int (v3 + 1)), (2, .int x2), (0, .ref (z + aM 0)), (1, .int v1)]) E 3 rfl (lt_ rfl) (v3 + 1) (congrArg (fun q => v3 + q) ic_1) rfl dX12_weightFrom_37 ?_
        refine j_goto E 4 (by decide) dX12_weightFrom_40 ?_
        refine j_sub [2, 3, 1, 0] rfl ?_
        exact ih _ _ hf
set_option maxRecDepth 20000 in
theorem c_X12_weightFrom {l : Launch} {D : DD} {z : Nat} {X : XT} {o : Int64} {f1 : Nat} {M : MT} {v1 : Int32} {r : Int32} (hf : f_X12_weightFrom M v1 = some r) : CC l yX12_weightFrom cX12_weightFrom 4 (some .int) (rmk 3 0 0) D z [.ref (z + aM 0), .int v1] (GG D z (X, (f1 + 1, M, o))) (some (.int r)) (GG D z (X, (f1 + 1, M, o))) := by
  unfold f_X12_weightFrom at hf
  refine cc_of pn_X12 (le_ rfl) (ls := [(0, .ref (z + aM 0)), (1, .int v1)]) rfl ?_
  intro p e s m args below meth c E
  refine j_iconst E 0 ic_0 dX12_weightFrom_0 ?_
  refine j_istore_n (ls' := [(2, .int 0), (0, .ref (z + aM 0)), (1, .int v1)]) E (lt_ rfl) rfl dX12_weightFrom_1 ?_
  refine j_iconst E 0 ic_0 dX12_weightFrom_2 ?_
  refine j_istore_n (ls' := [(3, .int 0), (2, .int 0), (0, .ref (z + aM 0)), (1, .int v1)]) E (lt_ rfl) rfl dX12_weightFrom_3 ?_
  refine j_sub [2, 3, 1, 0] rfl ?_
  exact b_X12_weightFrom_4 E 2000 _ _ hf
def f_X12_weightOf (M : MT) (v1 : Int32) : Option (Int32 × MT) :=
  bn1 (f_X12_hasGrower M v1) (fun r1 => bn2 (f_X12_passes1 M r1) (fun r2 M1 => if r2 = 0 then (some (0, M1)) else (bn1 (f_X12_weightFrom M1 v1) (fun r3 => some (r3, M1)))))
set_option maxRecDepth 20000 in
theorem c_X12_weightOf {l : Launch} {D : DD} {z : Nat} {X : XT} {o : Int64} {f1 : Nat} {M : MT} {v1 : Int32} {r : Int32} {M' : MT} (hf : f_X12_weightOf M v1 = some (r, M')) : CC l yX12_weightOf cX12_weightOf 2 (some .int) (rmk 4 0 0) D z [.ref (z + aM 0), .int v1] (GG D z (X, (f1 + 1, M, o))) (some (.int r)) (GG D z (X, (f1 + 1, M', o))) := by
  unfold f_X12_weightOf at hf
  refine cc_of pn_X12 (le_ rfl) (ls := [(0, .ref (z + aM 0)), (1, .int v1)]) rfl ?_
  intro p e s m args below meth c E
  refine j_aload_n E 0 rfl dX12_weightOf_0 ?_
  refine j_aload_n E 0 rfl dX12_weightOf_1 ?_
  refine j_iload_n E 1 rfl dX12_weightOf_2 ?_
  obtain ⟨r1, h1, hf⟩ := bn1_e hf
  refine j_invV [.ref (z + aM 0)] [.int r1, .ref (z + aM 0)] E (c_X12_hasGrower h1) ml_X12_432 mv_X12_hasGrower rfl ⟨le_ rfl, le_ rfl⟩ (rcM cf_X12) rfl rfl (le_ rfl) ⟨le_ rfl, le_ rfl⟩ dX12_weightOf_3 ?_
  obtain ⟨r2, M1, h2, hf⟩ := bn2_e hf
  refine j_invV [] [.int r2] E (c_X12_passes1 h2) ml_X12_396 mv_X12_passes1 rfl ⟨le_ rfl, le_ rfl⟩ (rcM cf_X12) rfl rfl (le_ rfl) ⟨le_ rfl, le_ rfl⟩ dX12_weightOf_6 ?_
  refine j_if_eq E 20 (by decide) dX12_weightOf_9 (fun c1 => ?_) (fun c1 => ?_)
  · rw [if_pos c1] at hf
    refine j_iconst E 0 ic_0 dX12_weightOf_20 ?_
    cases hf
    exact j_iret E rfl (le_ rfl) (le_ rfl) dX12_weightOf_21
  · rw [if_neg c1] at hf
    refine j_aload_n E 0 rfl dX12_weightOf_12 ?_
    refine j_iload_n E 1 rfl dX12_weightOf_13 ?_
    obtain ⟨r3, h3, hf⟩ := bn1_e hf
    refine j_invV [] [.int r3] E (c_X12_weightFrom h3) ml_X12_435 mv_X12_weightFrom rfl ⟨le_ rfl, le_ rfl⟩ (rcM cf_X12) rfl rfl (le_ rfl) ⟨le_ rfl, le_ rfl⟩ dX12_weightOf_14 ?_
    refine j_goto E 21 (by decide) dX12_weightOf_17 ?_
    cases hf
    exact j_iret E rfl (le_ rfl) (le_ rfl) dX12_weightOf_21
def f_X12_owed (M : MT) (v1 : Int32) : Option (Int32 × MT) :=
  bn1 (f_X12_hasGrower M v1) (fun r1 => bn2 (f_X12_passes1 M r1) (fun r2 M1 => if r2 = 0 then (some (0, M1)) else (bn1 (f_X12_openOf M1 v1) (fun r3 => some (r3, M1)))))
set_option maxRecDepth 20000 in
theorem c_X12_owed {l : Launch} {D : DD} {z : Nat} {X : XT} {o : Int64} {f1 : Nat} {M : MT} {v1 : Int32} {r : Int32} {M' : MT} (hf : f_X12_owed M v1 = some (r, M')) : CC l yX12_owed cX12_owed 2 (some .int) (rmk 5 0 0) D z [.ref (z + aM 0), .int v1] (GG D z (X, (f1 + 1, M, o))) (some (.int r)) (GG D z (X, (f1 + 1, M', o))) := by
  unfold f_X12_owed at hf
  refine cc_of pn_X12 (le_ rfl) (ls := [(0, .ref (z + aM 0)), (1, .int v1)]) rfl ?_
  intro p e s m args below meth c E
  refine j_aload_n E 0 rfl dX12_owed_0 ?_
  refine j_aload_n E 0 rfl dX12_owed_1 ?_
  refine j_iload_n E 1 rfl dX12_owed_2 ?_
  obtain ⟨r1, h1, hf⟩ := bn1_e hf
  refine j_invV [.ref (z + aM 0)] [.int r1, .ref (z + aM 0)] E (c_X12_hasGrower h1) ml_X12_432 mv_X12_hasGrower rfl ⟨le_ rfl, le_ rfl⟩ (rcM cf_X12) rfl rfl (le_ rfl) ⟨le_ rfl, le_ rfl⟩ dX12_owed_3 ?_
  obtain ⟨r2, M1, h2, hf⟩ := bn2_e hf
  refine j_invV [] [.int r2] E (c_X12_passes1 h2) ml_X12_396 mv_X12_passes1 rfl ⟨le_ rfl, le_ rfl⟩ (rcM cf_X12) rfl rfl (le_ rfl) ⟨le_ rfl, le_ rfl⟩ dX12_owed_6 ?_
  refine j_if_eq E 20 (by decide) dX12_owed_9 (fun c1 => ?_) (fun c1 => ?_)
  · rw [if_pos c1] at hf
    refine j_iconst E 0 ic_0 dX12_owed_20 ?_
    cases hf
    exact j_iret E rfl (le_ rfl) (le_ rfl) dX12_owed_21
  · rw [if_neg c1] at hf
    refine j_aload_n E 0 rfl dX12_owed_12 ?_
    refine j_iload_n E 1 rfl dX12_owed_13 ?_
    obtain ⟨r3, h3, hf⟩ := bn1_e hf
    refine j_invV [] [.int r3] E (c_X12_openOf h3) ml_X12_212 mv_X12_openOf rfl ⟨le_ rfl, le_ rfl⟩ (rcM cf_X12) rfl rfl (le_ rfl) ⟨le_ rfl, le_ rfl⟩ dX12_owed_14 ?_
    refine j_goto E 21 (by decide) dX12_owed_17 ?_
    cases hf
    exact j_iret E rfl (le_ rfl) (le_ rfl) dX12_owed_21
def f_X12_paidTo_18 (v1 : Int32) : Nat → MT → Int32 → Int32 → Option (Int32 × MT)
  | 0, _, _, _ => none
  | n + 1, M, v2, v3 => if (M.1 1 7) ≤ v3 then (some (v2, M)) else (bn1 (f_X12_growerOf M v3) (fun r1 => if r1 = v1 then (bn1 (f_X12_isOpen M v3) (fun r2 => if r2 = 0 then (bn1 (f_X12_ofLoad M v3 5) (fun r3 => bnd (v2 + r3) (fun x3 => f_X12_paidTo_18 v1 n M x3 (v3 + 1)))) else (bnd (v2 + 0) (fun x2 => f_X12_paidTo_18 v1 n M x2 (v3 + 1))))) else (bnd (v2 + 0) (fun x1 => f_X12_paidTo_18 v1 n M x1 (v3 + 1)))))
def f_X12_paidTo (M : MT) (v1 : Int32) : Option (Int32 × MT) :=
  bn1 (f_X12_hasGrower M v1) (fun r1 => bn2 (f_X12_passes1 M r1) (fun r2 M1 => if r2 = 0 then (some (0, M1)) else (f_X12_paidTo_18 v1 2000 M1 0 0)))
set_option maxRecDepth 20000 in
theorem b_X12_paidTo_18 {p : Program} {l : Launch} {e : Env} {s : State} {m : MethodId} {args : Array Value} {below : List Frame} {meth : Method} {c : Code} {D : DD} {z : Nat} {X : XT} {o : Int64} {f1 : Nat} {v1 : Int32} (E : Cx p s m args meth c D z RX12 cX12_paidTo 4 (some .int)) {r : Int32} {M' : MT} : ∀ (n : Nat) (M : MT) (v2 : Int32) (v3 : Int32) (hf : f_X12_paidTo_18 v1 n M v2 v3 = some (r, M')), J p l e (rmk 3 0 0) s m args below meth c D z (GG D z (X, (f1 + 1, M, o))) 0 0 (MQ below (QC z (some (.int r)) (GG D z (X, (f1 + 1, M', o)))) args s (rmk 3 0 0).cells (rmk 3 0 0).slots (Az z)) 4 18 [(0, .ref (z + aM 0)), (1, .int v1), (2, .int v2), (3, .int v3)] [] := by
  intro n
  induction n with
  | zero =>
    intro M v2 v3 hf
    exact none_e hf
  | succ n ih =>
    intro M v2 v3 hf
    rw [f_X12_paidTo_18] at hf
    refine j_iload_n E 3 rfl dX12_paidTo_18 ?_
    refine j_aload_n E 0 rfl dX12_paidTo_19 ?_
    refine j_getM (f := 1) E cf_X12 fl_X12_17 (lt_ rfl) rfl rfl dX12_paidTo_20 ?_
    refine j_bipush E 7 bp_7 dX12_paidTo_23 ?_
    refine j_ialdM E (lt_ rfl) entM1 (vi_7 (lt_ rfl)) (7) tn_7 dX12_paidTo_25 ?_
    refine j_icmp_ge E 65 (by decide) dX12_paidTo_26 (fun c1 => ?_) (fun c1 => ?_)
    · rw [if_pos c1] at hf
      refine j_iload_n E 2 rfl dX12_paidTo_65 ?_
      cases hf
      exact j_iret E rfl (le_ rfl) (le_ rfl) dX12_paidTo_66
    · rw [if_neg c1] at hf
      refine j_iload_n E 2 rfl dX12_paidTo_29 ?_
      refine j_aload_n E 0 rfl dX12_paidTo_30 ?_
      refine j_iload_n E 3 rfl dX12_paidTo_31 ?_
      obtain ⟨r1, h1, hf⟩ := bn1_e hf
      refine j_invV [.int v2] [.int r1, .int v2] E (c_X12_growerOf h1) ml_X12_206 mv_X12_growerOf rfl ⟨le_ rfl, le_ rfl⟩ (rcM cf_X12) rfl rfl (le_ rfl) ⟨le_ rfl, le_ rfl⟩ dX12_paidTo_32 ?_
      refine j_iload_n E 1 rfl dX12_paidTo_35 ?_
      refine j_icmp_ne E 56 (by decide) dX12_paidTo_36 (fun c2 => ?_) (fun c2 => ?_)
      · rw [if_neg c2] at hf
        refine j_iconst E 0 ic_0 dX12_paidTo_56 ?_
        refine j_iadd E dX12_paidTo_57 ?_
        obtain ⟨x1, hx1, hf⟩ := bnd_e hf
        refine j_name hx1 ?_
        refine j_istore_n (ls' := [(2, .int x1), (0, .ref (z + aM 0)), (1, .int v1), (3, .int v3)]) E (lt_ rfl) rfl dX12_paidTo_58 ?_
        refine j_iinc (ls' := [(3, .int (v3 + 1)), (2, .int x1), (0, .ref (z + aM 0)), (1, .int v1)]) E 3 rfl (lt_ rfl) (v3 + 1) (congrArg (fun q => v3 + q) ic_1) rfl dX12_paidTo_59 ?_
        refine j_goto E 18 (by decide) dX12_paidTo_62 ?_
        refine j_sub [2, 3, 1, 0] rfl ?_
        exact ih _ _ _ hf
      · rw [if_pos c2] at hf
        refine j_aload_n E 0 rfl dX12_paidTo_39 ?_
        refine j_iload_n E 3 rfl dX12_paidTo_40 ?_
        obtain ⟨r2, h2, hf⟩ := bn1_e hf
        refine j_invV [.int v2] [.int r2, .int v2] E (c_X12_isOpen h2) ml_X12_179 mv_X12_isOpen rfl ⟨le_ rfl, le_ rfl⟩ (rcM cf_X12) rfl rfl (le_ rfl) ⟨le_ rfl, le_ rfl⟩ dX12_paidTo_41 ?_
        refine j_if_ne E 56 (by decide) dX12_paidTo_44 (fun c3 => ?_) (fun c3 => ?_)
        · rw [if_neg c3] at hf
          refine j_iconst E 0 ic_0 dX12_paidTo_56 ?_
          refine j_iadd E dX12_paidTo_57 ?_
          obtain ⟨x2, hx2, hf⟩ := bnd_e hf
          refine j_name hx2 ?_
          refine j_istore_n (ls' := [(2, .int x2), (0, .ref (z + aM 0)), (1, .int v1), (3, .int v3)]) E (lt_ rfl) rfl dX12_paidTo_58 ?_
          refine j_iinc (ls' := [(3, .int (v3 + 1)), (2, .int x2), (0, .ref (z + aM 0)), (1, .int v1)]) E 3 rfl (lt_ rfl) (v3 + 1) (congrArg (fun q => v3 + q) ic_1) rfl dX12_paidTo_59 ?_
          refine j_goto E 18 (by decide) dX12_paidTo_62 ?_
          refine j_sub [2, 3, 1, 0] rfl ?_
          exact ih _ _ _ hf
        · rw [if_pos c3] at hf
          refine j_aload_n E 0 rfl dX12_paidTo_47 ?_
          refine j_iload_n E 3 rfl dX12_paidTo_48 ?_
          refine j_iconst E 5 ic_5 dX12_paidTo_49 ?_
          obtain ⟨r3, h3, hf⟩ := bn1_e hf
          refine j_invV [.int v2] [.int r3, .int v2] E (c_X12_ofLoad h3) ml_X12_148 mv_X12_ofLoad rfl ⟨le_ rfl, le_ rfl⟩ (rcM cf_X12) rfl rfl (le_ rfl) ⟨le_ rfl, le_ rfl⟩ dX12_paidTo_50 ?_
          refine j_goto E 57 (by decide) dX12_paidTo_53 ?_
          refine j_iadd E dX12_paidTo_57 ?_
          obtain ⟨x3, hx3, hf⟩ := bnd_e hf
          refine j_name hx3 ?_
          refine j_istore_n (ls' := [(2, .int x3), (0, .ref (z + aM 0)), (1, .int v1), (3, .int v3)]) E (lt_ rfl) rfl dX12_paidTo_58 ?_
          refine j_iinc (ls' := [(3, .int (v3 + 1)), (2, .int x3), (0, .ref (z + aM 0)), (1, .int v1)]) E 3 rfl (lt_ rfl) (v3 + 1) (congrArg (fun q => v3 + q) ic_1) rfl dX12_paidTo_59 ?_
          refine j_goto E 18 (by decide) dX12_paidTo_62 ?_
          refine j_sub [2, 3, 1, 0] rfl ?_
          exact ih _ _ _ hf
set_option maxRecDepth 20000 in
theorem c_X12_paidTo {l : Launch} {D : DD} {z : Nat} {X : XT} {o : Int64} {f1 : Nat} {M : MT} {v1 : Int32} {r : Int32} {M' : MT} (hf : f_X12_paidTo M v1 = some (r, M')) : CC l yX12_paidTo cX12_paidTo 4 (some .int) (rmk 3 0 0) D z [.ref (z + aM 0), .int v1] (GG D z (X, (f1 + 1, M, o))) (some (.int r)) (GG D z (X, (f1 + 1, M', o))) := by
  unfold f_X12_paidTo at hf
  refine cc_of pn_X12 (le_ rfl) (ls := [(0, .ref (z + aM 0)), (1, .int v1)]) rfl ?_
  intro p e s m args below meth c E
  refine j_aload_n E 0 rfl dX12_paidTo_0 ?_
  refine j_aload_n E 0 rfl dX12_paidTo_1 ?_
  refine j_iload_n E 1 rfl dX12_paidTo_2 ?_
  obtain ⟨r1, h1, hf⟩ := bn1_e hf
  refine j_invV [.ref (z + aM 0)] [.int r1, .ref (z + aM 0)] E (c_X12_hasGrower h1) ml_X12_432 mv_X12_hasGrower rfl ⟨le_ rfl, le_ rfl⟩ (rcM cf_X12) rfl rfl (le_ rfl) ⟨le_ rfl, le_ rfl⟩ dX12_paidTo_3 ?_
  obtain ⟨r2, M1, h2, hf⟩ := bn2_e hf
  refine j_invV [] [.int r2] E (c_X12_passes1 h2) ml_X12_396 mv_X12_passes1 rfl ⟨le_ rfl, le_ rfl⟩ (rcM cf_X12) rfl rfl (le_ rfl) ⟨le_ rfl, le_ rfl⟩ dX12_paidTo_6 ?_
  refine j_if_ne E 14 (by decide) dX12_paidTo_9 (fun c1 => ?_) (fun c1 => ?_)
  · rw [if_neg c1] at hf
    refine j_iconst E 0 ic_0 dX12_paidTo_14 ?_
    refine j_istore_n (ls' := [(2, .int 0), (0, .ref (z + aM 0)), (1, .int v1)]) E (lt_ rfl) rfl dX12_paidTo_15 ?_
    refine j_iconst E 0 ic_0 dX12_paidTo_16 ?_
    refine j_istore_n (ls' := [(3, .int 0), (2, .int 0), (0, .ref (z + aM 0)), (1, .int v1)]) E (lt_ rfl) rfl dX12_paidTo_17 ?_
    refine j_sub [2, 3, 1, 0] rfl ?_
    exact b_X12_paidTo_18 E 2000 _ _ _ hf
  · rw [if_pos c1] at hf
    refine j_iconst E 0 ic_0 dX12_paidTo_12 ?_
    cases hf
    exact j_iret E rfl (le_ rfl) (le_ rfl) dX12_paidTo_13
def f_X12_varietiesOf_63 : Nat → MT → Int32 → Int32 → Option (Int32 × MT)
  | 0, _, _, _ => none
  | n + 1, M, v3, v4 => if v4 = 0 then (some (v3, M)) else (bnd (v4 &&& (v4 - 1)) (fun x1 => f_X12_varietiesOf_63 n M (v3 + 1) x1))
def f_X12_varietiesOf_18 (v1 : Int32) : Nat → MT → Int32 → Int32 → Option (Int32 × MT)
  | 0, _, _, _ => none
  | n + 1, M, v2, v3 => if (M.1 1 7) ≤ v3 then (f_X12_varietiesOf_63 2000 M 0 v2) else (bn1 (f_X12_growerOf M v3) (fun r1 => if r1 = v1 then (bn1 (f_X12_varietyOf M v3) (fun r2 => bnd (v2 ||| (1 <<< (r2 &&& 31))) (fun x2 => f_X12_varietiesOf_18 v1 n M x2 (v3 + 1)))) else (bnd (v2 ||| 0) (fun x1 => f_X12_varietiesOf_18 v1 n M x1 (v3 + 1)))))
def f_X12_varietiesOf (M : MT) (v1 : Int32) : Option (Int32 × MT) :=
  bn1 (f_X12_hasGrower M v1) (fun r1 => bn2 (f_X12_passes1 M r1) (fun r2 M1 => if r2 = 0 then (some (0, M1)) else (f_X12_varietiesOf_18 v1 2000 M1 0 0)))
set_option maxRecDepth 20000 in
theorem b_X12_varietiesOf_63 {p : Program} {l : Launch} {e : Env} {s : State} {m : MethodId} {args : Array Value} {below : List Frame} {meth : Method} {c : Code} {D : DD} {z : Nat} {X : XT} {o : Int64} {f1 : Nat} (E : Cx p s m args meth c D z RX12 cX12_varietiesOf 5 (some .int)) {r : Int32} {M' : MT} : ∀ (n : Nat) (M : MT) (v3 : Int32) (v4 : Int32) (hf : f_X12_varietiesOf_63 n M v3 v4 = some (r, M')), J p l e (rmk 3 0 0) s m args below meth c D z (GG D z (X, (f1 + 1, M, o))) 0 0 (MQ below (QC z (some (.int r)) (GG D z (X, (f1 + 1, M', o)))) args s (rmk 3 0 0).cells (rmk 3 0 0).slots (Az z)) 5 63 [(3, .int v3), (4, .int v4)] [] := by
  intro n
  induction n with
  | zero =>
    intro M v3 v4 hf
    exact none_e hf
  | succ n ih =>
    intro M v3 v4 hf
    rw [f_X12_varietiesOf_63] at hf
    refine j_iload E 1 rfl dX12_varietiesOf_63 ?_
    refine j_if_eq E 83 (by decide) dX12_varietiesOf_65 (fun c1 => ?_) (fun c1 => ?_)
    · rw [if_pos c1] at hf
      refine j_iload_n E 0 rfl dX12_varietiesOf_83 ?_
      cases hf
      exact j_iret E rfl (le_ rfl) (le_ rfl) dX12_varietiesOf_84
    · rw [if_neg c1] at hf
      refine j_iinc (ls' := [(3, .int (v3 + 1)), (4, .int v4)]) E 0 rfl (lt_ rfl) (v3 + 1) (congrArg (fun q => v3 + q) ic_1) rfl dX12_varietiesOf_68 ?_
      refine j_iload E 1 rfl dX12_varietiesOf_71 ?_
      refine j_iload E 1 rfl dX12_varietiesOf_73 ?_
      refine j_iconst E 1 ic_1 dX12_varietiesOf_75 ?_
      refine j_isub E dX12_varietiesOf_76 ?_
      refine j_iand E dX12_varietiesOf_77 ?_
      obtain ⟨x1, hx1, hf⟩ := bnd_e hf
      refine j_name hx1 ?_
      refine j_istore (ls' := [(4, .int x1), (3, .int (v3 + 1))]) E (lt_ rfl) rfl dX12_varietiesOf_78 ?_
      refine j_goto E 63 (by decide) dX12_varietiesOf_80 ?_
      refine j_sub [1, 0] rfl ?_
      exact ih _ _ _ hf
set_option maxRecDepth 20000 in
theorem b_X12_varietiesOf_18 {p : Program} {l : Launch} {e : Env} {s : State} {m : MethodId} {args : Array Value} {below : List Frame} {meth : Method} {c : Code} {D : DD} {z : Nat} {X : XT} {o : Int64} {f1 : Nat} {v1 : Int32} (E : Cx p s m args meth c D z RX12 cX12_varietiesOf 5 (some .int)) {r : Int32} {M' : MT} : ∀ (n : Nat) (M : MT) (v2 : Int32) (v3 : Int32) (hf : f_X12_varietiesOf_18 v1 n M v2 v3 = some (r, M')), J p l e (rmk 3 0 0) s m args below meth c D z (GG D z (X, (f1 + 1, M, o))) 0 0 (MQ below (QC z (some (.int r)) (GG D z (X, (f1 + 1, M', o)))) args s (rmk 3 0 0).cells (rmk 3 0 0).slots (Az z)) 5 18 [(0, .ref (z + aM 0)), (1, .int v1), (2, .int v2), (3, .int v3)] [] := by
  intro n
  induction n with
  | zero =>
    intro M v2 v3 hf
    exact none_e hf
  | succ n ih =>
    intro M v2 v3 hf
    rw [f_X12_varietiesOf_18] at hf
    refine j_iload_n E 3 rfl dX12_varietiesOf_18 ?_
    refine j_aload_n E 0 rfl dX12_varietiesOf_19 ?_
    refine j_getM (f := 1) E cf_X12 fl_X12_17 (lt_ rfl) rfl rfl dX12_varietiesOf_20 ?_
    refine j_bipush E 7 bp_7 dX12_varietiesOf_23 ?_
    refine j_ialdM E (lt_ rfl) entM1 (vi_7 (lt_ rfl)) (7) tn_7 dX12_varietiesOf_25 ?_
    refine j_icmp_ge E 58 (by decide) dX12_varietiesOf_26 (fun c1 => ?_) (fun c1 => ?_)
    · rw [if_pos c1] at hf
      refine j_iconst E 0 ic_0 dX12_varietiesOf_58 ?_
      refine j_istore_n (ls' := [(3, .int 0), (0, .ref (z + aM 0)), (1, .int v1), (2, .int v2)]) E (lt_ rfl) rfl dX12_varietiesOf_59 ?_
      refine j_iload_n E 3 rfl dX12_varietiesOf_60 ?_
      refine j_istore (ls' := [(4, .int v2), (3, .int 0), (0, .ref (z + aM 0)), (1, .int v1), (2, .int v2)]) E (lt_ rfl) rfl dX12_varietiesOf_61 ?_
      refine j_sub [1, 0] rfl ?_
      exact b_X12_varietiesOf_63 E 2000 _ _ _ hf
    · rw [if_neg c1] at hf
      refine j_iload_n E 2 rfl dX12_varietiesOf_29 ?_
      refine j_aload_n E 0 rfl dX12_varietiesOf_30 ?_
      refine j_iload_n E 3 rfl dX12_varietiesOf_31 ?_
      obtain ⟨r1, h1, hf⟩ := bn1_e hf
      refine j_invV [.int v2] [.int r1, .int v2] E (c_X12_growerOf h1) ml_X12_206 mv_X12_growerOf rfl ⟨le_ rfl, le_ rfl⟩ (rcM cf_X12) rfl rfl (le_ rfl) ⟨le_ rfl, le_ rfl⟩ dX12_varietiesOf_32 ?_
      refine j_iload_n E 1 rfl dX12_varietiesOf_35 ?_
      refine j_icmp_ne E 49 (by decide) dX12_varietiesOf_36 (fun c2 => ?_) (fun c2 => ?_)
      · rw [if_neg c2] at hf
        refine j_iconst E 0 ic_0 dX12_varietiesOf_49 ?_
        refine j_ior E dX12_varietiesOf_50 ?_
        obtain ⟨x1, hx1, hf⟩ := bnd_e hf
        refine j_name hx1 ?_
        refine j_istore_n (ls' := [(2, .int x1), (0, .ref (z + aM 0)), (1, .int v1), (3, .int v3)]) E (lt_ rfl) rfl dX12_varietiesOf_51 ?_
        refine j_iinc (ls' := [(3, .int (v3 + 1)), (2, .int x1), (0, .ref (z + aM 0)), (1, .int v1)]) E 3 rfl (lt_ rfl) (v3 + 1) (congrArg (fun q => v3 + q) ic_1) rfl dX12_varietiesOf_52 ?_
        refine j_goto E 18 (by decide) dX12_varietiesOf_55 ?_
        refine j_sub [2, 3, 1, 0] rfl ?_
        exact ih _ _ _ hf
      · rw [if_pos c2] at hf
        refine j_iconst E 1 ic_1 dX12_varietiesOf_39 ?_
        refine j_aload_n E 0 rfl dX12_varietiesOf_40 ?_
        refine j_iload_n E 3 rfl dX12_varietiesOf_41 ?_
        obtain ⟨r2, h2, hf⟩ := bn1_e hf
        refine j_invV [.int 1, .int v2] [.int r2, .int 1, .int v2] E (c_X12_varietyOf h2) ml_X12_183 mv_X12_varietyOf rfl ⟨le_ rfl, le_ rfl⟩ (rcM cf_X12) rfl rfl (le_ rfl) ⟨le_ rfl, le_ rfl⟩ dX12_varietiesOf_42 ?_
        refine j_ishl E dX12_varietiesOf_45 ?_
        refine j_goto E 50 (by decide) dX12_varietiesOf_46 ?_
        refine j_ior E dX12_varietiesOf_50 ?_
        obtain ⟨x2, hx2, hf⟩ := bnd_e hf
        refine j_name hx2 ?_
        refine j_istore_n (ls' := [(2, .int x2), (0, .ref (z + aM 0)), (1, .int v1), (3, .int v3)]) E (lt_ rfl) rfl dX12_varietiesOf_51 ?_
        refine j_iinc (ls' := [(3, .int (v3 + 1)), (2, .int x2), (0, .ref (z + aM 0)), (1, .int v1)]) E 3 rfl (lt_ rfl) (v3 + 1) (congrArg (fun q => v3 + q) ic_1) rfl dX12_varietiesOf_52 ?_
        refine j_goto E 18 (by decide) dX12_varietiesOf_55 ?_
        refine j_sub [2, 3, 1, 0] rfl ?_
        exact ih _ _ _ hf
set_option maxRecDepth 20000 in
theorem c_X12_varietiesOf {l : Launch} {D : DD} {z : Nat} {X : XT} {o : Int64} {f1 : Nat} {M : MT} {v1 : Int32} {r : Int32} {M' : MT} (hf : f_X12_varietiesOf M v1 = some (r, M')) : CC l yX12_varietiesOf cX12_varietiesOf 5 (some .int) (rmk 3 0 0) D z [.ref (z + aM 0), .int v1] (GG D z (X, (f1 + 1, M, o))) (some (.int r)) (GG D z (X, (f1 + 1, M', o))) := by
  unfold f_X12_varietiesOf at hf
  refine cc_of pn_X12 (le_ rfl) (ls := [(0, .ref (z + aM 0)), (1, .int v1)]) rfl ?_
  intro p e s m args below meth c E
  refine j_aload_n E 0 rfl dX12_varietiesOf_0 ?_
  refine j_aload_n E 0 rfl dX12_varietiesOf_1 ?_
  refine j_iload_n E 1 rfl dX12_varietiesOf_2 ?_
  obtain ⟨r1, h1, hf⟩ := bn1_e hf
  refine j_invV [.ref (z + aM 0)] [.int r1, .ref (z + aM 0)] E (c_X12_hasGrower h1) ml_X12_432 mv_X12_hasGrower rfl ⟨le_ rfl, le_ rfl⟩ (rcM cf_X12) rfl rfl (le_ rfl) ⟨le_ rfl, le_ rfl⟩ dX12_varietiesOf_3 ?_
  obtain ⟨r2, M1, h2, hf⟩ := bn2_e hf
  refine j_invV [] [.int r2] E (c_X12_passes1 h2) ml_X12_396 mv_X12_passes1 rfl ⟨le_ rfl, le_ rfl⟩ (rcM cf_X12) rfl rfl (le_ rfl) ⟨le_ rfl, le_ rfl⟩ dX12_varietiesOf_6 ?_
  refine j_if_ne E 14 (by decide) dX12_varietiesOf_9 (fun c1 => ?_) (fun c1 => ?_)
  · rw [if_neg c1] at hf
    refine j_iconst E 0 ic_0 dX12_varietiesOf_14 ?_
    refine j_istore_n (ls' := [(2, .int 0), (0, .ref (z + aM 0)), (1, .int v1)]) E (lt_ rfl) rfl dX12_varietiesOf_15 ?_
    refine j_iconst E 0 ic_0 dX12_varietiesOf_16 ?_
    refine j_istore_n (ls' := [(3, .int 0), (2, .int 0), (0, .ref (z + aM 0)), (1, .int v1)]) E (lt_ rfl) rfl dX12_varietiesOf_17 ?_
    refine j_sub [2, 3, 1, 0] rfl ?_
    exact b_X12_varietiesOf_18 E 2000 _ _ _ hf
  · rw [if_pos c1] at hf
    refine j_iconst E 0 ic_0 dX12_varietiesOf_12 ?_
    cases hf
    exact j_iret E rfl (le_ rfl) (le_ rfl) dX12_varietiesOf_13
def f_X12_greatestGrower_9 : Nat → MT → Int32 → Int32 → Option (Int32 × MT)
  | 0, _, _, _ => none
  | n + 1, M, v1, v2 => if (M.1 1 5) ≤ v2 then (some (v1, M)) else (if v1 = (-1) then (f_X12_greatestGrower_9 n M v2 (v2 + 1)) else (bn1 (f_X12_weightFrom M v2) (fun r1 => bn1 (f_X12_weightFrom M v1) (fun r2 => if r1 ≤ r2 then (f_X12_greatestGrower_9 n M v1 (v2 + 1)) else (f_X12_greatestGrower_9 n M v2 (v2 + 1))))))
def f_X12_greatestGrower (M : MT) : Option (Int32 × MT) :=
  bnd (mi M 0 0 0) (fun M1 => f_X12_greatestGrower_9 2000 M1 (-1) 0)
set_option maxRecDepth 20000 in
theorem b_X12_greatestGrower_9 {p : Program} {l : Launch} {e : Env} {s : State} {m : MethodId} {args : Array Value} {below : List Frame} {meth : Method} {c : Code} {D : DD} {z : Nat} {X : XT} {o : Int64} {f1 : Nat} (E : Cx p s m args meth c D z RX12 cX12_greatestGrower 3 (some .int)) {r : Int32} {M' : MT} : ∀ (n : Nat) (M : MT) (v1 : Int32) (v2 : Int32) (hf : f_X12_greatestGrower_9 n M v1 v2 = some (r, M')), J p l e (rmk 4 0 0) s m args below meth c D z (GG D z (X, (f1 + 1, M, o))) 0 0 (MQ below (QC z (some (.int r)) (GG D z (X, (f1 + 1, M', o)))) args s (rmk 4 0 0).cells (rmk 4 0 0).slots (Az z)) 3 9 [(0, .ref (z + aM 0)), (1, .int v1), (2, .int v2)] [] := by
  intro n
  induction n with
  | zero =>
    intro M v1 v2 hf
    exact none_e hf
  | succ n ih =>
    intro M v1 v2 hf
    rw [f_X12_greatestGrower_9] at hf
    refine j_iload_n E 2 rfl dX12_greatestGrower_9 ?_
    refine j_aload_n E 0 rfl dX12_greatestGrower_10 ?_
    refine j_getM (f := 1) E cf_X12 fl_X12_17 (lt_ rfl) rfl rfl dX12_greatestGrower_11 ?_
    refine j_iconst E 5 ic_5 dX12_greatestGrower_14 ?_
    refine j_ialdM E (lt_ rfl) entM1 (vi_5 (lt_ rfl)) (5) tn_5 dX12_greatestGrower_15 ?_
    refine j_icmp_ge E 49 (by decide) dX12_greatestGrower_16 (fun c1 => ?_) (fun c1 => ?_)
    · rw [if_pos c1] at hf
      refine j_iload_n E 1 rfl dX12_greatestGrower_49 ?_
      cases hf
      exact j_iret E rfl (le_ rfl) (le_ rfl) dX12_greatestGrower_50
    · rw [if_neg c1] at hf
      refine j_iload_n E 1 rfl dX12_greatestGrower_19 ?_
      refine j_iconst E (-1) ic_m1 dX12_greatestGrower_20 ?_
      refine j_icmp_eq E 37 (by decide) dX12_greatestGrower_21 (fun c2 => ?_) (fun c2 => ?_)
      · rw [if_pos c2] at hf
        refine j_iload_n E 2 rfl dX12_greatestGrower_37 ?_
        refine j_goto E 42 (by decide) dX12_greatestGrower_38 ?_
        refine j_istore_n (ls' := [(1, .int v2), (0, .ref (z + aM 0)), (2, .int v2)]) E (lt_ rfl) rfl dX12_greatestGrower_42 ?_
        refine j_iinc (ls' := [(2, .int (v2 + 1)), (1, .int v2), (0, .ref (z + aM 0))]) E 2 rfl (lt_ rfl) (v2 + 1) (congrArg (fun q => v2 + q) ic_1) rfl dX12_greatestGrower_43 ?_
        refine j_goto E 9 (by decide) dX12_greatestGrower_46 ?_
        refine j_sub [2, 1, 0] rfl ?_
        exact ih _ _ _ hf
      · rw [if_neg c2] at hf
        refine j_aload_n E 0 rfl dX12_greatestGrower_24 ?_
        refine j_iload_n E 2 rfl dX12_greatestGrower_25 ?_
        obtain ⟨r1, h1, hf⟩ := bn1_e hf
        refine j_invV [] [.int r1] E (c_X12_weightFrom h1) ml_X12_435 mv_X12_weightFrom rfl ⟨le_ rfl, le_ rfl⟩ (rcM cf_X12) rfl rfl (le_ rfl) ⟨le_ rfl, le_ rfl⟩ dX12_greatestGrower_26 ?_
        refine j_aload_n E 0 rfl dX12_greatestGrower_29 ?_
        refine j_iload_n E 1 rfl dX12_greatestGrower_30 ?_
        obtain ⟨r2, h2, hf⟩ := bn1_e hf
        refine j_invV [.int r1] [.int r2, .int r1] E (c_X12_weightFrom h2) ml_X12_435 mv_X12_weightFrom rfl ⟨le_ rfl, le_ rfl⟩ (rcM cf_X12) rfl rfl (le_ rfl) ⟨le_ rfl, le_ rfl⟩ dX12_greatestGrower_31 ?_
        refine j_icmp_le E 41 (by decide) dX12_greatestGrower_34 (fun c3 => ?_) (fun c3 => ?_)
        · rw [if_pos c3] at hf
          refine j_iload_n E 1 rfl dX12_greatestGrower_41 ?_
          refine j_istore_n (ls' := [(1, .int v1), (0, .ref (z + aM 0)), (2, .int v2)]) E (lt_ rfl) rfl dX12_greatestGrower_42 ?_
          refine j_iinc (ls' := [(2, .int (v2 + 1)), (1, .int v1), (0, .ref (z + aM 0))]) E 2 rfl (lt_ rfl) (v2 + 1) (congrArg (fun q => v2 + q) ic_1) rfl dX12_greatestGrower_43 ?_
          refine j_goto E 9 (by decide) dX12_greatestGrower_46 ?_
          refine j_sub [2, 1, 0] rfl ?_
          exact ih _ _ _ hf
        · rw [if_neg c3] at hf
          refine j_iload_n E 2 rfl dX12_greatestGrower_37 ?_
          refine j_goto E 42 (by decide) dX12_greatestGrower_38 ?_
          refine j_istore_n (ls' := [(1, .int v2), (0, .ref (z + aM 0)), (2, .int v2)]) E (lt_ rfl) rfl dX12_greatestGrower_42 ?_
          refine j_iinc (ls' := [(2, .int (v2 + 1)), (1, .int v2), (0, .ref (z + aM 0))]) E 2 rfl (lt_ rfl) (v2 + 1) (congrArg (fun q => v2 + q) ic_1) rfl dX12_greatestGrower_43 ?_
          refine j_goto E 9 (by decide) dX12_greatestGrower_46 ?_
          refine j_sub [2, 1, 0] rfl ?_
          exact ih _ _ _ hf
set_option maxRecDepth 20000 in
theorem c_X12_greatestGrower {l : Launch} {D : DD} {z : Nat} {X : XT} {o : Int64} {f1 : Nat} {M : MT} {r : Int32} {M' : MT} (hf : f_X12_greatestGrower M = some (r, M')) : CC l yX12_greatestGrower cX12_greatestGrower 3 (some .int) (rmk 4 0 0) D z [.ref (z + aM 0)] (GG D z (X, (f1 + 1, M, o))) (some (.int r)) (GG D z (X, (f1 + 1, M', o))) := by
  unfold f_X12_greatestGrower at hf
  refine cc_of pn_X12 (le_ rfl) (ls := [(0, .ref (z + aM 0))]) rfl ?_
  intro p e s m args below meth c E
  refine j_aload_n E 0 rfl dX12_greatestGrower_0 ?_
  refine j_iconst E 0 ic_0 dX12_greatestGrower_1 ?_
  obtain ⟨M1, hM1, hf⟩ := bnd_e hf
  refine j_putM (f := 0) E cf_X12 fl_X12_3 (lt_ rfl) ⟨rfl, rfl⟩ (fit_i _) (lt_ rfl) peM_0 hM1 dX12_greatestGrower_2 ?_
  refine j_iconst E (-1) ic_m1 dX12_greatestGrower_5 ?_
  refine j_istore_n (ls' := [(1, .int (-1)), (0, .ref (z + aM 0))]) E (lt_ rfl) rfl dX12_greatestGrower_6 ?_
  refine j_iconst E 0 ic_0 dX12_greatestGrower_7 ?_
  refine j_istore_n (ls' := [(2, .int 0), (1, .int (-1)), (0, .ref (z + aM 0))]) E (lt_ rfl) rfl dX12_greatestGrower_8 ?_
  refine j_sub [2, 1, 0] rfl ?_
  exact b_X12_greatestGrower_9 E 2000 _ _ _ hf
def f_X12_yieldLimit (M : MT) (v1 : Int32) : Option (Int32 × MT) :=
  bn1 (f_X12_hasPlot M v1) (fun r1 => bn2 (f_X12_passes1 M r1) (fun r2 M1 => if r2 = 0 then (some (0, M1)) else (bn1 (f_X12_limitOf M1 v1) (fun r3 => some (r3, M1)))))
set_option maxRecDepth 20000 in
theorem c_X12_yieldLimit {l : Launch} {D : DD} {z : Nat} {X : XT} {o : Int64} {f1 : Nat} {M : MT} {v1 : Int32} {r : Int32} {M' : MT} (hf : f_X12_yieldLimit M v1 = some (r, M')) : CC l yX12_yieldLimit cX12_yieldLimit 2 (some .int) (rmk 3 0 0) D z [.ref (z + aM 0), .int v1] (GG D z (X, (f1 + 1, M, o))) (some (.int r)) (GG D z (X, (f1 + 1, M', o))) := by
  unfold f_X12_yieldLimit at hf
  refine cc_of pn_X12 (le_ rfl) (ls := [(0, .ref (z + aM 0)), (1, .int v1)]) rfl ?_
  intro p e s m args below meth c E
  refine j_aload_n E 0 rfl dX12_yieldLimit_0 ?_
  refine j_aload_n E 0 rfl dX12_yieldLimit_1 ?_
  refine j_iload_n E 1 rfl dX12_yieldLimit_2 ?_
  obtain ⟨r1, h1, hf⟩ := bn1_e hf
  refine j_invV [.ref (z + aM 0)] [.int r1, .ref (z + aM 0)] E (c_X12_hasPlot h1) ml_X12_438 mv_X12_hasPlot rfl ⟨le_ rfl, le_ rfl⟩ (rcM cf_X12) rfl rfl (le_ rfl) ⟨le_ rfl, le_ rfl⟩ dX12_yieldLimit_3 ?_
  obtain ⟨r2, M1, h2, hf⟩ := bn2_e hf
  refine j_invV [] [.int r2] E (c_X12_passes1 h2) ml_X12_396 mv_X12_passes1 rfl ⟨le_ rfl, le_ rfl⟩ (rcM cf_X12) rfl rfl (le_ rfl) ⟨le_ rfl, le_ rfl⟩ dX12_yieldLimit_6 ?_
  refine j_if_eq E 20 (by decide) dX12_yieldLimit_9 (fun c1 => ?_) (fun c1 => ?_)
  · rw [if_pos c1] at hf
    refine j_iconst E 0 ic_0 dX12_yieldLimit_20 ?_
    cases hf
    exact j_iret E rfl (le_ rfl) (le_ rfl) dX12_yieldLimit_21
  · rw [if_neg c1] at hf
    refine j_aload_n E 0 rfl dX12_yieldLimit_12 ?_
    refine j_iload_n E 1 rfl dX12_yieldLimit_13 ?_
    obtain ⟨r3, h3, hf⟩ := bn1_e hf
    refine j_invV [] [.int r3] E (c_X12_limitOf h3) ml_X12_170 mv_X12_limitOf rfl ⟨le_ rfl, le_ rfl⟩ (rcM cf_X12) rfl rfl (le_ rfl) ⟨le_ rfl, le_ rfl⟩ dX12_yieldLimit_14 ?_
    refine j_goto E 21 (by decide) dX12_yieldLimit_17 ?_
    cases hf
    exact j_iret E rfl (le_ rfl) (le_ rfl) dX12_yieldLimit_21
def f_X12_harvested (M : MT) (v1 : Int32) : Option (Int32 × MT) :=
  bn1 (f_X12_hasPlot M v1) (fun r1 => bn2 (f_X12_passes1 M r1) (fun r2 M1 => if r2 = 0 then (some (0, M1)) else (bn1 (f_X12_harvestOf M1 v1) (fun r3 => some (r3, M1)))))
set_option maxRecDepth 20000 in
theorem c_X12_harvested {l : Launch} {D : DD} {z : Nat} {X : XT} {o : Int64} {f1 : Nat} {M : MT} {v1 : Int32} {r : Int32} {M' : MT} (hf : f_X12_harvested M v1 = some (r, M')) : CC l yX12_harvested cX12_harvested 2 (some .int) (rmk 3 0 0) D z [.ref (z + aM 0), .int v1] (GG D z (X, (f1 + 1, M, o))) (some (.int r)) (GG D z (X, (f1 + 1, M', o))) := by
  unfold f_X12_harvested at hf
  refine cc_of pn_X12 (le_ rfl) (ls := [(0, .ref (z + aM 0)), (1, .int v1)]) rfl ?_
  intro p e s m args below meth c E
  refine j_aload_n E 0 rfl dX12_harvested_0 ?_
  refine j_aload_n E 0 rfl dX12_harvested_1 ?_
  refine j_iload_n E 1 rfl dX12_harvested_2 ?_
  obtain ⟨r1, h1, hf⟩ := bn1_e hf
  refine j_invV [.ref (z + aM 0)] [.int r1, .ref (z + aM 0)] E (c_X12_hasPlot h1) ml_X12_438 mv_X12_hasPlot rfl ⟨le_ rfl, le_ rfl⟩ (rcM cf_X12) rfl rfl (le_ rfl) ⟨le_ rfl, le_ rfl⟩ dX12_harvested_3 ?_
  obtain ⟨r2, M1, h2, hf⟩ := bn2_e hf
  refine j_invV [] [.int r2] E (c_X12_passes1 h2) ml_X12_396 mv_X12_passes1 rfl ⟨le_ rfl, le_ rfl⟩ (rcM cf_X12) rfl rfl (le_ rfl) ⟨le_ rfl, le_ rfl⟩ dX12_harvested_6 ?_
  refine j_if_eq E 20 (by decide) dX12_harvested_9 (fun c1 => ?_) (fun c1 => ?_)
  · rw [if_pos c1] at hf
    refine j_iconst E 0 ic_0 dX12_harvested_20 ?_
    cases hf
    exact j_iret E rfl (le_ rfl) (le_ rfl) dX12_harvested_21
  · rw [if_neg c1] at hf
    refine j_aload_n E 0 rfl dX12_harvested_12 ?_
    refine j_iload_n E 1 rfl dX12_harvested_13 ?_
    obtain ⟨r3, h3, hf⟩ := bn1_e hf
    refine j_invV [] [.int r3] E (c_X12_harvestOf h3) ml_X12_167 mv_X12_harvestOf rfl ⟨le_ rfl, le_ rfl⟩ (rcM cf_X12) rfl rfl (le_ rfl) ⟨le_ rfl, le_ rfl⟩ dX12_harvested_14 ?_
    refine j_goto E 21 (by decide) dX12_harvested_17 ?_
    cases hf
    exact j_iret E rfl (le_ rfl) (le_ rfl) dX12_harvested_21
def f_X12_yieldLeft (M : MT) (v1 : Int32) : Option (Int32 × MT) :=
  bn1 (f_X12_hasPlot M v1) (fun r1 => bn2 (f_X12_passes1 M r1) (fun r2 M1 => if r2 = 0 then (some (0, M1)) else (bn1 (f_X12_limitOf M1 v1) (fun r3 => bn1 (f_X12_harvestOf M1 v1) (fun r4 => some ((if (if 0 < (r3 - r4) then (r3 - r4) else 0) < 5000 then (if 0 < (r3 - r4) then (r3 - r4) else 0) else 5000), M1))))))
set_option maxRecDepth 20000 in
theorem c_X12_yieldLeft {l : Launch} {D : DD} {z : Nat} {X : XT} {o : Int64} {f1 : Nat} {M : MT} {v1 : Int32} {r : Int32} {M' : MT} (hf : f_X12_yieldLeft M v1 = some (r, M')) : CC l yX12_yieldLeft cX12_yieldLeft 2 (some .int) (rmk 3 0 0) D z [.ref (z + aM 0), .int v1] (GG D z (X, (f1 + 1, M, o))) (some (.int r)) (GG D z (X, (f1 + 1, M', o))) := by
  unfold f_X12_yieldLeft at hf
  refine cc_of pn_X12 (le_ rfl) (ls := [(0, .ref (z + aM 0)), (1, .int v1)]) rfl ?_
  intro p e s m args below meth c E
  refine j_aload_n E 0 rfl dX12_yieldLeft_0 ?_
  refine j_aload_n E 0 rfl dX12_yieldLeft_1 ?_
  refine j_iload_n E 1 rfl dX12_yieldLeft_2 ?_
  obtain ⟨r1, h1, hf⟩ := bn1_e hf
  refine j_invV [.ref (z + aM 0)] [.int r1, .ref (z + aM 0)] E (c_X12_hasPlot h1) ml_X12_438 mv_X12_hasPlot rfl ⟨le_ rfl, le_ rfl⟩ (rcM cf_X12) rfl rfl (le_ rfl) ⟨le_ rfl, le_ rfl⟩ dX12_yieldLeft_3 ?_
  obtain ⟨r2, M1, h2, hf⟩ := bn2_e hf
  refine j_invV [] [.int r2] E (c_X12_passes1 h2) ml_X12_396 mv_X12_passes1 rfl ⟨le_ rfl, le_ rfl⟩ (rcM cf_X12) rfl rfl (le_ rfl) ⟨le_ rfl, le_ rfl⟩ dX12_yieldLeft_6 ?_
  refine j_if_eq E 36 (by decide) dX12_yieldLeft_9 (fun c1 => ?_) (fun c1 => ?_)
  · rw [if_pos c1] at hf
    refine j_iconst E 0 ic_0 dX12_yieldLeft_36 ?_
    cases hf
    exact j_iret E rfl (le_ rfl) (le_ rfl) dX12_yieldLeft_37
  · rw [if_neg c1] at hf
    refine j_sipush E 5000 sp_5000 dX12_yieldLeft_12 ?_
    refine j_iconst E 0 ic_0 dX12_yieldLeft_15 ?_
    refine j_aload_n E 0 rfl dX12_yieldLeft_16 ?_
    refine j_iload_n E 1 rfl dX12_yieldLeft_17 ?_
    obtain ⟨r3, h3, hf⟩ := bn1_e hf
    refine j_invV [.int 0, .int 5000] [.int r3, .int 0, .int 5000] E (c_X12_limitOf h3) ml_X12_170 mv_X12_limitOf rfl ⟨le_ rfl, le_ rfl⟩ (rcM cf_X12) rfl rfl (le_ rfl) ⟨le_ rfl, le_ rfl⟩ dX12_yieldLeft_18 ?_
    refine j_aload_n E 0 rfl dX12_yieldLeft_21 ?_
    refine j_iload_n E 1 rfl dX12_yieldLeft_22 ?_
    obtain ⟨r4, h4, hf⟩ := bn1_e hf
    refine j_invV [.int r3, .int 0, .int 5000] [.int r4, .int r3, .int 0, .int 5000] E (c_X12_harvestOf h4) ml_X12_167 mv_X12_harvestOf rfl ⟨le_ rfl, le_ rfl⟩ (rcM cf_X12) rfl rfl (le_ rfl) ⟨le_ rfl, le_ rfl⟩ dX12_yieldLeft_23 ?_
    refine j_isub E dX12_yieldLeft_26 ?_
    refine j_max [.int 5000] E ml_X12_299 st_Lib_Math_max_name in_J9 cd_Lib_Math_max_name (le_ rfl) (le_ rfl) (le_ rfl) (le_ rfl) dX12_yieldLeft_27 ?_
    refine j_min [] E ml_X12_441 st_Lib_Math_min_name in_J9 cd_Lib_Math_min_name (le_ rfl) (le_ rfl) (le_ rfl) (le_ rfl) dX12_yieldLeft_30 ?_
    refine j_goto E 37 (by decide) dX12_yieldLeft_33 ?_
    cases hf
    exact j_iret E rfl (le_ rfl) (le_ rfl) dX12_yieldLeft_37
def f_X12_tellLoad (M : MT) (v1 : Int32) (v2 : Int32) : Option (Int32 × MT) :=
  bn1 (f_X12_hasLoad M v1) (fun r1 => bn2 (f_X12_passes1 M r1) (fun r2 M1 => if r2 = 0 then (some (0, M1)) else (bn1 (f_X12_ofLoad M1 v1 v2) (fun r3 => some (r3, M1)))))
set_option maxRecDepth 20000 in
theorem c_X12_tellLoad {l : Launch} {D : DD} {z : Nat} {X : XT} {o : Int64} {f1 : Nat} {M : MT} {v1 : Int32} {v2 : Int32} {r : Int32} {M' : MT} (hf : f_X12_tellLoad M v1 v2 = some (r, M')) : CC l yX12_tellLoad cX12_tellLoad 3 (some .int) (rmk 3 0 0) D z [.ref (z + aM 0), .int v1, .int v2] (GG D z (X, (f1 + 1, M, o))) (some (.int r)) (GG D z (X, (f1 + 1, M', o))) := by
  unfold f_X12_tellLoad at hf
  refine cc_of pn_X12 (le_ rfl) (ls := [(0, .ref (z + aM 0)), (1, .int v1), (2, .int v2)]) rfl ?_
  intro p e s m args below meth c E
  refine j_aload_n E 0 rfl dX12_tellLoad_0 ?_
  refine j_aload_n E 0 rfl dX12_tellLoad_1 ?_
  refine j_iload_n E 1 rfl dX12_tellLoad_2 ?_
  obtain ⟨r1, h1, hf⟩ := bn1_e hf
  refine j_invV [.ref (z + aM 0)] [.int r1, .ref (z + aM 0)] E (c_X12_hasLoad h1) ml_X12_444 mv_X12_hasLoad rfl ⟨le_ rfl, le_ rfl⟩ (rcM cf_X12) rfl rfl (le_ rfl) ⟨le_ rfl, le_ rfl⟩ dX12_tellLoad_3 ?_
  obtain ⟨r2, M1, h2, hf⟩ := bn2_e hf
  refine j_invV [] [.int r2] E (c_X12_passes1 h2) ml_X12_396 mv_X12_passes1 rfl ⟨le_ rfl, le_ rfl⟩ (rcM cf_X12) rfl rfl (le_ rfl) ⟨le_ rfl, le_ rfl⟩ dX12_tellLoad_6 ?_
  refine j_if_eq E 21 (by decide) dX12_tellLoad_9 (fun c1 => ?_) (fun c1 => ?_)
  · rw [if_pos c1] at hf
    refine j_iconst E 0 ic_0 dX12_tellLoad_21 ?_
    cases hf
    exact j_iret E rfl (le_ rfl) (le_ rfl) dX12_tellLoad_22
  · rw [if_neg c1] at hf
    refine j_aload_n E 0 rfl dX12_tellLoad_12 ?_
    refine j_iload_n E 1 rfl dX12_tellLoad_13 ?_
    refine j_iload_n E 2 rfl dX12_tellLoad_14 ?_
    obtain ⟨r3, h3, hf⟩ := bn1_e hf
    refine j_invV [] [.int r3] E (c_X12_ofLoad h3) ml_X12_148 mv_X12_ofLoad rfl ⟨le_ rfl, le_ rfl⟩ (rcM cf_X12) rfl rfl (le_ rfl) ⟨le_ rfl, le_ rfl⟩ dX12_tellLoad_15 ?_
    refine j_goto E 22 (by decide) dX12_tellLoad_18 ?_
    cases hf
    exact j_iret E rfl (le_ rfl) (le_ rfl) dX12_tellLoad_22
def f_X12_plotOfLoad (M : MT) (v1 : Int32) : Option (Int32 × MT) :=
  bn2 (f_X12_tellLoad M v1 0) (fun r1 M1 => some (r1, M1))
set_option maxRecDepth 20000 in
theorem c_X12_plotOfLoad {l : Launch} {D : DD} {z : Nat} {X : XT} {o : Int64} {f1 : Nat} {M : MT} {v1 : Int32} {r : Int32} {M' : MT} (hf : f_X12_plotOfLoad M v1 = some (r, M')) : CC l yX12_plotOfLoad cX12_plotOfLoad 2 (some .int) (rmk 4 0 0) D z [.ref (z + aM 0), .int v1] (GG D z (X, (f1 + 1, M, o))) (some (.int r)) (GG D z (X, (f1 + 1, M', o))) := by
  unfold f_X12_plotOfLoad at hf
  refine cc_of pn_X12 (le_ rfl) (ls := [(0, .ref (z + aM 0)), (1, .int v1)]) rfl ?_
  intro p e s m args below meth c E
  refine j_aload_n E 0 rfl dX12_plotOfLoad_0 ?_
  refine j_iload_n E 1 rfl dX12_plotOfLoad_1 ?_
  refine j_iconst E 0 ic_0 dX12_plotOfLoad_2 ?_
  obtain ⟨r1, M1, h1, hf⟩ := bn2_e hf
  refine j_invV [] [.int r1] E (c_X12_tellLoad h1) ml_X12_447 mv_X12_tellLoad rfl ⟨le_ rfl, le_ rfl⟩ (rcM cf_X12) rfl rfl (le_ rfl) ⟨le_ rfl, le_ rfl⟩ dX12_plotOfLoad_3 ?_
  cases hf
  exact j_iret E rfl (le_ rfl) (le_ rfl) dX12_plotOfLoad_6
def f_X12_classOfLoad (M : MT) (v1 : Int32) : Option (Int32 × MT) :=
  bn2 (f_X12_tellLoad M v1 3) (fun r1 M1 => some (r1, M1))
set_option maxRecDepth 20000 in
theorem c_X12_classOfLoad {l : Launch} {D : DD} {z : Nat} {X : XT} {o : Int64} {f1 : Nat} {M : MT} {v1 : Int32} {r : Int32} {M' : MT} (hf : f_X12_classOfLoad M v1 = some (r, M')) : CC l yX12_classOfLoad cX12_classOfLoad 2 (some .int) (rmk 4 0 0) D z [.ref (z + aM 0), .int v1] (GG D z (X, (f1 + 1, M, o))) (some (.int r)) (GG D z (X, (f1 + 1, M', o))) := by
  unfold f_X12_classOfLoad at hf
  refine cc_of pn_X12 (le_ rfl) (ls := [(0, .ref (z + aM 0)), (1, .int v1)]) rfl ?_
  intro p e s m args below meth c E
  refine j_aload_n E 0 rfl dX12_classOfLoad_0 ?_
  refine j_iload_n E 1 rfl dX12_classOfLoad_1 ?_
  refine j_iconst E 3 ic_3 dX12_classOfLoad_2 ?_
  obtain ⟨r1, M1, h1, hf⟩ := bn2_e hf
  refine j_invV [] [.int r1] E (c_X12_tellLoad h1) ml_X12_447 mv_X12_tellLoad rfl ⟨le_ rfl, le_ rfl⟩ (rcM cf_X12) rfl rfl (le_ rfl) ⟨le_ rfl, le_ rfl⟩ dX12_classOfLoad_3 ?_
  cases hf
  exact j_iret E rfl (le_ rfl) (le_ rfl) dX12_classOfLoad_6
def f_X12_tankOfLoad (M : MT) (v1 : Int32) : Option (Int32 × MT) :=
  bn2 (f_X12_tellLoad M v1 4) (fun r1 M1 => some (r1, M1))
set_option maxRecDepth 20000 in
theorem c_X12_tankOfLoad {l : Launch} {D : DD} {z : Nat} {X : XT} {o : Int64} {f1 : Nat} {M : MT} {v1 : Int32} {r : Int32} {M' : MT} (hf : f_X12_tankOfLoad M v1 = some (r, M')) : CC l yX12_tankOfLoad cX12_tankOfLoad 2 (some .int) (rmk 4 0 0) D z [.ref (z + aM 0), .int v1] (GG D z (X, (f1 + 1, M, o))) (some (.int r)) (GG D z (X, (f1 + 1, M', o))) := by
  unfold f_X12_tankOfLoad at hf
  refine cc_of pn_X12 (le_ rfl) (ls := [(0, .ref (z + aM 0)), (1, .int v1)]) rfl ?_
  intro p e s m args below meth c E
  refine j_aload_n E 0 rfl dX12_tankOfLoad_0 ?_
  refine j_iload_n E 1 rfl dX12_tankOfLoad_1 ?_
  refine j_iconst E 4 ic_4 dX12_tankOfLoad_2 ?_
  obtain ⟨r1, M1, h1, hf⟩ := bn2_e hf
  refine j_invV [] [.int r1] E (c_X12_tellLoad h1) ml_X12_447 mv_X12_tellLoad rfl ⟨le_ rfl, le_ rfl⟩ (rcM cf_X12) rfl rfl (le_ rfl) ⟨le_ rfl, le_ rfl⟩ dX12_tankOfLoad_3 ?_
  cases hf
  exact j_iret E rfl (le_ rfl) (le_ rfl) dX12_tankOfLoad_6
def f_X12_valueOf (M : MT) (v1 : Int32) : Option (Int32 × MT) :=
  bn1 (f_X12_hasLoad M v1) (fun r1 => bn2 (f_X12_passes1 M r1) (fun r2 M1 => if r2 = 0 then (some (0, M1)) else (bn1 (f_X12_valueNow M1 v1) (fun r3 => some (r3, M1)))))
set_option maxRecDepth 20000 in
theorem c_X12_valueOf {l : Launch} {D : DD} {z : Nat} {X : XT} {o : Int64} {f1 : Nat} {M : MT} {v1 : Int32} {r : Int32} {M' : MT} (hf : f_X12_valueOf M v1 = some (r, M')) : CC l yX12_valueOf cX12_valueOf 2 (some .int) (rmk 4 0 0) D z [.ref (z + aM 0), .int v1] (GG D z (X, (f1 + 1, M, o))) (some (.int r)) (GG D z (X, (f1 + 1, M', o))) := by
  unfold f_X12_valueOf at hf
  refine cc_of pn_X12 (le_ rfl) (ls := [(0, .ref (z + aM 0)), (1, .int v1)]) rfl ?_
  intro p e s m args below meth c E
  refine j_aload_n E 0 rfl dX12_valueOf_0 ?_
  refine j_aload_n E 0 rfl dX12_valueOf_1 ?_
  refine j_iload_n E 1 rfl dX12_valueOf_2 ?_
  obtain ⟨r1, h1, hf⟩ := bn1_e hf
  refine j_invV [.ref (z + aM 0)] [.int r1, .ref (z + aM 0)] E (c_X12_hasLoad h1) ml_X12_444 mv_X12_hasLoad rfl ⟨le_ rfl, le_ rfl⟩ (rcM cf_X12) rfl rfl (le_ rfl) ⟨le_ rfl, le_ rfl⟩ dX12_valueOf_3 ?_
  obtain ⟨r2, M1, h2, hf⟩ := bn2_e hf
  refine j_invV [] [.int r2] E (c_X12_passes1 h2) ml_X12_396 mv_X12_passes1 rfl ⟨le_ rfl, le_ rfl⟩ (rcM cf_X12) rfl rfl (le_ rfl) ⟨le_ rfl, le_ rfl⟩ dX12_valueOf_6 ?_
  refine j_if_eq E 20 (by decide) dX12_valueOf_9 (fun c1 => ?_) (fun c1 => ?_)
  · rw [if_pos c1] at hf
    refine j_iconst E 0 ic_0 dX12_valueOf_20 ?_
    cases hf
    exact j_iret E rfl (le_ rfl) (le_ rfl) dX12_valueOf_21
  · rw [if_neg c1] at hf
    refine j_aload_n E 0 rfl dX12_valueOf_12 ?_
    refine j_iload_n E 1 rfl dX12_valueOf_13 ?_
    obtain ⟨r3, h3, hf⟩ := bn1_e hf
    refine j_invV [] [.int r3] E (c_X12_valueNow h3) ml_X12_203 mv_X12_valueNow rfl ⟨le_ rfl, le_ rfl⟩ (rcM cf_X12) rfl rfl (le_ rfl) ⟨le_ rfl, le_ rfl⟩ dX12_valueOf_14 ?_
    refine j_goto E 21 (by decide) dX12_valueOf_17 ?_
    cases hf
    exact j_iret E rfl (le_ rfl) (le_ rfl) dX12_valueOf_21
def f_X12_isPaid (M : MT) (v1 : Int32) : Option (Int32 × MT) :=
  bn1 (f_X12_hasLoad M v1) (fun r1 => bn2 (f_X12_passes1 M r1) (fun r2 M1 => if r2 = 0 then (some (0, M1)) else (bn1 (f_X12_isOpen M1 v1) (fun r3 => if r3 = 0 then (some (1, M1)) else (some (0, M1))))))
set_option maxRecDepth 20000 in
theorem c_X12_isPaid {l : Launch} {D : DD} {z : Nat} {X : XT} {o : Int64} {f1 : Nat} {M : MT} {v1 : Int32} {r : Int32} {M' : MT} (hf : f_X12_isPaid M v1 = some (r, M')) : CC l yX12_isPaid cX12_isPaid 2 (some .boolean) (rmk 3 0 0) D z [.ref (z + aM 0), .int v1] (GG D z (X, (f1 + 1, M, o))) (some (.int r)) (GG D z (X, (f1 + 1, M', o))) := by
  unfold f_X12_isPaid at hf
  refine cc_of pn_X12 (le_ rfl) (ls := [(0, .ref (z + aM 0)), (1, .int v1)]) rfl ?_
  intro p e s m args below meth c E
  refine j_aload_n E 0 rfl dX12_isPaid_0 ?_
  refine j_aload_n E 0 rfl dX12_isPaid_1 ?_
  refine j_iload_n E 1 rfl dX12_isPaid_2 ?_
  obtain ⟨r1, h1, hf⟩ := bn1_e hf
  refine j_invV [.ref (z + aM 0)] [.int r1, .ref (z + aM 0)] E (c_X12_hasLoad h1) ml_X12_444 mv_X12_hasLoad rfl ⟨le_ rfl, le_ rfl⟩ (rcM cf_X12) rfl rfl (le_ rfl) ⟨le_ rfl, le_ rfl⟩ dX12_isPaid_3 ?_
  obtain ⟨r2, M1, h2, hf⟩ := bn2_e hf
  refine j_invV [] [.int r2] E (c_X12_passes1 h2) ml_X12_396 mv_X12_passes1 rfl ⟨le_ rfl, le_ rfl⟩ (rcM cf_X12) rfl rfl (le_ rfl) ⟨le_ rfl, le_ rfl⟩ dX12_isPaid_6 ?_
  refine j_if_eq E 24 (by decide) dX12_isPaid_9 (fun c1 => ?_) (fun c1 => ?_)
  · rw [if_pos c1] at hf
    refine j_iconst E 0 ic_0 dX12_isPaid_24 ?_
    cases hf
    exact j_iret E rfl (le_ rfl) (le_ rfl) dX12_isPaid_25
  · rw [if_neg c1] at hf
    refine j_aload_n E 0 rfl dX12_isPaid_12 ?_
    refine j_iload_n E 1 rfl dX12_isPaid_13 ?_
    obtain ⟨r3, h3, hf⟩ := bn1_e hf
    refine j_invV [] [.int r3] E (c_X12_isOpen h3) ml_X12_179 mv_X12_isOpen rfl ⟨le_ rfl, le_ rfl⟩ (rcM cf_X12) rfl rfl (le_ rfl) ⟨le_ rfl, le_ rfl⟩ dX12_isPaid_14 ?_
    refine j_if_ne E 24 (by decide) dX12_isPaid_17 (fun c2 => ?_) (fun c2 => ?_)
    · rw [if_neg c2] at hf
      refine j_iconst E 0 ic_0 dX12_isPaid_24 ?_
      cases hf
      exact j_iret E rfl (le_ rfl) (le_ rfl) dX12_isPaid_25
    · rw [if_pos c2] at hf
      refine j_iconst E 1 ic_1 dX12_isPaid_20 ?_
      refine j_goto E 25 (by decide) dX12_isPaid_21 ?_
      cases hf
      exact j_iret E rfl (le_ rfl) (le_ rfl) dX12_isPaid_25
def f_X12_isLowered (M : MT) (v1 : Int32) : Option (Int32 × MT) :=
  bn1 (f_X12_hasLoad M v1) (fun r1 => bn2 (f_X12_passes1 M r1) (fun r2 M1 => if r2 = 0 then (some (0, M1)) else (bn1 (f_X12_ofLoad M1 v1 3) (fun r3 => bn1 (f_X12_ofLoad M1 v1 2) (fun r4 => bn1 (f_X12_gradeOf M1 r4) (fun r5 => if r3 = r5 then (some (0, M1)) else (some (1, M1))))))))
set_option maxRecDepth 20000 in
theorem c_X12_isLowered {l : Launch} {D : DD} {z : Nat} {X : XT} {o : Int64} {f1 : Nat} {M : MT} {v1 : Int32} {r : Int32} {M' : MT} (hf : f_X12_isLowered M v1 = some (r, M')) : CC l yX12_isLowered cX12_isLowered 2 (some .boolean) (rmk 3 0 0) D z [.ref (z + aM 0), .int v1] (GG D z (X, (f1 + 1, M, o))) (some (.int r)) (GG D z (X, (f1 + 1, M', o))) := by
  unfold f_X12_isLowered at hf
  refine cc_of pn_X12 (le_ rfl) (ls := [(0, .ref (z + aM 0)), (1, .int v1)]) rfl ?_
  intro p e s m args below meth c E
  refine j_aload_n E 0 rfl dX12_isLowered_0 ?_
  refine j_aload_n E 0 rfl dX12_isLowered_1 ?_
  refine j_iload_n E 1 rfl dX12_isLowered_2 ?_
  obtain ⟨r1, h1, hf⟩ := bn1_e hf
  refine j_invV [.ref (z + aM 0)] [.int r1, .ref (z + aM 0)] E (c_X12_hasLoad h1) ml_X12_444 mv_X12_hasLoad rfl ⟨le_ rfl, le_ rfl⟩ (rcM cf_X12) rfl rfl (le_ rfl) ⟨le_ rfl, le_ rfl⟩ dX12_isLowered_3 ?_
  obtain ⟨r2, M1, h2, hf⟩ := bn2_e hf
  refine j_invV [] [.int r2] E (c_X12_passes1 h2) ml_X12_396 mv_X12_passes1 rfl ⟨le_ rfl, le_ rfl⟩ (rcM cf_X12) rfl rfl (le_ rfl) ⟨le_ rfl, le_ rfl⟩ dX12_isLowered_6 ?_
  refine j_if_eq E 35 (by decide) dX12_isLowered_9 (fun c1 => ?_) (fun c1 => ?_)
  · rw [if_pos c1] at hf
    refine j_iconst E 0 ic_0 dX12_isLowered_35 ?_
    cases hf
    exact j_iret E rfl (le_ rfl) (le_ rfl) dX12_isLowered_36
  · rw [if_neg c1] at hf
    refine j_aload_n E 0 rfl dX12_isLowered_12 ?_
    refine j_iload_n E 1 rfl dX12_isLowered_13 ?_
    refine j_iconst E 3 ic_3 dX12_isLowered_14 ?_
    obtain ⟨r3, h3, hf⟩ := bn1_e hf
    refine j_invV [] [.int r3] E (c_X12_ofLoad h3) ml_X12_148 mv_X12_ofLoad rfl ⟨le_ rfl, le_ rfl⟩ (rcM cf_X12) rfl rfl (le_ rfl) ⟨le_ rfl, le_ rfl⟩ dX12_isLowered_15 ?_
    refine j_aload_n E 0 rfl dX12_isLowered_18 ?_
    refine j_aload_n E 0 rfl dX12_isLowered_19 ?_
    refine j_iload_n E 1 rfl dX12_isLowered_20 ?_
    refine j_iconst E 2 ic_2 dX12_isLowered_21 ?_
    obtain ⟨r4, h4, hf⟩ := bn1_e hf
    refine j_invV [.ref (z + aM 0), .int r3] [.int r4, .ref (z + aM 0), .int r3] E (c_X12_ofLoad h4) ml_X12_148 mv_X12_ofLoad rfl ⟨le_ rfl, le_ rfl⟩ (rcM cf_X12) rfl rfl (le_ rfl) ⟨le_ rfl, le_ rfl⟩ dX12_isLowered_22 ?_
    obtain ⟨r5, h5, hf⟩ := bn1_e hf
    refine j_invV [.int r3] [.int r5, .int r3] E (c_X12_gradeOf h5) ml_X12_161 mv_X12_gradeOf rfl ⟨le_ rfl, le_ rfl⟩ (rcM cf_X12) rfl rfl (le_ rfl) ⟨le_ rfl, le_ rfl⟩ dX12_isLowered_25 ?_
    refine j_icmp_eq E 35 (by decide) dX12_isLowered_28 (fun c2 => ?_) (fun c2 => ?_)
    · rw [if_pos c2] at hf
      refine j_iconst E 0 ic_0 dX12_isLowered_35 ?_
      cases hf
      exact j_iret E rfl (le_ rfl) (le_ rfl) dX12_isLowered_36
    · rw [if_neg c2] at hf
      refine j_iconst E 1 ic_1 dX12_isLowered_31 ?_
      refine j_goto E 36 (by decide) dX12_isLowered_32 ?_
      cases hf
      exact j_iret E rfl (le_ rfl) (le_ rfl) dX12_isLowered_36
def f_X12_content (M : MT) (v1 : Int32) : Option (Int32 × MT) :=
  bn1 (f_X12_hasTank M v1) (fun r1 => bn2 (f_X12_passes1 M r1) (fun r2 M1 => if r2 = 0 then (some (0, M1)) else (bn1 (f_X12_ofTank M1 v1 1) (fun r3 => some (r3, M1)))))
set_option maxRecDepth 20000 in
theorem c_X12_content {l : Launch} {D : DD} {z : Nat} {X : XT} {o : Int64} {f1 : Nat} {M : MT} {v1 : Int32} {r : Int32} {M' : MT} (hf : f_X12_content M v1 = some (r, M')) : CC l yX12_content cX12_content 2 (some .int) (rmk 3 0 0) D z [.ref (z + aM 0), .int v1] (GG D z (X, (f1 + 1, M, o))) (some (.int r)) (GG D z (X, (f1 + 1, M', o))) := by
  unfold f_X12_content at hf
  refine cc_of pn_X12 (le_ rfl) (ls := [(0, .ref (z + aM 0)), (1, .int v1)]) rfl ?_
  intro p e s m args below meth c E
  refine j_aload_n E 0 rfl dX12_content_0 ?_
  refine j_aload_n E 0 rfl dX12_content_1 ?_
  refine j_iload_n E 1 rfl dX12_content_2 ?_
  obtain ⟨r1, h1, hf⟩ := bn1_e hf
  refine j_invV [.ref (z + aM 0)] [.int r1, .ref (z + aM 0)] E (c_X12_hasTank h1) ml_X12_450 mv_X12_hasTank rfl ⟨le_ rfl, le_ rfl⟩ (rcM cf_X12) rfl rfl (le_ rfl) ⟨le_ rfl, le_ rfl⟩ dX12_content_3 ?_
  obtain ⟨r2, M1, h2, hf⟩ := bn2_e hf
  refine j_invV [] [.int r2] E (c_X12_passes1 h2) ml_X12_396 mv_X12_passes1 rfl ⟨le_ rfl, le_ rfl⟩ (rcM cf_X12) rfl rfl (le_ rfl) ⟨le_ rfl, le_ rfl⟩ dX12_content_6 ?_
  refine j_if_eq E 21 (by decide) dX12_content_9 (fun c1 => ?_) (fun c1 => ?_)
  · rw [if_pos c1] at hf
    refine j_iconst E 0 ic_0 dX12_content_21 ?_
    cases hf
    exact j_iret E rfl (le_ rfl) (le_ rfl) dX12_content_22
  · rw [if_neg c1] at hf
    refine j_aload_n E 0 rfl dX12_content_12 ?_
    refine j_iload_n E 1 rfl dX12_content_13 ?_
    refine j_iconst E 1 ic_1 dX12_content_14 ?_
    obtain ⟨r3, h3, hf⟩ := bn1_e hf
    refine j_invV [] [.int r3] E (c_X12_ofTank h3) ml_X12_151 mv_X12_ofTank rfl ⟨le_ rfl, le_ rfl⟩ (rcM cf_X12) rfl rfl (le_ rfl) ⟨le_ rfl, le_ rfl⟩ dX12_content_15 ?_
    refine j_goto E 22 (by decide) dX12_content_18 ?_
    cases hf
    exact j_iret E rfl (le_ rfl) (le_ rfl) dX12_content_22
def f_X12_varietyIn (M : MT) (v1 : Int32) : Option (Int32 × MT) :=
  bn1 (f_X12_hasTank M v1) (fun r1 => bn2 (f_X12_passes1 M r1) (fun r2 M1 => if r2 = 0 then (some (0, M1)) else (bn1 (f_X12_ofTank M1 v1 2) (fun r3 => some (r3, M1)))))
set_option maxRecDepth 20000 in
theorem c_X12_varietyIn {l : Launch} {D : DD} {z : Nat} {X : XT} {o : Int64} {f1 : Nat} {M : MT} {v1 : Int32} {r : Int32} {M' : MT} (hf : f_X12_varietyIn M v1 = some (r, M')) : CC l yX12_varietyIn cX12_varietyIn 2 (some .int) (rmk 3 0 0) D z [.ref (z + aM 0), .int v1] (GG D z (X, (f1 + 1, M, o))) (some (.int r)) (GG D z (X, (f1 + 1, M', o))) := by
  unfold f_X12_varietyIn at hf
  refine cc_of pn_X12 (le_ rfl) (ls := [(0, .ref (z + aM 0)), (1, .int v1)]) rfl ?_
  intro p e s m args below meth c E
  refine j_aload_n E 0 rfl dX12_varietyIn_0 ?_
  refine j_aload_n E 0 rfl dX12_varietyIn_1 ?_
  refine j_iload_n E 1 rfl dX12_varietyIn_2 ?_
  obtain ⟨r1, h1, hf⟩ := bn1_e hf
  refine j_invV [.ref (z + aM 0)] [.int r1, .ref (z + aM 0)] E (c_X12_hasTank h1) ml_X12_450 mv_X12_hasTank rfl ⟨le_ rfl, le_ rfl⟩ (rcM cf_X12) rfl rfl (le_ rfl) ⟨le_ rfl, le_ rfl⟩ dX12_varietyIn_3 ?_
  obtain ⟨r2, M1, h2, hf⟩ := bn2_e hf
  refine j_invV [] [.int r2] E (c_X12_passes1 h2) ml_X12_396 mv_X12_passes1 rfl ⟨le_ rfl, le_ rfl⟩ (rcM cf_X12) rfl rfl (le_ rfl) ⟨le_ rfl, le_ rfl⟩ dX12_varietyIn_6 ?_
  refine j_if_eq E 21 (by decide) dX12_varietyIn_9 (fun c1 => ?_) (fun c1 => ?_)
  · rw [if_pos c1] at hf
    refine j_iconst E 0 ic_0 dX12_varietyIn_21 ?_
    cases hf
    exact j_iret E rfl (le_ rfl) (le_ rfl) dX12_varietyIn_22
  · rw [if_neg c1] at hf
    refine j_aload_n E 0 rfl dX12_varietyIn_12 ?_
    refine j_iload_n E 1 rfl dX12_varietyIn_13 ?_
    refine j_iconst E 2 ic_2 dX12_varietyIn_14 ?_
    obtain ⟨r3, h3, hf⟩ := bn1_e hf
    refine j_invV [] [.int r3] E (c_X12_ofTank h3) ml_X12_151 mv_X12_ofTank rfl ⟨le_ rfl, le_ rfl⟩ (rcM cf_X12) rfl rfl (le_ rfl) ⟨le_ rfl, le_ rfl⟩ dX12_varietyIn_15 ?_
    refine j_goto E 22 (by decide) dX12_varietyIn_18 ?_
    cases hf
    exact j_iret E rfl (le_ rfl) (le_ rfl) dX12_varietyIn_22
def f_X12_meanSugar (M : MT) (v1 : Int32) : Option (Int32 × MT) :=
  bn1 (f_X12_hasTank M v1) (fun r1 => bn2 (f_X12_passes1 M r1) (fun r2 M1 => if r2 = 0 then (some (0, M1)) else (bn1 (f_X12_meanIn M1 v1) (fun r3 => some (r3, M1)))))
set_option maxRecDepth 20000 in
theorem c_X12_meanSugar {l : Launch} {D : DD} {z : Nat} {X : XT} {o : Int64} {f1 : Nat} {M : MT} {v1 : Int32} {r : Int32} {M' : MT} (hf : f_X12_meanSugar M v1 = some (r, M')) : CC l yX12_meanSugar cX12_meanSugar 2 (some .int) (rmk 3 0 0) D z [.ref (z + aM 0), .int v1] (GG D z (X, (f1 + 1, M, o))) (some (.int r)) (GG D z (X, (f1 + 1, M', o))) := by
  unfold f_X12_meanSugar at hf
  refine cc_of pn_X12 (le_ rfl) (ls := [(0, .ref (z + aM 0)), (1, .int v1)]) rfl ?_
  intro p e s m args below meth c E
  refine j_aload_n E 0 rfl dX12_meanSugar_0 ?_
  refine j_aload_n E 0 rfl dX12_meanSugar_1 ?_
  refine j_iload_n E 1 rfl dX12_meanSugar_2 ?_
  obtain ⟨r1, h1, hf⟩ := bn1_e hf
  refine j_invV [.ref (z + aM 0)] [.int r1, .ref (z + aM 0)] E (c_X12_hasTank h1) ml_X12_450 mv_X12_hasTank rfl ⟨le_ rfl, le_ rfl⟩ (rcM cf_X12) rfl rfl (le_ rfl) ⟨le_ rfl, le_ rfl⟩ dX12_meanSugar_3 ?_
  obtain ⟨r2, M1, h2, hf⟩ := bn2_e hf
  refine j_invV [] [.int r2] E (c_X12_passes1 h2) ml_X12_396 mv_X12_passes1 rfl ⟨le_ rfl, le_ rfl⟩ (rcM cf_X12) rfl rfl (le_ rfl) ⟨le_ rfl, le_ rfl⟩ dX12_meanSugar_6 ?_
  refine j_if_eq E 20 (by decide) dX12_meanSugar_9 (fun c1 => ?_) (fun c1 => ?_)
  · rw [if_pos c1] at hf
    refine j_iconst E 0 ic_0 dX12_meanSugar_20 ?_
    cases hf
    exact j_iret E rfl (le_ rfl) (le_ rfl) dX12_meanSugar_21
  · rw [if_neg c1] at hf
    refine j_aload_n E 0 rfl dX12_meanSugar_12 ?_
    refine j_iload_n E 1 rfl dX12_meanSugar_13 ?_
    obtain ⟨r3, h3, hf⟩ := bn1_e hf
    refine j_invV [] [.int r3] E (c_X12_meanIn h3) ml_X12_189 mv_X12_meanIn rfl ⟨le_ rfl, le_ rfl⟩ (rcM cf_X12) rfl rfl (le_ rfl) ⟨le_ rfl, le_ rfl⟩ dX12_meanSugar_14 ?_
    refine j_goto E 21 (by decide) dX12_meanSugar_17 ?_
    cases hf
    exact j_iret E rfl (le_ rfl) (le_ rfl) dX12_meanSugar_21
def f_X12_tankFor (M : MT) (v1 : Int32) (v2 : Int32) : Option (Int32 × MT) :=
  bn1 (f_X12_hasVariety M v1) (fun r1 => bn1 (f_X12_in (v2.toInt64) 1 5000) (fun r2 => bn2 (f_X12_passes2 M r1 r2) (fun r3 M1 => if r3 = 0 then (some (0, M1)) else (bn1 (f_X12_tankOf M1 v1 v2) (fun r4 => some (r4, M1))))))
set_option maxRecDepth 20000 in
theorem c_X12_tankFor {l : Launch} {D : DD} {z : Nat} {X : XT} {o : Int64} {f1 : Nat} {M : MT} {v1 : Int32} {v2 : Int32} {r : Int32} {M' : MT} (hf : f_X12_tankFor M v1 v2 = some (r, M')) : CC l yX12_tankFor cX12_tankFor 3 (some .int) (rmk 5 0 0) D z [.ref (z + aM 0), .int v1, .int v2] (GG D z (X, (f1 + 1, M, o))) (some (.int r)) (GG D z (X, (f1 + 1, M', o))) := by
  unfold f_X12_tankFor at hf
  refine cc_of pn_X12 (le_ rfl) (ls := [(0, .ref (z + aM 0)), (1, .int v1), (2, .int v2)]) rfl ?_
  intro p e s m args below meth c E
  refine j_aload_n E 0 rfl dX12_tankFor_0 ?_
  refine j_aload_n E 0 rfl dX12_tankFor_1 ?_
  refine j_iload_n E 1 rfl dX12_tankFor_2 ?_
  obtain ⟨r1, h1, hf⟩ := bn1_e hf
  refine j_invV [.ref (z + aM 0)] [.int r1, .ref (z + aM 0)] E (c_X12_hasVariety h1) ml_X12_453 mv_X12_hasVariety rfl ⟨le_ rfl, le_ rfl⟩ (rcM cf_X12) rfl rfl (le_ rfl) ⟨le_ rfl, le_ rfl⟩ dX12_tankFor_3 ?_
  refine j_iload_n E 2 rfl dX12_tankFor_6 ?_
  refine j_i2l E dX12_tankFor_7 ?_
  refine j_lconst E 1 rfl dX12_tankFor_8 ?_
  refine j_ldc2 E ct_X12_456 dX12_tankFor_9 ?_
  obtain ⟨r2, h2, hf⟩ := bn1_e hf
  refine j_invS [.int r1, .ref (z + aM 0)] [.int r2, .int r1, .ref (z + aM 0)] E (c_X12_in h2) ml_X12_282 ms_X12_in rfl ⟨le_ rfl, le_ rfl⟩ rfl rfl (le_ rfl) ⟨le_ rfl, le_ rfl⟩ dX12_tankFor_12 ?_
  obtain ⟨r3, M1, h3, hf⟩ := bn2_e hf
  refine j_invV [] [.int r3] E (c_X12_passes2 h3) ml_X12_458 mv_X12_passes2 rfl ⟨le_ rfl, le_ rfl⟩ (rcM cf_X12) rfl rfl (le_ rfl) ⟨le_ rfl, le_ rfl⟩ dX12_tankFor_15 ?_
  refine j_if_eq E 30 (by decide) dX12_tankFor_18 (fun c1 => ?_) (fun c1 => ?_)
  · rw [if_pos c1] at hf
    refine j_iconst E 0 ic_0 dX12_tankFor_30 ?_
    cases hf
    exact j_iret E rfl (le_ rfl) (le_ rfl) dX12_tankFor_31
  · rw [if_neg c1] at hf
    refine j_aload_n E 0 rfl dX12_tankFor_21 ?_
    refine j_iload_n E 1 rfl dX12_tankFor_22 ?_
    refine j_iload_n E 2 rfl dX12_tankFor_23 ?_
    obtain ⟨r4, h4, hf⟩ := bn1_e hf
    refine j_invV [] [.int r4] E (c_X12_tankOf h4) ml_X12_164 mv_X12_tankOf rfl ⟨le_ rfl, le_ rfl⟩ (rcM cf_X12) rfl rfl (le_ rfl) ⟨le_ rfl, le_ rfl⟩ dX12_tankFor_24 ?_
    refine j_goto E 31 (by decide) dX12_tankFor_27 ?_
    cases hf
    exact j_iret E rfl (le_ rfl) (le_ rfl) dX12_tankFor_31
def f_X12_greatestLoad_18 (v1 : Int32) : Nat → MT → Int32 → Int32 → Option (Int32 × MT)
  | 0, _, _, _ => none
  | n + 1, M, v2, v3 => if (M.1 1 8) ≤ v3 then (some ((if v2 < 5000 then v2 else 5000), M)) else (bn1 (f_X12_ofTank M v3 2) (fun r1 => if r1 = v1 then (bn1 (f_X12_roomIn M v3) (fun r2 => bnd (if v2 < r2 then r2 else v2) (fun x1 => f_X12_greatestLoad_18 v1 n M x1 (v3 + 1)))) else (bn1 (f_X12_ofTank M v3 2) (fun r3 => if r3 = (-1) then (bn1 (f_X12_roomIn M v3) (fun r4 => bnd (if v2 < r4 then r4 else v2) (fun x2 => f_X12_greatestLoad_18 v1 n M x2 (v3 + 1)))) else (f_X12_greatestLoad_18 v1 n M v2 (v3 + 1))))))
def f_X12_greatestLoad (M : MT) (v1 : Int32) : Option (Int32 × MT) :=
  bn1 (f_X12_hasVariety M v1) (fun r1 => bn2 (f_X12_passes1 M r1) (fun r2 M1 => if r2 = 0 then (some (0, M1)) else (f_X12_greatestLoad_18 v1 2000 M1 0 0)))
set_option maxRecDepth 20000 in
theorem b_X12_greatestLoad_18 {p : Program} {l : Launch} {e : Env} {s : State} {m : MethodId} {args : Array Value} {below : List Frame} {meth : Method} {c : Code} {D : DD} {z : Nat} {X : XT} {o : Int64} {f1 : Nat} {v1 : Int32} (E : Cx p s m args meth c D z RX12 cX12_greatestLoad 5 (some .int)) {r : Int32} {M' : MT} : ∀ (n : Nat) (M : MT) (v2 : Int32) (v3 : Int32) (hf : f_X12_greatestLoad_18 v1 n M v2 v3 = some (r, M')), J p l e (rmk 3 0 0) s m args below meth c D z (GG D z (X, (f1 + 1, M, o))) 0 0 (MQ below (QC z (some (.int r)) (GG D z (X, (f1 + 1, M', o)))) args s (rmk 3 0 0).cells (rmk 3 0 0).slots (Az z)) 5 18 [(0, .ref (z + aM 0)), (1, .int v1), (2, .int v2), (3, .int v3)] [] := by
  intro n
  induction n with
  | zero =>
    intro M v2 v3 hf
    exact none_e hf
  | succ n ih =>
    intro M v2 v3 hf
    rw [f_X12_greatestLoad_18] at hf
    refine j_iload_n E 3 rfl dX12_greatestLoad_18 ?_
    refine j_aload_n E 0 rfl dX12_greatestLoad_19 ?_
    refine j_getM (f := 1) E cf_X12 fl_X12_17 (lt_ rfl) rfl rfl dX12_greatestLoad_20 ?_
    refine j_bipush E 8 bp_8 dX12_greatestLoad_23 ?_
    refine j_ialdM E (lt_ rfl) entM1 (vi_8 (lt_ rfl)) (8) tn_8 dX12_greatestLoad_25 ?_
    refine j_icmp_ge E 81 (by decide) dX12_greatestLoad_26 (fun c1 => ?_) (fun c1 => ?_)
    · rw [if_pos c1] at hf
      refine j_sipush E 5000 sp_5000 dX12_greatestLoad_81 ?_
      refine j_iload_n E 2 rfl dX12_greatestLoad_84 ?_
      refine j_min [] E ml_X12_441 st_Lib_Math_min_name in_J9 cd_Lib_Math_min_name (le_ rfl) (le_ rfl) (le_ rfl) (le_ rfl) dX12_greatestLoad_85 ?_
      cases hf
      exact j_iret E rfl (le_ rfl) (le_ rfl) dX12_greatestLoad_88
    · rw [if_neg c1] at hf
      refine j_aload_n E 0 rfl dX12_greatestLoad_29 ?_
      refine j_iload_n E 3 rfl dX12_greatestLoad_30 ?_
      refine j_iconst E 2 ic_2 dX12_greatestLoad_31 ?_
      obtain ⟨r1, h1, hf⟩ := bn1_e hf
      refine j_invV [] [.int r1] E (c_X12_ofTank h1) ml_X12_151 mv_X12_ofTank rfl ⟨le_ rfl, le_ rfl⟩ (rcM cf_X12) rfl rfl (le_ rfl) ⟨le_ rfl, le_ rfl⟩ dX12_greatestLoad_32 ?_
      refine j_iload_n E 1 rfl dX12_greatestLoad_35 ?_
      refine j_icmp_eq E 49 (by decide) dX12_greatestLoad_36 (fun c2 => ?_) (fun c2 => ?_)
      · rw [if_pos c2] at hf
        refine j_iconst E 1 ic_1 dX12_greatestLoad_49 ?_
        refine j_goto E 54 (by decide) dX12_greatestLoad_50 ?_
        refine j_istore (ls' := [(4, .int 1), (0, .ref (z + aM 0)), (1, .int v1), (2, .int v2), (3, .int v3)]) E (lt_ rfl) rfl dX12_greatestLoad_54 ?_
        refine j_iload E 0 rfl dX12_greatestLoad_56 ?_
        refine j_if_eq E 73 (by decide) dX12_greatestLoad_58 (fun q => absurd q (by decide)) (fun _ => ?_)
        refine j_iload_n E 3 rfl dX12_greatestLoad_61 ?_
        refine j_aload_n E 1 rfl dX12_greatestLoad_62 ?_
        refine j_iload_n E 4 rfl dX12_greatestLoad_63 ?_
        obtain ⟨r2, h2, hf⟩ := bn1_e hf
        refine j_invV [.int v2] [.int r2, .int v2] E (c_X12_roomIn h2) ml_X12_154 mv_X12_roomIn rfl ⟨le_ rfl, le_ rfl⟩ (rcM cf_X12) rfl rfl (le_ rfl) ⟨le_ rfl, le_ rfl⟩ dX12_greatestLoad_64 ?_
        refine j_max [] E ml_X12_299 st_Lib_Math_max_name in_J9 cd_Lib_Math_max_name (le_ rfl) (le_ rfl) (le_ rfl) (le_ rfl) dX12_greatestLoad_67 ?_
        refine j_goto E 74 (by decide) dX12_greatestLoad_70 ?_
        obtain ⟨x1, hx1, hf⟩ := bnd_e hf
        refine j_name hx1 ?_
        refine j_istore_n (ls' := [(2, .int x1), (4, .int 1), (0, .ref (z + aM 0)), (1, .int v1), (3, .int v3)]) E (lt_ rfl) rfl dX12_greatestLoad_74 ?_
        refine j_iinc (ls' := [(3, .int (v3 + 1)), (2, .int x1), (4, .int 1), (0, .ref (z + aM 0)), (1, .int v1)]) E 4 rfl (lt_ rfl) (v3 + 1) (congrArg (fun q => v3 + q) ic_1) rfl dX12_greatestLoad_75 ?_
        refine j_goto E 18 (by decide) dX12_greatestLoad_78 ?_
        refine j_sub [3, 4, 1, 0] rfl ?_
        exact ih _ _ _ hf
      · rw [if_neg c2] at hf
        refine j_aload_n E 0 rfl dX12_greatestLoad_39 ?_
        refine j_iload_n E 3 rfl dX12_greatestLoad_40 ?_
        refine j_iconst E 2 ic_2 dX12_greatestLoad_41 ?_
        obtain ⟨r3, h3, hf⟩ := bn1_e hf
        refine j_invV [] [.int r3] E (c_X12_ofTank h3) ml_X12_151 mv_X12_ofTank rfl ⟨le_ rfl, le_ rfl⟩ (rcM cf_X12) rfl rfl (le_ rfl) ⟨le_ rfl, le_ rfl⟩ dX12_greatestLoad_42 ?_
        refine j_iconst E (-1) ic_m1 dX12_greatestLoad_45 ?_
        refine j_icmp_ne E 53 (by decide) dX12_greatestLoad_46 (fun c3 => ?_) (fun c3 => ?_)
        · rw [if_neg c3] at hf
          refine j_iconst E 0 ic_0 dX12_greatestLoad_53 ?_
          refine j_istore (ls' := [(4, .int 0), (0, .ref (z + aM 0)), (1, .int v1), (2, .int v2), (3, .int v3)]) E (lt_ rfl) rfl dX12_greatestLoad_54 ?_
          refine j_iload E 0 rfl dX12_greatestLoad_56 ?_
          refine j_if_eq E 73 (by decide) dX12_greatestLoad_58 (fun _ => ?_) (fun q => absurd q (by decide))
          refine j_iload_n E 3 rfl dX12_greatestLoad_73 ?_
          refine j_istore_n (ls' := [(2, .int v2), (4, .int 0), (0, .ref (z + aM 0)), (1, .int v1), (3, .int v3)]) E (lt_ rfl) rfl dX12_greatestLoad_74 ?_
          refine j_iinc (ls' := [(3, .int (v3 + 1)), (2, .int v2), (4, .int 0), (0, .ref (z + aM 0)), (1, .int v1)]) E 4 rfl (lt_ rfl) (v3 + 1) (congrArg (fun q => v3 + q) ic_1) rfl dX12_greatestLoad_75 ?_
          refine j_goto E 18 (by decide) dX12_greatestLoad_78 ?_
          refine j_sub [3, 4, 1, 0] rfl ?_
          exact ih _ _ _ hf
        · rw [if_pos c3] at hf
          refine j_iconst E 1 ic_1 dX12_greatestLoad_49 ?_
          refine j_goto E 54 (by decide) dX12_greatestLoad_50 ?_
          refine j_istore (ls' := [(4, .int 1), (0, .ref (z + aM 0)), (1, .int v1), (2, .int v2), (3, .int v3)]) E (lt_ rfl) rfl dX12_greatestLoad_54 ?_
          refine j_iload E 0 rfl dX12_greatestLoad_56 ?_
          refine j_if_eq E 73 (by decide) dX12_greatestLoad_58 (fun q => absurd q (by decide)) (fun _ => ?_)
          refine j_iload_n E 3 rfl dX12_greatestLoad_61 ?_
          refine j_aload_n E 1 rfl dX12_greatestLoad_62 ?_
          refine j_iload_n E 4 rfl dX12_greatestLoad_63 ?_
          obtain ⟨r4, h4, hf⟩ := bn1_e hf
          refine j_invV [.int v2] [.int r4, .int v2] E (c_X12_roomIn h4) ml_X12_154 mv_X12_roomIn rfl ⟨le_ rfl, le_ rfl⟩ (rcM cf_X12) rfl rfl (le_ rfl) ⟨le_ rfl, le_ rfl⟩ dX12_greatestLoad_64 ?_
          refine j_max [] E ml_X12_299 st_Lib_Math_max_name in_J9 cd_Lib_Math_max_name (le_ rfl) (le_ rfl) (le_ rfl) (le_ rfl) dX12_greatestLoad_67 ?_
          refine j_goto E 74 (by decide) dX12_greatestLoad_70 ?_
          obtain ⟨x2, hx2, hf⟩ := bnd_e hf
          refine j_name hx2 ?_
          refine j_istore_n (ls' := [(2, .int x2), (4, .int 1), (0, .ref (z + aM 0)), (1, .int v1), (3, .int v3)]) E (lt_ rfl) rfl dX12_greatestLoad_74 ?_
          refine j_iinc (ls' := [(3, .int (v3 + 1)), (2, .int x2), (4, .int 1), (0, .ref (z + aM 0)), (1, .int v1)]) E 4 rfl (lt_ rfl) (v3 + 1) (congrArg (fun q => v3 + q) ic_1) rfl dX12_greatestLoad_75 ?_
          refine j_goto E 18 (by decide) dX12_greatestLoad_78 ?_
          refine j_sub [3, 4, 1, 0] rfl ?_
          exact ih _ _ _ hf
set_option maxRecDepth 20000 in
theorem c_X12_greatestLoad {l : Launch} {D : DD} {z : Nat} {X : XT} {o : Int64} {f1 : Nat} {M : MT} {v1 : Int32} {r : Int32} {M' : MT} (hf : f_X12_greatestLoad M v1 = some (r, M')) : CC l yX12_greatestLoad cX12_greatestLoad 5 (some .int) (rmk 3 0 0) D z [.ref (z + aM 0), .int v1] (GG D z (X, (f1 + 1, M, o))) (some (.int r)) (GG D z (X, (f1 + 1, M', o))) := by
  unfold f_X12_greatestLoad at hf
  refine cc_of pn_X12 (le_ rfl) (ls := [(0, .ref (z + aM 0)), (1, .int v1)]) rfl ?_
  intro p e s m args below meth c E
  refine j_aload_n E 0 rfl dX12_greatestLoad_0 ?_
  refine j_aload_n E 0 rfl dX12_greatestLoad_1 ?_
  refine j_iload_n E 1 rfl dX12_greatestLoad_2 ?_
  obtain ⟨r1, h1, hf⟩ := bn1_e hf
  refine j_invV [.ref (z + aM 0)] [.int r1, .ref (z + aM 0)] E (c_X12_hasVariety h1) ml_X12_453 mv_X12_hasVariety rfl ⟨le_ rfl, le_ rfl⟩ (rcM cf_X12) rfl rfl (le_ rfl) ⟨le_ rfl, le_ rfl⟩ dX12_greatestLoad_3 ?_
  obtain ⟨r2, M1, h2, hf⟩ := bn2_e hf
  refine j_invV [] [.int r2] E (c_X12_passes1 h2) ml_X12_396 mv_X12_passes1 rfl ⟨le_ rfl, le_ rfl⟩ (rcM cf_X12) rfl rfl (le_ rfl) ⟨le_ rfl, le_ rfl⟩ dX12_greatestLoad_6 ?_
  refine j_if_ne E 14 (by decide) dX12_greatestLoad_9 (fun c1 => ?_) (fun c1 => ?_)
  · rw [if_neg c1] at hf
    refine j_iconst E 0 ic_0 dX12_greatestLoad_14 ?_
    refine j_istore_n (ls' := [(2, .int 0), (0, .ref (z + aM 0)), (1, .int v1)]) E (lt_ rfl) rfl dX12_greatestLoad_15 ?_
    refine j_iconst E 0 ic_0 dX12_greatestLoad_16 ?_
    refine j_istore_n (ls' := [(3, .int 0), (2, .int 0), (0, .ref (z + aM 0)), (1, .int v1)]) E (lt_ rfl) rfl dX12_greatestLoad_17 ?_
    refine j_sub [2, 3, 1, 0] rfl ?_
    exact b_X12_greatestLoad_18 E 2000 _ _ _ hf
  · rw [if_pos c1] at hf
    refine j_iconst E 0 ic_0 dX12_greatestLoad_12 ?_
    cases hf
    exact j_iret E rfl (le_ rfl) (le_ rfl) dX12_greatestLoad_13
def f_X12_areLoad (M : MT) (v1 : Int32) (v2 : Int32) : Option Int32 :=
  bn1 (f_X12_in (v1.toInt64) 1 5000) (fun r1 => if r1 = 0 then (some 0) else (bn1 (f_X12_in (v2.toInt64) 0 250) (fun r2 => if r2 = 0 then (some 0) else (some 1))))
set_option maxRecDepth 20000 in
theorem c_X12_areLoad {l : Launch} {D : DD} {z : Nat} {X : XT} {o : Int64} {f1 : Nat} {M : MT} {v1 : Int32} {v2 : Int32} {r : Int32} (hf : f_X12_areLoad M v1 v2 = some r) : CC l yX12_areLoad cX12_areLoad 3 (some .boolean) (rmk 2 0 0) D z [.ref (z + aM 0), .int v1, .int v2] (GG D z (X, (f1 + 1, M, o))) (some (.int r)) (GG D z (X, (f1 + 1, M, o))) := by
  unfold f_X12_areLoad at hf
  refine cc_of pn_X12 (le_ rfl) (ls := [(0, .ref (z + aM 0)), (1, .int v1), (2, .int v2)]) rfl ?_
  intro p e s m args below meth c E
  refine j_iload_n E 1 rfl dX12_areLoad_0 ?_
  refine j_i2l E dX12_areLoad_1 ?_
  refine j_lconst E 1 rfl dX12_areLoad_2 ?_
  refine j_ldc2 E ct_X12_456 dX12_areLoad_3 ?_
  obtain ⟨r1, h1, hf⟩ := bn1_e hf
  refine j_invS [] [.int r1] E (c_X12_in h1) ml_X12_282 ms_X12_in rfl ⟨le_ rfl, le_ rfl⟩ rfl rfl (le_ rfl) ⟨le_ rfl, le_ rfl⟩ dX12_areLoad_6 ?_
  refine j_if_eq E 28 (by decide) dX12_areLoad_9 (fun c1 => ?_) (fun c1 => ?_)
  · rw [if_pos c1] at hf
    refine j_iconst E 0 ic_0 dX12_areLoad_28 ?_
    cases hf
    exact j_iret E rfl (le_ rfl) (le_ rfl) dX12_areLoad_29
  · rw [if_neg c1] at hf
    refine j_iload_n E 2 rfl dX12_areLoad_12 ?_
    refine j_i2l E dX12_areLoad_13 ?_
    refine j_lconst E 0 rfl dX12_areLoad_14 ?_
    refine j_ldc2 E ct_X12_415 dX12_areLoad_15 ?_
    obtain ⟨r2, h2, hf⟩ := bn1_e hf
    refine j_invS [] [.int r2] E (c_X12_in h2) ml_X12_282 ms_X12_in rfl ⟨le_ rfl, le_ rfl⟩ rfl rfl (le_ rfl) ⟨le_ rfl, le_ rfl⟩ dX12_areLoad_18 ?_
    refine j_if_eq E 28 (by decide) dX12_areLoad_21 (fun c2 => ?_) (fun c2 => ?_)
    · rw [if_pos c2] at hf
      refine j_iconst E 0 ic_0 dX12_areLoad_28 ?_
      cases hf
      exact j_iret E rfl (le_ rfl) (le_ rfl) dX12_areLoad_29
    · rw [if_neg c2] at hf
      refine j_iconst E 1 ic_1 dX12_areLoad_24 ?_
      refine j_goto E 29 (by decide) dX12_areLoad_25 ?_
      cases hf
      exact j_iret E rfl (le_ rfl) (le_ rfl) dX12_areLoad_29
def f_X12_refusal (M : MT) (v1 : Int32) (v2 : Int32) (v3 : Int32) : Option (Int32 × MT) :=
  bn1 (f_X12_hasPlot M v1) (fun r1 => bn1 (f_X12_areLoad M v2 v3) (fun r2 => bn2 (f_X12_passes2 M r1 r2) (fun r3 M1 => if r3 = 0 then (some (0, M1)) else (bn1 (f_X12_reasonOf M1 v1 v2 v3) (fun r4 => some (r4, M1))))))
set_option maxRecDepth 20000 in
theorem c_X12_refusal {l : Launch} {D : DD} {z : Nat} {X : XT} {o : Int64} {f1 : Nat} {M : MT} {v1 : Int32} {v2 : Int32} {v3 : Int32} {r : Int32} {M' : MT} (hf : f_X12_refusal M v1 v2 v3 = some (r, M')) : CC l yX12_refusal cX12_refusal 4 (some .int) (rmk 6 0 0) D z [.ref (z + aM 0), .int v1, .int v2, .int v3] (GG D z (X, (f1 + 1, M, o))) (some (.int r)) (GG D z (X, (f1 + 1, M', o))) := by
  unfold f_X12_refusal at hf
  refine cc_of pn_X12 (le_ rfl) (ls := [(0, .ref (z + aM 0)), (1, .int v1), (2, .int v2), (3, .int v3)]) rfl ?_
  intro p e s m args below meth c E
  refine j_aload_n E 0 rfl dX12_refusal_0 ?_
  refine j_aload_n E 0 rfl dX12_refusal_1 ?_
  refine j_iload_n E 1 rfl dX12_refusal_2 ?_
  obtain ⟨r1, h1, hf⟩ := bn1_e hf
  refine j_invV [.ref (z + aM 0)] [.int r1, .ref (z + aM 0)] E (c_X12_hasPlot h1) ml_X12_438 mv_X12_hasPlot rfl ⟨le_ rfl, le_ rfl⟩ (rcM cf_X12) rfl rfl (le_ rfl) ⟨le_ rfl, le_ rfl⟩ dX12_refusal_3 ?_
  refine j_aload_n E 0 rfl dX12_refusal_6 ?_
  refine j_iload_n E 2 rfl dX12_refusal_7 ?_
  refine j_iload_n E 3 rfl dX12_refusal_8 ?_
  obtain ⟨r2, h2, hf⟩ := bn1_e hf
  refine j_invV [.int r1, .ref (z + aM 0)] [.int r2, .int r1, .ref (z + aM 0)] E (c_X12_areLoad h2) ml_X12_462 mv_X12_areLoad rfl ⟨le_ rfl, le_ rfl⟩ (rcM cf_X12) rfl rfl (le_ rfl) ⟨le_ rfl, le_ rfl⟩ dX12_refusal_9 ?_
  obtain ⟨r3, M1, h3, hf⟩ := bn2_e hf
  refine j_invV [] [.int r3] E (c_X12_passes2 h3) ml_X12_458 mv_X12_passes2 rfl ⟨le_ rfl, le_ rfl⟩ (rcM cf_X12) rfl rfl (le_ rfl) ⟨le_ rfl, le_ rfl⟩ dX12_refusal_12 ?_
  refine j_if_eq E 28 (by decide) dX12_refusal_15 (fun c1 => ?_) (fun c1 => ?_)
  · rw [if_pos c1] at hf
    refine j_iconst E 0 ic_0 dX12_refusal_28 ?_
    cases hf
    exact j_iret E rfl (le_ rfl) (le_ rfl) dX12_refusal_29
  · rw [if_neg c1] at hf
    refine j_aload_n E 0 rfl dX12_refusal_18 ?_
    refine j_iload_n E 1 rfl dX12_refusal_19 ?_
    refine j_iload_n E 2 rfl dX12_refusal_20 ?_
    refine j_iload_n E 3 rfl dX12_refusal_21 ?_
    obtain ⟨r4, h4, hf⟩ := bn1_e hf
    refine j_invV [] [.int r4] E (c_X12_reasonOf h4) ml_X12_323 mv_X12_reasonOf rfl ⟨le_ rfl, le_ rfl⟩ (rcM cf_X12) rfl rfl (le_ rfl) ⟨le_ rfl, le_ rfl⟩ dX12_refusal_22 ?_
    refine j_goto E 29 (by decide) dX12_refusal_25 ?_
    cases hf
    exact j_iret E rfl (le_ rfl) (le_ rfl) dX12_refusal_29
def f_X12_valueIfDelivered (M : MT) (v1 : Int32) (v2 : Int32) (v3 : Int32) : Option (Int32 × MT) :=
  bn1 (f_X12_hasPlot M v1) (fun r1 => bn1 (f_X12_areLoad M v2 v3) (fun r2 => bn2 (f_X12_passes2 M r1 r2) (fun r3 M1 => if r3 = 0 then (some (0, M1)) else (bn1 (f_X12_reasonOf M1 v1 v2 v3) (fun r4 => if r4 = 0 then (bn1 (f_X12_ofPlot M1 v1 1) (fun r5 => bn1 (f_X12_gradeAs M1 v1 v2 v3) (fun r6 => bn1 (f_X12_priceOf M1 r5 r6) (fun r7 => some ((v2 * r7), M1))))) else (some ((-1), M1)))))))
set_option maxRecDepth 20000 in
theorem c_X12_valueIfDelivered {l : Launch} {D : DD} {z : Nat} {X : XT} {o : Int64} {f1 : Nat} {M : MT} {v1 : Int32} {v2 : Int32} {v3 : Int32} {r : Int32} {M' : MT} (hf : f_X12_valueIfDelivered M v1 v2 v3 = some (r, M')) : CC l yX12_valueIfDelivered cX12_valueIfDelivered 4 (some .int) (rmk 6 0 0) D z [.ref (z + aM 0), .int v1, .int v2, .int v3] (GG D z (X, (f1 + 1, M, o))) (some (.int r)) (GG D z (X, (f1 + 1, M', o))) := by
  unfold f_X12_valueIfDelivered at hf
  refine cc_of pn_X12 (le_ rfl) (ls := [(0, .ref (z + aM 0)), (1, .int v1), (2, .int v2), (3, .int v3)]) rfl ?_
  intro p e s m args below meth c E
  refine j_aload_n E 0 rfl dX12_valueIfDelivered_0 ?_
  refine j_aload_n E 0 rfl dX12_valueIfDelivered_1 ?_
  refine j_iload_n E 1 rfl dX12_valueIfDelivered_2 ?_
  obtain ⟨r1, h1, hf⟩ := bn1_e hf
  refine j_invV [.ref (z + aM 0)] [.int r1, .ref (z + aM 0)] E (c_X12_hasPlot h1) ml_X12_438 mv_X12_hasPlot rfl ⟨le_ rfl, le_ rfl⟩ (rcM cf_X12) rfl rfl (le_ rfl) ⟨le_ rfl, le_ rfl⟩ dX12_valueIfDelivered_3 ?_
  refine j_aload_n E 0 rfl dX12_valueIfDelivered_6 ?_
  refine j_iload_n E 2 rfl dX12_valueIfDelivered_7 ?_
  refine j_iload_n E 3 rfl dX12_valueIfDelivered_8 ?_
  obtain ⟨r2, h2, hf⟩ := bn1_e hf
  refine j_invV [.int r1, .ref (z + aM 0)] [.int r2, .int r1, .ref (z + aM 0)] E (c_X12_areLoad h2) ml_X12_462 mv_X12_areLoad rfl ⟨le_ rfl, le_ rfl⟩ (rcM cf_X12) rfl rfl (le_ rfl) ⟨le_ rfl, le_ rfl⟩ dX12_valueIfDelivered_9 ?_
  obtain ⟨r3, M1, h3, hf⟩ := bn2_e hf
  refine j_invV [] [.int r3] E (c_X12_passes2 h3) ml_X12_458 mv_X12_passes2 rfl ⟨le_ rfl, le_ rfl⟩ (rcM cf_X12) rfl rfl (le_ rfl) ⟨le_ rfl, le_ rfl⟩ dX12_valueIfDelivered_12 ?_
  refine j_if_ne E 20 (by decide) dX12_valueIfDelivered_15 (fun c1 => ?_) (fun c1 => ?_)
  · rw [if_neg c1] at hf
    refine j_aload_n E 0 rfl dX12_valueIfDelivered_20 ?_
    refine j_iload_n E 1 rfl dX12_valueIfDelivered_21 ?_
    refine j_iload_n E 2 rfl dX12_valueIfDelivered_22 ?_
    refine j_iload_n E 3 rfl dX12_valueIfDelivered_23 ?_
    obtain ⟨r4, h4, hf⟩ := bn1_e hf
    refine j_invV [] [.int r4] E (c_X12_reasonOf h4) ml_X12_323 mv_X12_reasonOf rfl ⟨le_ rfl, le_ rfl⟩ (rcM cf_X12) rfl rfl (le_ rfl) ⟨le_ rfl, le_ rfl⟩ dX12_valueIfDelivered_24 ?_
    refine j_if_eq E 34 (by decide) dX12_valueIfDelivered_27 (fun c2 => ?_) (fun c2 => ?_)
    · rw [if_pos c2] at hf
      refine j_iload_n E 2 rfl dX12_valueIfDelivered_34 ?_
      refine j_aload_n E 0 rfl dX12_valueIfDelivered_35 ?_
      refine j_aload_n E 0 rfl dX12_valueIfDelivered_36 ?_
      refine j_iload_n E 1 rfl dX12_valueIfDelivered_37 ?_
      refine j_iconst E 1 ic_1 dX12_valueIfDelivered_38 ?_
      obtain ⟨r5, h5, hf⟩ := bn1_e hf
      refine j_invV [.ref (z + aM 0), .int v2] [.int r5, .ref (z + aM 0), .int v2] E (c_X12_ofPlot h5) ml_X12_144 mv_X12_ofPlot rfl ⟨le_ rfl, le_ rfl⟩ (rcM cf_X12) rfl rfl (le_ rfl) ⟨le_ rfl, le_ rfl⟩ dX12_valueIfDelivered_39 ?_
      refine j_aload_n E 0 rfl dX12_valueIfDelivered_42 ?_
      refine j_iload_n E 1 rfl dX12_valueIfDelivered_43 ?_
      refine j_iload_n E 2 rfl dX12_valueIfDelivered_44 ?_
      refine j_iload_n E 3 rfl dX12_valueIfDelivered_45 ?_
      obtain ⟨r6, h6, hf⟩ := bn1_e hf
      refine j_invV [.int r5, .ref (z + aM 0), .int v2] [.int r6, .int r5, .ref (z + aM 0), .int v2] E (c_X12_gradeAs h6) ml_X12_173 mv_X12_gradeAs rfl ⟨le_ rfl, le_ rfl⟩ (rcM cf_X12) rfl rfl (le_ rfl) ⟨le_ rfl, le_ rfl⟩ dX12_valueIfDelivered_46 ?_
      obtain ⟨r7, h7, hf⟩ := bn1_e hf
      refine j_invV [.int v2] [.int r7, .int v2] E (c_X12_priceOf h7) ml_X12_186 mv_X12_priceOf rfl ⟨le_ rfl, le_ rfl⟩ (rcM cf_X12) rfl rfl (le_ rfl) ⟨le_ rfl, le_ rfl⟩ dX12_valueIfDelivered_49 ?_
      refine j_imul E dX12_valueIfDelivered_52 ?_
      cases hf
      exact j_iret E rfl (le_ rfl) (le_ rfl) dX12_valueIfDelivered_53
    · rw [if_neg c2] at hf
      refine j_iconst E (-1) ic_m1 dX12_valueIfDelivered_30 ?_
      refine j_goto E 53 (by decide) dX12_valueIfDelivered_31 ?_
      cases hf
      exact j_iret E rfl (le_ rfl) (le_ rfl) dX12_valueIfDelivered_53
  · rw [if_pos c1] at hf
    refine j_iconst E 0 ic_0 dX12_valueIfDelivered_18 ?_
    cases hf
    exact j_iret E rfl (le_ rfl) (le_ rfl) dX12_valueIfDelivered_19
def f_X12_tellLot (M : MT) (v1 : Int32) (v2 : Int32) : Option (Int32 × MT) :=
  bn1 (f_X12_hasLot M v1) (fun r1 => bn2 (f_X12_passes1 M r1) (fun r2 M1 => if r2 = 0 then (some (0, M1)) else (bn1 (f_X12_ofLot M1 v1 v2) (fun r3 => some (r3, M1)))))
set_option maxRecDepth 20000 in
theorem c_X12_tellLot {l : Launch} {D : DD} {z : Nat} {X : XT} {o : Int64} {f1 : Nat} {M : MT} {v1 : Int32} {v2 : Int32} {r : Int32} {M' : MT} (hf : f_X12_tellLot M v1 v2 = some (r, M')) : CC l yX12_tellLot cX12_tellLot 3 (some .int) (rmk 3 0 0) D z [.ref (z + aM 0), .int v1, .int v2] (GG D z (X, (f1 + 1, M, o))) (some (.int r)) (GG D z (X, (f1 + 1, M', o))) := by
  unfold f_X12_tellLot at hf
  refine cc_of pn_X12 (le_ rfl) (ls := [(0, .ref (z + aM 0)), (1, .int v1), (2, .int v2)]) rfl ?_
  intro p e s m args below meth c E
  refine j_aload_n E 0 rfl dX12_tellLot_0 ?_
  refine j_aload_n E 0 rfl dX12_tellLot_1 ?_
  refine j_iload_n E 1 rfl dX12_tellLot_2 ?_
  obtain ⟨r1, h1, hf⟩ := bn1_e hf
  refine j_invV [.ref (z + aM 0)] [.int r1, .ref (z + aM 0)] E (c_X12_hasLot h1) ml_X12_465 mv_X12_hasLot rfl ⟨le_ rfl, le_ rfl⟩ (rcM cf_X12) rfl rfl (le_ rfl) ⟨le_ rfl, le_ rfl⟩ dX12_tellLot_3 ?_
  obtain ⟨r2, M1, h2, hf⟩ := bn2_e hf
  refine j_invV [] [.int r2] E (c_X12_passes1 h2) ml_X12_396 mv_X12_passes1 rfl ⟨le_ rfl, le_ rfl⟩ (rcM cf_X12) rfl rfl (le_ rfl) ⟨le_ rfl, le_ rfl⟩ dX12_tellLot_6 ?_
  refine j_if_eq E 21 (by decide) dX12_tellLot_9 (fun c1 => ?_) (fun c1 => ?_)
  · rw [if_pos c1] at hf
    refine j_iconst E 0 ic_0 dX12_tellLot_21 ?_
    cases hf
    exact j_iret E rfl (le_ rfl) (le_ rfl) dX12_tellLot_22
  · rw [if_neg c1] at hf
    refine j_aload_n E 0 rfl dX12_tellLot_12 ?_
    refine j_iload_n E 1 rfl dX12_tellLot_13 ?_
    refine j_iload_n E 2 rfl dX12_tellLot_14 ?_
    obtain ⟨r3, h3, hf⟩ := bn1_e hf
    refine j_invV [] [.int r3] E (c_X12_ofLot h3) ml_X12_198 mv_X12_ofLot rfl ⟨le_ rfl, le_ rfl⟩ (rcM cf_X12) rfl rfl (le_ rfl) ⟨le_ rfl, le_ rfl⟩ dX12_tellLot_15 ?_
    refine j_goto E 22 (by decide) dX12_tellLot_18 ?_
    cases hf
    exact j_iret E rfl (le_ rfl) (le_ rfl) dX12_tellLot_22
def f_X12_lotVariety (M : MT) (v1 : Int32) : Option (Int32 × MT) :=
  bn2 (f_X12_tellLot M v1 0) (fun r1 M1 => some (r1, M1))
set_option maxRecDepth 20000 in
theorem c_X12_lotVariety {l : Launch} {D : DD} {z : Nat} {X : XT} {o : Int64} {f1 : Nat} {M : MT} {v1 : Int32} {r : Int32} {M' : MT} (hf : f_X12_lotVariety M v1 = some (r, M')) : CC l yX12_lotVariety cX12_lotVariety 2 (some .int) (rmk 4 0 0) D z [.ref (z + aM 0), .int v1] (GG D z (X, (f1 + 1, M, o))) (some (.int r)) (GG D z (X, (f1 + 1, M', o))) := by
  unfold f_X12_lotVariety at hf
  refine cc_of pn_X12 (le_ rfl) (ls := [(0, .ref (z + aM 0)), (1, .int v1)]) rfl ?_
  intro p e s m args below meth c E
  refine j_aload_n E 0 rfl dX12_lotVariety_0 ?_
  refine j_iload_n E 1 rfl dX12_lotVariety_1 ?_
  refine j_iconst E 0 ic_0 dX12_lotVariety_2 ?_
  obtain ⟨r1, M1, h1, hf⟩ := bn2_e hf
  refine j_invV [] [.int r1] E (c_X12_tellLot h1) ml_X12_468 mv_X12_tellLot rfl ⟨le_ rfl, le_ rfl⟩ (rcM cf_X12) rfl rfl (le_ rfl) ⟨le_ rfl, le_ rfl⟩ dX12_lotVariety_3 ?_
  cases hf
  exact j_iret E rfl (le_ rfl) (le_ rfl) dX12_lotVariety_6
def f_X12_lotSugar (M : MT) (v1 : Int32) : Option (Int32 × MT) :=
  bn2 (f_X12_tellLot M v1 1) (fun r1 M1 => some (r1, M1))
set_option maxRecDepth 20000 in
theorem c_X12_lotSugar {l : Launch} {D : DD} {z : Nat} {X : XT} {o : Int64} {f1 : Nat} {M : MT} {v1 : Int32} {r : Int32} {M' : MT} (hf : f_X12_lotSugar M v1 = some (r, M')) : CC l yX12_lotSugar cX12_lotSugar 2 (some .int) (rmk 4 0 0) D z [.ref (z + aM 0), .int v1] (GG D z (X, (f1 + 1, M, o))) (some (.int r)) (GG D z (X, (f1 + 1, M', o))) := by
  unfold f_X12_lotSugar at hf
  refine cc_of pn_X12 (le_ rfl) (ls := [(0, .ref (z + aM 0)), (1, .int v1)]) rfl ?_
  intro p e s m args below meth c E
  refine j_aload_n E 0 rfl dX12_lotSugar_0 ?_
  refine j_iload_n E 1 rfl dX12_lotSugar_1 ?_
  refine j_iconst E 1 ic_1 dX12_lotSugar_2 ?_
  obtain ⟨r1, M1, h1, hf⟩ := bn2_e hf
  refine j_invV [] [.int r1] E (c_X12_tellLot h1) ml_X12_468 mv_X12_tellLot rfl ⟨le_ rfl, le_ rfl⟩ (rcM cf_X12) rfl rfl (le_ rfl) ⟨le_ rfl, le_ rfl⟩ dX12_lotSugar_3 ?_
  cases hf
  exact j_iret E rfl (le_ rfl) (le_ rfl) dX12_lotSugar_6
def f_X12_unsold (M : MT) (v1 : Int32) : Option (Int32 × MT) :=
  bn2 (f_X12_tellLot M v1 3) (fun r1 M1 => some (r1, M1))
set_option maxRecDepth 20000 in
theorem c_X12_unsold {l : Launch} {D : DD} {z : Nat} {X : XT} {o : Int64} {f1 : Nat} {M : MT} {v1 : Int32} {r : Int32} {M' : MT} (hf : f_X12_unsold M v1 = some (r, M')) : CC l yX12_unsold cX12_unsold 2 (some .int) (rmk 4 0 0) D z [.ref (z + aM 0), .int v1] (GG D z (X, (f1 + 1, M, o))) (some (.int r)) (GG D z (X, (f1 + 1, M', o))) := by
  unfold f_X12_unsold at hf
  refine cc_of pn_X12 (le_ rfl) (ls := [(0, .ref (z + aM 0)), (1, .int v1)]) rfl ?_
  intro p e s m args below meth c E
  refine j_aload_n E 0 rfl dX12_unsold_0 ?_
  refine j_iload_n E 1 rfl dX12_unsold_1 ?_
  refine j_iconst E 3 ic_3 dX12_unsold_2 ?_
  obtain ⟨r1, M1, h1, hf⟩ := bn2_e hf
  refine j_invV [] [.int r1] E (c_X12_tellLot h1) ml_X12_468 mv_X12_tellLot rfl ⟨le_ rfl, le_ rfl⟩ (rcM cf_X12) rfl rfl (le_ rfl) ⟨le_ rfl, le_ rfl⟩ dX12_unsold_3 ?_
  cases hf
  exact j_iret E rfl (le_ rfl) (le_ rfl) dX12_unsold_6
def f_X12_sweetestLot_9 : Nat → MT → Int32 → Int32 → Option (Int32 × MT)
  | 0, _, _, _ => none
  | n + 1, M, v1, v2 => if (M.1 1 9) ≤ v2 then (some (v1, M)) else (if v1 = (-1) then (bn1 (f_X12_ofLot M v2 3) (fun r1 => if r1 ≤ 0 then (f_X12_sweetestLot_9 n M v1 (v2 + 1)) else (f_X12_sweetestLot_9 n M v2 (v2 + 1)))) else (bn1 (f_X12_ofLot M v2 1) (fun r2 => bn1 (f_X12_ofLot M v1 1) (fun r3 => if r2 ≤ r3 then (bn1 (f_X12_ofLot M v2 3) (fun r4 => if r4 ≤ 0 then (f_X12_sweetestLot_9 n M v1 (v2 + 1)) else (f_X12_sweetestLot_9 n M v1 (v2 + 1)))) else (bn1 (f_X12_ofLot M v2 3) (fun r5 => if r5 ≤ 0 then (f_X12_sweetestLot_9 n M v1 (v2 + 1)) else (f_X12_sweetestLot_9 n M v2 (v2 + 1))))))))
def f_X12_sweetestLot (M : MT) : Option (Int32 × MT) :=
  bnd (mi M 0 0 0) (fun M1 => f_X12_sweetestLot_9 2000 M1 (-1) 0)
set_option maxRecDepth 20000 in
theorem b_X12_sweetestLot_9 {p : Program} {l : Launch} {e : Env} {s : State} {m : MethodId} {args : Array Value} {below : List Frame} {meth : Method} {c : Code} {D : DD} {z : Nat} {X : XT} {o : Int64} {f1 : Nat} (E : Cx p s m args meth c D z RX12 cX12_sweetestLot 4 (some .int)) {r : Int32} {M' : MT} : ∀ (n : Nat) (M : MT) (v1 : Int32) (v2 : Int32) (hf : f_X12_sweetestLot_9 n M v1 v2 = some (r, M')), J p l e (rmk 2 0 0) s m args below meth c D z (GG D z (X, (f1 + 1, M, o))) 0 0 (MQ below (QC z (some (.int r)) (GG D z (X, (f1 + 1, M', o)))) args s (rmk 2 0 0).cells (rmk 2 0 0).slots (Az z)) 4 9 [(0, .ref (z + aM 0)), (1, .int v1), (2, .int v2)] [] := by
  intro n
  induction n with
  | zero =>
    intro M v1 v2 hf
    exact none_e hf
  | succ n ih =>
    intro M v1 v2 hf
    rw [f_X12_sweetestLot_9] at hf
    refine j_iload_n E 2 rfl dX12_sweetestLot_9 ?_
    refine j_aload_n E 0 rfl dX12_sweetestLot_10 ?_
    refine j_getM (f := 1) E cf_X12 fl_X12_17 (lt_ rfl) rfl rfl dX12_sweetestLot_11 ?_
    refine j_bipush E 9 bp_9 dX12_sweetestLot_14 ?_
    refine j_ialdM E (lt_ rfl) entM1 (vi_9 (lt_ rfl)) (9) tn_9 dX12_sweetestLot_16 ?_
    refine j_icmp_ge E 71 (by decide) dX12_sweetestLot_17 (fun c1 => ?_) (fun c1 => ?_)
    · rw [if_pos c1] at hf
      refine j_iload_n E 1 rfl dX12_sweetestLot_71 ?_
      cases hf
      exact j_iret E rfl (le_ rfl) (le_ rfl) dX12_sweetestLot_72
    · rw [if_neg c1] at hf
      refine j_iload_n E 1 rfl dX12_sweetestLot_20 ?_
      refine j_iconst E (-1) ic_m1 dX12_sweetestLot_21 ?_
      refine j_icmp_eq E 40 (by decide) dX12_sweetestLot_22 (fun c2 => ?_) (fun c2 => ?_)
      · rw [if_pos c2] at hf
        refine j_iconst E 1 ic_1 dX12_sweetestLot_40 ?_
        refine j_goto E 45 (by decide) dX12_sweetestLot_41 ?_
        refine j_istore_n (ls' := [(3, .int 1), (0, .ref (z + aM 0)), (1, .int v1), (2, .int v2)]) E (lt_ rfl) rfl dX12_sweetestLot_45 ?_
        refine j_aload_n E 1 rfl dX12_sweetestLot_46 ?_
        refine j_iload_n E 3 rfl dX12_sweetestLot_47 ?_
        refine j_iconst E 3 ic_3 dX12_sweetestLot_48 ?_
        obtain ⟨r1, h1, hf⟩ := bn1_e hf
        refine j_invV [] [.int r1] E (c_X12_ofLot h1) ml_X12_198 mv_X12_ofLot rfl ⟨le_ rfl, le_ rfl⟩ (rcM cf_X12) rfl rfl (le_ rfl) ⟨le_ rfl, le_ rfl⟩ dX12_sweetestLot_49 ?_
        refine j_if_le E 63 (by decide) dX12_sweetestLot_52 (fun c3 => ?_) (fun c3 => ?_)
        · rw [if_pos c3] at hf
          refine j_iload_n E 2 rfl dX12_sweetestLot_63 ?_
          refine j_istore_n (ls' := [(1, .int v1), (3, .int 1), (0, .ref (z + aM 0)), (2, .int v2)]) E (lt_ rfl) rfl dX12_sweetestLot_64 ?_
          refine j_iinc (ls' := [(2, .int (v2 + 1)), (1, .int v1), (3, .int 1), (0, .ref (z + aM 0))]) E 3 rfl (lt_ rfl) (v2 + 1) (congrArg (fun q => v2 + q) ic_1) rfl dX12_sweetestLot_65 ?_
          refine j_goto E 9 (by decide) dX12_sweetestLot_68 ?_
          refine j_sub [3, 1, 0] rfl ?_
          exact ih _ _ _ hf
        · rw [if_neg c3] at hf
          refine j_iload_n E 0 rfl dX12_sweetestLot_55 ?_
          refine j_if_eq E 63 (by decide) dX12_sweetestLot_56 (fun q => absurd q (by decide)) (fun _ => ?_)
          refine j_iload_n E 3 rfl dX12_sweetestLot_59 ?_
          refine j_goto E 64 (by decide) dX12_sweetestLot_60 ?_
          refine j_istore_n (ls' := [(1, .int v2), (3, .int 1), (0, .ref (z + aM 0)), (2, .int v2)]) E (lt_ rfl) rfl dX12_sweetestLot_64 ?_
          refine j_iinc (ls' := [(2, .int (v2 + 1)), (1, .int v2), (3, .int 1), (0, .ref (z + aM 0))]) E 3 rfl (lt_ rfl) (v2 + 1) (congrArg (fun q => v2 + q) ic_1) rfl dX12_sweetestLot_65 ?_
          refine j_goto E 9 (by decide) dX12_sweetestLot_68 ?_
          refine j_sub [3, 1, 0] rfl ?_
          exact ih _ _ _ hf
      · rw [if_neg c2] at hf
        refine j_aload_n E 0 rfl dX12_sweetestLot_25 ?_
        refine j_iload_n E 2 rfl dX12_sweetestLot_26 ?_
        refine j_iconst E 1 ic_1 dX12_sweetestLot_27 ?_
        obtain ⟨r2, h2, hf⟩ := bn1_e hf
        refine j_invV [] [.int r2] E (c_X12_ofLot h2) ml_X12_198 mv_X12_ofLot rfl ⟨le_ rfl, le_ rfl⟩ (rcM cf_X12) rfl rfl (le_ rfl) ⟨le_ rfl, le_ rfl⟩ dX12_sweetestLot_28 ?_
        refine j_aload_n E 0 rfl dX12_sweetestLot_31 ?_
        refine j_iload_n E 1 rfl dX12_sweetestLot_32 ?_
        refine j_iconst E 1 ic_1 dX12_sweetestLot_33 ?_
        obtain ⟨r3, h3, hf⟩ := bn1_e hf
        refine j_invV [.int r2] [.int r3, .int r2] E (c_X12_ofLot h3) ml_X12_198 mv_X12_ofLot rfl ⟨le_ rfl, le_ rfl⟩ (rcM cf_X12) rfl rfl (le_ rfl) ⟨le_ rfl, le_ rfl⟩ dX12_sweetestLot_34 ?_
        refine j_icmp_le E 44 (by decide) dX12_sweetestLot_37 (fun c4 => ?_) (fun c4 => ?_)
        · rw [if_pos c4] at hf
          refine j_iconst E 0 ic_0 dX12_sweetestLot_44 ?_
          refine j_istore_n (ls' := [(3, .int 0), (0, .ref (z + aM 0)), (1, .int v1), (2, .int v2)]) E (lt_ rfl) rfl dX12_sweetestLot_45 ?_
          refine j_aload_n E 1 rfl dX12_sweetestLot_46 ?_
          refine j_iload_n E 3 rfl dX12_sweetestLot_47 ?_
          refine j_iconst E 3 ic_3 dX12_sweetestLot_48 ?_
          obtain ⟨r4, h4, hf⟩ := bn1_e hf
          refine j_invV [] [.int r4] E (c_X12_ofLot h4) ml_X12_198 mv_X12_ofLot rfl ⟨le_ rfl, le_ rfl⟩ (rcM cf_X12) rfl rfl (le_ rfl) ⟨le_ rfl, le_ rfl⟩ dX12_sweetestLot_49 ?_
          refine j_if_le E 63 (by decide) dX12_sweetestLot_52 (fun c5 => ?_) (fun c5 => ?_)
          · rw [if_pos c5] at hf
            refine j_iload_n E 2 rfl dX12_sweetestLot_63 ?_
            refine j_istore_n (ls' := [(1, .int v1), (3, .int 0), (0, .ref (z + aM 0)), (2, .int v2)]) E (lt_ rfl) rfl dX12_sweetestLot_64 ?_
            refine j_iinc (ls' := [(2, .int (v2 + 1)), (1, .int v1), (3, .int 0), (0, .ref (z + aM 0))]) E 3 rfl (lt_ rfl) (v2 + 1) (congrArg (fun q => v2 + q) ic_1) rfl dX12_sweetestLot_65 ?_
            refine j_goto E 9 (by decide) dX12_sweetestLot_68 ?_
            refine j_sub [3, 1, 0] rfl ?_
            exact ih _ _ _ hf
          · rw [if_neg c5] at hf
            refine j_iload_n E 0 rfl dX12_sweetestLot_55 ?_
            refine j_if_eq E 63 (by decide) dX12_sweetestLot_56 (fun _ => ?_) (fun q => absurd q (by decide))
            refine j_iload_n E 2 rfl dX12_sweetestLot_63 ?_
            refine j_istore_n (ls' := [(1, .int v1), (3, .int 0), (0, .ref (z + aM 0)), (2, .int v2)]) E (lt_ rfl) rfl dX12_sweetestLot_64 ?_
            refine j_iinc (ls' := [(2, .int (v2 + 1)), (1, .int v1), (3, .int 0), (0, .ref (z + aM 0))]) E 3 rfl (lt_ rfl) (v2 + 1) (congrArg (fun q => v2 + q) ic_1) rfl dX12_sweetestLot_65 ?_
            refine j_goto E 9 (by decide) dX12_sweetestLot_68 ?_
            refine j_sub [3, 1, 0] rfl ?_
            exact ih _ _ _ hf
        · rw [if_neg c4] at hf
          refine j_iconst E 1 ic_1 dX12_sweetestLot_40 ?_
          refine j_goto E 45 (by decide) dX12_sweetestLot_41 ?_
          refine j_istore_n (ls' := [(3, .int 1), (0, .ref (z + aM 0)), (1, .int v1), (2, .int v2)]) E (lt_ rfl) rfl dX12_sweetestLot_45 ?_
          refine j_aload_n E 1 rfl dX12_sweetestLot_46 ?_
          refine j_iload_n E 3 rfl dX12_sweetestLot_47 ?_
          refine j_iconst E 3 ic_3 dX12_sweetestLot_48 ?_
          obtain ⟨r5, h5, hf⟩ := bn1_e hf
          refine j_invV [] [.int r5] E (c_X12_ofLot h5) ml_X12_198 mv_X12_ofLot rfl ⟨le_ rfl, le_ rfl⟩ (rcM cf_X12) rfl rfl (le_ rfl) ⟨le_ rfl, le_ rfl⟩ dX12_sweetestLot_49 ?_
          refine j_if_le E 63 (by decide) dX12_sweetestLot_52 (fun c6 => ?_) (fun c6 => ?_)
          · rw [if_pos c6] at hf
            refine j_iload_n E 2 rfl dX12_sweetestLot_63 ?_
            refine j_istore_n (ls' := [(1, .int v1), (3, .int 1), (0, .ref (z + aM 0)), (2, .int v2)]) E (lt_ rfl) rfl dX12_sweetestLot_64 ?_
            refine j_iinc (ls' := [(2, .int (v2 + 1)), (1, .int v1), (3, .int 1), (0, .ref (z + aM 0))]) E 3 rfl (lt_ rfl) (v2 + 1) (congrArg (fun q => v2 + q) ic_1) rfl dX12_sweetestLot_65 ?_
            refine j_goto E 9 (by decide) dX12_sweetestLot_68 ?_
            refine j_sub [3, 1, 0] rfl ?_
            exact ih _ _ _ hf
          · rw [if_neg c6] at hf
            refine j_iload_n E 0 rfl dX12_sweetestLot_55 ?_
            refine j_if_eq E 63 (by decide) dX12_sweetestLot_56 (fun q => absurd q (by decide)) (fun _ => ?_)
            refine j_iload_n E 3 rfl dX12_sweetestLot_59 ?_
            refine j_goto E 64 (by decide) dX12_sweetestLot_60 ?_
            refine j_istore_n (ls' := [(1, .int v2), (3, .int 1), (0, .ref (z + aM 0)), (2, .int v2)]) E (lt_ rfl) rfl dX12_sweetestLot_64 ?_
            refine j_iinc (ls' := [(2, .int (v2 + 1)), (1, .int v2), (3, .int 1), (0, .ref (z + aM 0))]) E 3 rfl (lt_ rfl) (v2 + 1) (congrArg (fun q => v2 + q) ic_1) rfl dX12_sweetestLot_65 ?_
            refine j_goto E 9 (by decide) dX12_sweetestLot_68 ?_
            refine j_sub [3, 1, 0] rfl ?_
            exact ih _ _ _ hf
set_option maxRecDepth 20000 in
theorem c_X12_sweetestLot {l : Launch} {D : DD} {z : Nat} {X : XT} {o : Int64} {f1 : Nat} {M : MT} {r : Int32} {M' : MT} (hf : f_X12_sweetestLot M = some (r, M')) : CC l yX12_sweetestLot cX12_sweetestLot 4 (some .int) (rmk 2 0 0) D z [.ref (z + aM 0)] (GG D z (X, (f1 + 1, M, o))) (some (.int r)) (GG D z (X, (f1 + 1, M', o))) := by
  unfold f_X12_sweetestLot at hf
  refine cc_of pn_X12 (le_ rfl) (ls := [(0, .ref (z + aM 0))]) rfl ?_
  intro p e s m args below meth c E
  refine j_aload_n E 0 rfl dX12_sweetestLot_0 ?_
  refine j_iconst E 0 ic_0 dX12_sweetestLot_1 ?_
  obtain ⟨M1, hM1, hf⟩ := bnd_e hf
  refine j_putM (f := 0) E cf_X12 fl_X12_3 (lt_ rfl) ⟨rfl, rfl⟩ (fit_i _) (lt_ rfl) peM_0 hM1 dX12_sweetestLot_2 ?_
  refine j_iconst E (-1) ic_m1 dX12_sweetestLot_5 ?_
  refine j_istore_n (ls' := [(1, .int (-1)), (0, .ref (z + aM 0))]) E (lt_ rfl) rfl dX12_sweetestLot_6 ?_
  refine j_iconst E 0 ic_0 dX12_sweetestLot_7 ?_
  refine j_istore_n (ls' := [(2, .int 0), (1, .int (-1)), (0, .ref (z + aM 0))]) E (lt_ rfl) rfl dX12_sweetestLot_8 ?_
  refine j_sub [2, 1, 0] rfl ?_
  exact b_X12_sweetestLot_9 E 2000 _ _ _ hf
def f_X12_bottlesOf_60 (v1 : Int32) : Nat → MT → Int32 → Int32 → Option (Int32 × MT)
  | 0, _, _, _ => none
  | n + 1, M, v2, v3 => if (M.1 1 9) ≤ v3 then (some (v2, M)) else (bn1 (f_X12_ofLot M v3 0) (fun r1 => if r1 = v1 then (bn1 (f_X12_ofLot M v3 3) (fun r2 => bnd (v2 + r2) (fun x2 => f_X12_bottlesOf_60 v1 n M x2 (v3 + 1)))) else (bnd (v2 + 0) (fun x1 => f_X12_bottlesOf_60 v1 n M x1 (v3 + 1)))))
def f_X12_bottlesOf_18 (v1 : Int32) : Nat → MT → Int32 → Int32 → Option (Int32 × MT)
  | 0, _, _, _ => none
  | n + 1, M, v2, v3 => if (M.1 1 8) ≤ v3 then (f_X12_bottlesOf_60 v1 2000 M v2 0) else (bn1 (f_X12_ofTank M v3 2) (fun r1 => if r1 = v1 then (bn1 (f_X12_ofTank M v3 1) (fun r2 => bnd (v2 + r2) (fun x2 => f_X12_bottlesOf_18 v1 n M x2 (v3 + 1)))) else (bnd (v2 + 0) (fun x1 => f_X12_bottlesOf_18 v1 n M x1 (v3 + 1)))))
def f_X12_bottlesOf (M : MT) (v1 : Int32) : Option (Int32 × MT) :=
  bn1 (f_X12_hasVariety M v1) (fun r1 => bn2 (f_X12_passes1 M r1) (fun r2 M1 => if r2 = 0 then (some (0, M1)) else (f_X12_bottlesOf_18 v1 2000 M1 0 0)))
set_option maxRecDepth 20000 in
theorem b_X12_bottlesOf_60 {p : Program} {l : Launch} {e : Env} {s : State} {m : MethodId} {args : Array Value} {below : List Frame} {meth : Method} {c : Code} {D : DD} {z : Nat} {X : XT} {o : Int64} {f1 : Nat} {v1 : Int32} (E : Cx p s m args meth c D z RX12 cX12_bottlesOf 4 (some .int)) {r : Int32} {M' : MT} : ∀ (n : Nat) (M : MT) (v2 : Int32) (v3 : Int32) (hf : f_X12_bottlesOf_60 v1 n M v2 v3 = some (r, M')), J p l e (rmk 3 0 0) s m args below meth c D z (GG D z (X, (f1 + 1, M, o))) 0 0 (MQ below (QC z (some (.int r)) (GG D z (X, (f1 + 1, M', o)))) args s (rmk 3 0 0).cells (rmk 3 0 0).slots (Az z)) 4 60 [(0, .ref (z + aM 0)), (1, .int v1), (2, .int v2), (3, .int v3)] [] := by
  intro n
  induction n with
  | zero =>
    intro M v2 v3 hf
    exact none_e hf
  | succ n ih =>
    intro M v2 v3 hf
    rw [f_X12_bottlesOf_60] at hf
    refine j_iload_n E 3 rfl dX12_bottlesOf_60 ?_
    refine j_aload_n E 0 rfl dX12_bottlesOf_61 ?_
    refine j_getM (f := 1) E cf_X12 fl_X12_17 (lt_ rfl) rfl rfl dX12_bottlesOf_62 ?_
    refine j_bipush E 9 bp_9 dX12_bottlesOf_65 ?_
    refine j_ialdM E (lt_ rfl) entM1 (vi_9 (lt_ rfl)) (9) tn_9 dX12_bottlesOf_67 ?_
    refine j_icmp_ge E 100 (by decide) dX12_bottlesOf_68 (fun c1 => ?_) (fun c1 => ?_)
    · rw [if_pos c1] at hf
      refine j_iload_n E 2 rfl dX12_bottlesOf_100 ?_
      cases hf
      exact j_iret E rfl (le_ rfl) (le_ rfl) dX12_bottlesOf_101
    · rw [if_neg c1] at hf
      refine j_iload_n E 2 rfl dX12_bottlesOf_71 ?_
      refine j_aload_n E 0 rfl dX12_bottlesOf_72 ?_
      refine j_iload_n E 3 rfl dX12_bottlesOf_73 ?_
      refine j_iconst E 0 ic_0 dX12_bottlesOf_74 ?_
      obtain ⟨r1, h1, hf⟩ := bn1_e hf
      refine j_invV [.int v2] [.int r1, .int v2] E (c_X12_ofLot h1) ml_X12_198 mv_X12_ofLot rfl ⟨le_ rfl, le_ rfl⟩ (rcM cf_X12) rfl rfl (le_ rfl) ⟨le_ rfl, le_ rfl⟩ dX12_bottlesOf_75 ?_
      refine j_iload_n E 1 rfl dX12_bottlesOf_78 ?_
      refine j_icmp_ne E 91 (by decide) dX12_bottlesOf_79 (fun c2 => ?_) (fun c2 => ?_)
      · rw [if_neg c2] at hf
        refine j_iconst E 0 ic_0 dX12_bottlesOf_91 ?_
        refine j_iadd E dX12_bottlesOf_92 ?_
        obtain ⟨x1, hx1, hf⟩ := bnd_e hf
        refine j_name hx1 ?_
        refine j_istore_n (ls' := [(2, .int x1), (0, .ref (z + aM 0)), (1, .int v1), (3, .int v3)]) E (lt_ rfl) rfl dX12_bottlesOf_93 ?_
        refine j_iinc (ls' := [(3, .int (v3 + 1)), (2, .int x1), (0, .ref (z + aM 0)), (1, .int v1)]) E 3 rfl (lt_ rfl) (v3 + 1) (congrArg (fun q => v3 + q) ic_1) rfl dX12_bottlesOf_94 ?_
        refine j_goto E 60 (by decide) dX12_bottlesOf_97 ?_
        refine j_sub [2, 3, 1, 0] rfl ?_
        exact ih _ _ _ hf
      · rw [if_pos c2] at hf
        refine j_aload_n E 0 rfl dX12_bottlesOf_82 ?_
        refine j_iload_n E 3 rfl dX12_bottlesOf_83 ?_
        refine j_iconst E 3 ic_3 dX12_bottlesOf_84 ?_
        obtain ⟨r2, h2, hf⟩ := bn1_e hf
        refine j_invV [.int v2] [.int r2, .int v2] E (c_X12_ofLot h2) ml_X12_198 mv_X12_ofLot rfl ⟨le_ rfl, le_ rfl⟩ (rcM cf_X12) rfl rfl (le_ rfl) ⟨le_ rfl, le_ rfl⟩ dX12_bottlesOf_85 ?_
        refine j_goto E 92 (by decide) dX12_bottlesOf_88 ?_
        refine j_iadd E dX12_bottlesOf_92 ?_
        obtain ⟨x2, hx2, hf⟩ := bnd_e hf
        refine j_name hx2 ?_
        refine j_istore_n (ls' := [(2, .int x2), (0, .ref (z + aM 0)), (1, .int v1), (3, .int v3)]) E (lt_ rfl) rfl dX12_bottlesOf_93 ?_
        refine j_iinc (ls' := [(3, .int (v3 + 1)), (2, .int x2), (0, .ref (z + aM 0)), (1, .int v1)]) E 3 rfl (lt_ rfl) (v3 + 1) (congrArg (fun q => v3 + q) ic_1) rfl dX12_bottlesOf_94 ?_
        refine j_goto E 60 (by decide) dX12_bottlesOf_97 ?_
        refine j_sub [2, 3, 1, 0] rfl ?_
        exact ih _ _ _ hf
set_option maxRecDepth 20000 in
theorem b_X12_bottlesOf_18 {p : Program} {l : Launch} {e : Env} {s : State} {m : MethodId} {args : Array Value} {below : List Frame} {meth : Method} {c : Code} {D : DD} {z : Nat} {X : XT} {o : Int64} {f1 : Nat} {v1 : Int32} (E : Cx p s m args meth c D z RX12 cX12_bottlesOf 4 (some .int)) {r : Int32} {M' : MT} : ∀ (n : Nat) (M : MT) (v2 : Int32) (v3 : Int32) (hf : f_X12_bottlesOf_18 v1 n M v2 v3 = some (r, M')), J p l e (rmk 3 0 0) s m args below meth c D z (GG D z (X, (f1 + 1, M, o))) 0 0 (MQ below (QC z (some (.int r)) (GG D z (X, (f1 + 1, M', o)))) args s (rmk 3 0 0).cells (rmk 3 0 0).slots (Az z)) 4 18 [(0, .ref (z + aM 0)), (1, .int v1), (2, .int v2), (3, .int v3)] [] := by
  intro n
  induction n with
  | zero =>
    intro M v2 v3 hf
    exact none_e hf
  | succ n ih =>
    intro M v2 v3 hf
    rw [f_X12_bottlesOf_18] at hf
    refine j_iload_n E 3 rfl dX12_bottlesOf_18 ?_
    refine j_aload_n E 0 rfl dX12_bottlesOf_19 ?_
    refine j_getM (f := 1) E cf_X12 fl_X12_17 (lt_ rfl) rfl rfl dX12_bottlesOf_20 ?_
    refine j_bipush E 8 bp_8 dX12_bottlesOf_23 ?_
    refine j_ialdM E (lt_ rfl) entM1 (vi_8 (lt_ rfl)) (8) tn_8 dX12_bottlesOf_25 ?_
    refine j_icmp_ge E 58 (by decide) dX12_bottlesOf_26 (fun c1 => ?_) (fun c1 => ?_)
    · rw [if_pos c1] at hf
      refine j_iconst E 0 ic_0 dX12_bottlesOf_58 ?_
      refine j_istore_n (ls' := [(3, .int 0), (0, .ref (z + aM 0)), (1, .int v1), (2, .int v2)]) E (lt_ rfl) rfl dX12_bottlesOf_59 ?_
      refine j_sub [1, 2, 3, 0] rfl ?_
      exact b_X12_bottlesOf_60 E 2000 _ _ _ hf
    · rw [if_neg c1] at hf
      refine j_iload_n E 2 rfl dX12_bottlesOf_29 ?_
      refine j_aload_n E 0 rfl dX12_bottlesOf_30 ?_
      refine j_iload_n E 3 rfl dX12_bottlesOf_31 ?_
      refine j_iconst E 2 ic_2 dX12_bottlesOf_32 ?_
      obtain ⟨r1, h1, hf⟩ := bn1_e hf
      refine j_invV [.int v2] [.int r1, .int v2] E (c_X12_ofTank h1) ml_X12_151 mv_X12_ofTank rfl ⟨le_ rfl, le_ rfl⟩ (rcM cf_X12) rfl rfl (le_ rfl) ⟨le_ rfl, le_ rfl⟩ dX12_bottlesOf_33 ?_
      refine j_iload_n E 1 rfl dX12_bottlesOf_36 ?_
      refine j_icmp_ne E 49 (by decide) dX12_bottlesOf_37 (fun c2 => ?_) (fun c2 => ?_)
      · rw [if_neg c2] at hf
        refine j_iconst E 0 ic_0 dX12_bottlesOf_49 ?_
        refine j_iadd E dX12_bottlesOf_50 ?_
        obtain ⟨x1, hx1, hf⟩ := bnd_e hf
        refine j_name hx1 ?_
        refine j_istore_n (ls' := [(2, .int x1), (0, .ref (z + aM 0)), (1, .int v1), (3, .int v3)]) E (lt_ rfl) rfl dX12_bottlesOf_51 ?_
        refine j_iinc (ls' := [(3, .int (v3 + 1)), (2, .int x1), (0, .ref (z + aM 0)), (1, .int v1)]) E 3 rfl (lt_ rfl) (v3 + 1) (congrArg (fun q => v3 + q) ic_1) rfl dX12_bottlesOf_52 ?_
        refine j_goto E 18 (by decide) dX12_bottlesOf_55 ?_
        refine j_sub [2, 3, 1, 0] rfl ?_
        exact ih _ _ _ hf
      · rw [if_pos c2] at hf
        refine j_aload_n E 0 rfl dX12_bottlesOf_40 ?_
        refine j_iload_n E 3 rfl dX12_bottlesOf_41 ?_
        refine j_iconst E 1 ic_1 dX12_bottlesOf_42 ?_
        obtain ⟨r2, h2, hf⟩ := bn1_e hf
        refine j_invV [.int v2] [.int r2, .int v2] E (c_X12_ofTank h2) ml_X12_151 mv_X12_ofTank rfl ⟨le_ rfl, le_ rfl⟩ (rcM cf_X12) rfl rfl (le_ rfl) ⟨le_ rfl, le_ rfl⟩ dX12_bottlesOf_43 ?_
        refine j_goto E 50 (by decide) dX12_bottlesOf_46 ?_
        refine j_iadd E dX12_bottlesOf_50 ?_
        obtain ⟨x2, hx2, hf⟩ := bnd_e hf
        refine j_name hx2 ?_
        refine j_istore_n (ls' := [(2, .int x2), (0, .ref (z + aM 0)), (1, .int v1), (3, .int v3)]) E (lt_ rfl) rfl dX12_bottlesOf_51 ?_
        refine j_iinc (ls' := [(3, .int (v3 + 1)), (2, .int x2), (0, .ref (z + aM 0)), (1, .int v1)]) E 3 rfl (lt_ rfl) (v3 + 1) (congrArg (fun q => v3 + q) ic_1) rfl dX12_bottlesOf_52 ?_
        refine j_goto E 18 (by decide) dX12_bottlesOf_55 ?_
        refine j_sub [2, 3, 1, 0] rfl ?_
        exact ih _ _ _ hf
set_option maxRecDepth 20000 in
theorem c_X12_bottlesOf {l : Launch} {D : DD} {z : Nat} {X : XT} {o : Int64} {f1 : Nat} {M : MT} {v1 : Int32} {r : Int32} {M' : MT} (hf : f_X12_bottlesOf M v1 = some (r, M')) : CC l yX12_bottlesOf cX12_bottlesOf 4 (some .int) (rmk 3 0 0) D z [.ref (z + aM 0), .int v1] (GG D z (X, (f1 + 1, M, o))) (some (.int r)) (GG D z (X, (f1 + 1, M', o))) := by
  unfold f_X12_bottlesOf at hf
  refine cc_of pn_X12 (le_ rfl) (ls := [(0, .ref (z + aM 0)), (1, .int v1)]) rfl ?_
  intro p e s m args below meth c E
  refine j_aload_n E 0 rfl dX12_bottlesOf_0 ?_
  refine j_aload_n E 0 rfl dX12_bottlesOf_1 ?_
  refine j_iload_n E 1 rfl dX12_bottlesOf_2 ?_
  obtain ⟨r1, h1, hf⟩ := bn1_e hf
  refine j_invV [.ref (z + aM 0)] [.int r1, .ref (z + aM 0)] E (c_X12_hasVariety h1) ml_X12_453 mv_X12_hasVariety rfl ⟨le_ rfl, le_ rfl⟩ (rcM cf_X12) rfl rfl (le_ rfl) ⟨le_ rfl, le_ rfl⟩ dX12_bottlesOf_3 ?_
  obtain ⟨r2, M1, h2, hf⟩ := bn2_e hf
  refine j_invV [] [.int r2] E (c_X12_passes1 h2) ml_X12_396 mv_X12_passes1 rfl ⟨le_ rfl, le_ rfl⟩ (rcM cf_X12) rfl rfl (le_ rfl) ⟨le_ rfl, le_ rfl⟩ dX12_bottlesOf_6 ?_
  refine j_if_ne E 14 (by decide) dX12_bottlesOf_9 (fun c1 => ?_) (fun c1 => ?_)
  · rw [if_neg c1] at hf
    refine j_iconst E 0 ic_0 dX12_bottlesOf_14 ?_
    refine j_istore_n (ls' := [(2, .int 0), (0, .ref (z + aM 0)), (1, .int v1)]) E (lt_ rfl) rfl dX12_bottlesOf_15 ?_
    refine j_iconst E 0 ic_0 dX12_bottlesOf_16 ?_
    refine j_istore_n (ls' := [(3, .int 0), (2, .int 0), (0, .ref (z + aM 0)), (1, .int v1)]) E (lt_ rfl) rfl dX12_bottlesOf_17 ?_
    refine j_sub [2, 3, 1, 0] rfl ?_
    exact b_X12_bottlesOf_18 E 2000 _ _ _ hf
  · rw [if_pos c1] at hf
    refine j_iconst E 0 ic_0 dX12_bottlesOf_12 ?_
    cases hf
    exact j_iret E rfl (le_ rfl) (le_ rfl) dX12_bottlesOf_13
def f_X12_openAll_4 (M : MT) : Nat → Int32 → Int32 → Option Int32
  | 0, _, _ => none
  | n + 1, v1, v2 => if (M.1 1 5) ≤ v2 then (some v1) else (bn1 (f_X12_openOf M v2) (fun r1 => bnd (v1 + r1) (fun x1 => f_X12_openAll_4 M n x1 (v2 + 1))))
def f_X12_openAll (M : MT) : Option Int32 :=
  f_X12_openAll_4 M 2000 0 0
set_option maxRecDepth 20000 in
theorem b_X12_openAll_4 {p : Program} {l : Launch} {e : Env} {s : State} {m : MethodId} {args : Array Value} {below : List Frame} {meth : Method} {c : Code} {D : DD} {z : Nat} {X : XT} {o : Int64} {f1 : Nat} {M : MT} (E : Cx p s m args meth c D z RX12 cX12_openAll 3 (some .int)) {r : Int32} : ∀ (n : Nat) (v1 : Int32) (v2 : Int32) (hf : f_X12_openAll_4 M n v1 v2 = some r), J p l e (rmk 5 0 0) s m args below meth c D z (GG D z (X, (f1 + 1, M, o))) 0 0 (MQ below (QC z (some (.int r)) (GG D z (X, (f1 + 1, M, o)))) args s (rmk 5 0 0).cells (rmk 5 0 0).slots (Az z)) 3 4 [(0, .ref (z + aM 0)), (1, .int v1), (2, .int v2)] [] := by
  intro n
  induction n with
  | zero =>
    intro v1 v2 hf
    exact none_e hf
  | succ n ih =>
    intro v1 v2 hf
    rw [f_X12_openAll_4] at hf
    refine j_iload_n E 2 rfl dX12_openAll_4 ?_
    refine j_aload_n E 0 rfl dX12_openAll_5 ?_
    refine j_getM (f := 1) E cf_X12 fl_X12_17 (lt_ rfl) rfl rfl dX12_openAll_6 ?_
    refine j_iconst E 5 ic_5 dX12_openAll_9 ?_
    refine j_ialdM E (lt_ rfl) entM1 (vi_5 (lt_ rfl)) (5) tn_5 dX12_openAll_10 ?_
    refine j_icmp_ge E 28 (by decide) dX12_openAll_11 (fun c1 => ?_) (fun c1 => ?_)
    · rw [if_pos c1] at hf
      refine j_iload_n E 1 rfl dX12_openAll_28 ?_
      cases hf
      exact j_iret E rfl (le_ rfl) (le_ rfl) dX12_openAll_29
    · rw [if_neg c1] at hf
      refine j_iload_n E 1 rfl dX12_openAll_14 ?_
      refine j_aload_n E 0 rfl dX12_openAll_15 ?_
      refine j_iload_n E 2 rfl dX12_openAll_16 ?_
      obtain ⟨r1, h1, hf⟩ := bn1_e hf
      refine j_invV [.int v1] [.int r1, .int v1] E (c_X12_openOf h1) ml_X12_212 mv_X12_openOf rfl ⟨le_ rfl, le_ rfl⟩ (rcM cf_X12) rfl rfl (le_ rfl) ⟨le_ rfl, le_ rfl⟩ dX12_openAll_17 ?_
      refine j_iadd E dX12_openAll_20 ?_
      obtain ⟨x1, hx1, hf⟩ := bnd_e hf
      refine j_name hx1 ?_
      refine j_istore_n (ls' := [(1, .int x1), (0, .ref (z + aM 0)), (2, .int v2)]) E (lt_ rfl) rfl dX12_openAll_21 ?_
      refine j_iinc (ls' := [(2, .int (v2 + 1)), (1, .int x1), (0, .ref (z + aM 0))]) E 2 rfl (lt_ rfl) (v2 + 1) (congrArg (fun q => v2 + q) ic_1) rfl dX12_openAll_22 ?_
      refine j_goto E 4 (by decide) dX12_openAll_25 ?_
      refine j_sub [2, 1, 0] rfl ?_
      exact ih _ _ hf
set_option maxRecDepth 20000 in
theorem c_X12_openAll {l : Launch} {D : DD} {z : Nat} {X : XT} {o : Int64} {f1 : Nat} {M : MT} {r : Int32} (hf : f_X12_openAll M = some r) : CC l yX12_openAll cX12_openAll 3 (some .int) (rmk 5 0 0) D z [.ref (z + aM 0)] (GG D z (X, (f1 + 1, M, o))) (some (.int r)) (GG D z (X, (f1 + 1, M, o))) := by
  unfold f_X12_openAll at hf
  refine cc_of pn_X12 (le_ rfl) (ls := [(0, .ref (z + aM 0))]) rfl ?_
  intro p e s m args below meth c E
  refine j_iconst E 0 ic_0 dX12_openAll_0 ?_
  refine j_istore_n (ls' := [(1, .int 0), (0, .ref (z + aM 0))]) E (lt_ rfl) rfl dX12_openAll_1 ?_
  refine j_iconst E 0 ic_0 dX12_openAll_2 ?_
  refine j_istore_n (ls' := [(2, .int 0), (1, .int 0), (0, .ref (z + aM 0))]) E (lt_ rfl) rfl dX12_openAll_3 ?_
  refine j_sub [2, 1, 0] rfl ?_
  exact b_X12_openAll_4 E 2000 _ _ hf
def f_X12_missingCash (M : MT) : Option (Int32 × MT) :=
  bnd (mi M 0 0 0) (fun M1 => bn1 (f_X12_openAll M1) (fun r1 => some ((if 0 < (r1 - (M1.1 1 2)) then (r1 - (M1.1 1 2)) else 0), M1)))
set_option maxRecDepth 20000 in
theorem c_X12_missingCash {l : Launch} {D : DD} {z : Nat} {X : XT} {o : Int64} {f1 : Nat} {M : MT} {r : Int32} {M' : MT} (hf : f_X12_missingCash M = some (r, M')) : CC l yX12_missingCash cX12_missingCash 1 (some .int) (rmk 6 0 0) D z [.ref (z + aM 0)] (GG D z (X, (f1 + 1, M, o))) (some (.int r)) (GG D z (X, (f1 + 1, M', o))) := by
  unfold f_X12_missingCash at hf
  refine cc_of pn_X12 (le_ rfl) (ls := [(0, .ref (z + aM 0))]) rfl ?_
  intro p e s m args below meth c E
  refine j_aload_n E 0 rfl dX12_missingCash_0 ?_
  refine j_iconst E 0 ic_0 dX12_missingCash_1 ?_
  obtain ⟨M1, hM1, hf⟩ := bnd_e hf
  refine j_putM (f := 0) E cf_X12 fl_X12_3 (lt_ rfl) ⟨rfl, rfl⟩ (fit_i _) (lt_ rfl) peM_0 hM1 dX12_missingCash_2 ?_
  refine j_iconst E 0 ic_0 dX12_missingCash_5 ?_
  refine j_aload_n E 0 rfl dX12_missingCash_6 ?_
  obtain ⟨r1, h1, hf⟩ := bn1_e hf
  refine j_invV [.int 0] [.int r1, .int 0] E (c_X12_openAll h1) ml_X12_471 mv_X12_openAll rfl ⟨le_ rfl, le_ rfl⟩ (rcM cf_X12) rfl rfl (le_ rfl) ⟨le_ rfl, le_ rfl⟩ dX12_missingCash_7 ?_
  refine j_aload_n E 0 rfl dX12_missingCash_10 ?_
  refine j_getM (f := 1) E cf_X12 fl_X12_17 (lt_ rfl) rfl rfl dX12_missingCash_11 ?_
  refine j_iconst E 2 ic_2 dX12_missingCash_14 ?_
  refine j_ialdM E (lt_ rfl) entM1 (vi_2 (lt_ rfl)) (2) tn_2 dX12_missingCash_15 ?_
  refine j_isub E dX12_missingCash_16 ?_
  refine j_max [] E ml_X12_299 st_Lib_Math_max_name in_J9 cd_Lib_Math_max_name (le_ rfl) (le_ rfl) (le_ rfl) (le_ rfl) dX12_missingCash_17 ?_
  cases hf
  exact j_iret E rfl (le_ rfl) (le_ rfl) dX12_missingCash_20
def f_X12_cash (M : MT) : Option (Int32 × MT) :=
  bn2 (f_X12_tell M 2) (fun r1 M1 => some (r1, M1))
set_option maxRecDepth 20000 in
theorem c_X12_cash {l : Launch} {D : DD} {z : Nat} {X : XT} {o : Int64} {f1 : Nat} {M : MT} {r : Int32} {M' : MT} (hf : f_X12_cash M = some (r, M')) : CC l yX12_cash cX12_cash 1 (some .int) (rmk 2 0 0) D z [.ref (z + aM 0)] (GG D z (X, (f1 + 1, M, o))) (some (.int r)) (GG D z (X, (f1 + 1, M', o))) := by
  unfold f_X12_cash at hf
  refine cc_of pn_X12 (le_ rfl) (ls := [(0, .ref (z + aM 0))]) rfl ?_
  intro p e s m args below meth c E
  refine j_aload_n E 0 rfl dX12_cash_0 ?_
  refine j_iconst E 2 ic_2 dX12_cash_1 ?_
  obtain ⟨r1, M1, h1, hf⟩ := bn2_e hf
  refine j_invV [] [.int r1] E (c_X12_tell h1) ml_X12_412 mv_X12_tell rfl ⟨le_ rfl, le_ rfl⟩ (rcM cf_X12) rfl rfl (le_ rfl) ⟨le_ rfl, le_ rfl⟩ dX12_cash_2 ?_
  cases hf
  exact j_iret E rfl (le_ rfl) (le_ rfl) dX12_cash_5
def f_X12_owedToAll (M : MT) : Option (Int32 × MT) :=
  bnd (mi M 0 0 0) (fun M1 => bn1 (f_X12_openAll M1) (fun r1 => some (r1, M1)))
set_option maxRecDepth 20000 in
theorem c_X12_owedToAll {l : Launch} {D : DD} {z : Nat} {X : XT} {o : Int64} {f1 : Nat} {M : MT} {r : Int32} {M' : MT} (hf : f_X12_owedToAll M = some (r, M')) : CC l yX12_owedToAll cX12_owedToAll 1 (some .int) (rmk 6 0 0) D z [.ref (z + aM 0)] (GG D z (X, (f1 + 1, M, o))) (some (.int r)) (GG D z (X, (f1 + 1, M', o))) := by
  unfold f_X12_owedToAll at hf
  refine cc_of pn_X12 (le_ rfl) (ls := [(0, .ref (z + aM 0))]) rfl ?_
  intro p e s m args below meth c E
  refine j_aload_n E 0 rfl dX12_owedToAll_0 ?_
  refine j_iconst E 0 ic_0 dX12_owedToAll_1 ?_
  obtain ⟨M1, hM1, hf⟩ := bnd_e hf
  refine j_putM (f := 0) E cf_X12 fl_X12_3 (lt_ rfl) ⟨rfl, rfl⟩ (fit_i _) (lt_ rfl) peM_0 hM1 dX12_owedToAll_2 ?_
  refine j_aload_n E 0 rfl dX12_owedToAll_5 ?_
  obtain ⟨r1, h1, hf⟩ := bn1_e hf
  refine j_invV [] [.int r1] E (c_X12_openAll h1) ml_X12_471 mv_X12_openAll rfl ⟨le_ rfl, le_ rfl⟩ (rcM cf_X12) rfl rfl (le_ rfl) ⟨le_ rfl, le_ rfl⟩ dX12_owedToAll_6 ?_
  cases hf
  exact j_iret E rfl (le_ rfl) (le_ rfl) dX12_owedToAll_9
def f_X12_payableGrowers_16 : Nat → MT → Int32 → Int32 → Int32 → Option (Int32 × MT)
  | 0, _, _, _, _ => none
  | n + 1, M, v1, v2, v3 => if (M.1 1 5) ≤ v3 then (some (v2, M)) else (bn1 (f_X12_openOf M v3) (fun r1 => if r1 ≤ v1 then (if r1 ≤ 0 then (bnd (v2 + 0) (fun x1 => bnd (v1 - r1) (fun x2 => f_X12_payableGrowers_16 n M x2 x1 (v3 + 1)))) else (bnd (v2 + 1) (fun x3 => bnd (v1 - r1) (fun x4 => f_X12_payableGrowers_16 n M x4 x3 (v3 + 1))))) else (some (v2, M))))
def f_X12_payableGrowers (M : MT) : Option (Int32 × MT) :=
  bnd (mi M 0 0 0) (fun M1 => f_X12_payableGrowers_16 2000 M1 (M1.1 1 2) 0 0)
set_option maxRecDepth 20000 in
theorem b_X12_payableGrowers_16 {p : Program} {l : Launch} {e : Env} {s : State} {m : MethodId} {args : Array Value} {below : List Frame} {meth : Method} {c : Code} {D : DD} {z : Nat} {X : XT} {o : Int64} {f1 : Nat} (E : Cx p s m args meth c D z RX12 cX12_payableGrowers 5 (some .int)) {r : Int32} {M' : MT} : ∀ (n : Nat) (M : MT) (v1 : Int32) (v2 : Int32) (v3 : Int32) (hf : f_X12_payableGrowers_16 n M v1 v2 v3 = some (r, M')), J p l e (rmk 5 0 0) s m args below meth c D z (GG D z (X, (f1 + 1, M, o))) 0 0 (MQ below (QC z (some (.int r)) (GG D z (X, (f1 + 1, M', o)))) args s (rmk 5 0 0).cells (rmk 5 0 0).slots (Az z)) 5 16 [(0, .ref (z + aM 0)), (1, .int v1), (2, .int v2), (3, .int v3)] [] := by
  intro n
  induction n with
  | zero =>
    intro M v1 v2 v3 hf
    exact none_e hf
  | succ n ih =>
    intro M v1 v2 v3 hf
    rw [f_X12_payableGrowers_16] at hf
    refine j_iload_n E 3 rfl dX12_payableGrowers_16 ?_
    refine j_aload_n E 0 rfl dX12_payableGrowers_17 ?_
    refine j_getM (f := 1) E cf_X12 fl_X12_17 (lt_ rfl) rfl rfl dX12_payableGrowers_18 ?_
    refine j_iconst E 5 ic_5 dX12_payableGrowers_21 ?_
    refine j_ialdM E (lt_ rfl) entM1 (vi_5 (lt_ rfl)) (5) tn_5 dX12_payableGrowers_22 ?_
    refine j_icmp_ge E 65 (by decide) dX12_payableGrowers_23 (fun c1 => ?_) (fun c1 => ?_)
    · rw [if_pos c1] at hf
      refine j_iload_n E 2 rfl dX12_payableGrowers_65 ?_
      cases hf
      exact j_iret E rfl (le_ rfl) (le_ rfl) dX12_payableGrowers_66
    · rw [if_neg c1] at hf
      refine j_aload_n E 0 rfl dX12_payableGrowers_26 ?_
      refine j_iload_n E 3 rfl dX12_payableGrowers_27 ?_
      obtain ⟨r1, h1, hf⟩ := bn1_e hf
      refine j_invV [] [.int r1] E (c_X12_openOf h1) ml_X12_212 mv_X12_openOf rfl ⟨le_ rfl, le_ rfl⟩ (rcM cf_X12) rfl rfl (le_ rfl) ⟨le_ rfl, le_ rfl⟩ dX12_payableGrowers_28 ?_
      refine j_istore (ls' := [(4, .int r1), (0, .ref (z + aM 0)), (1, .int v1), (2, .int v2), (3, .int v3)]) E (lt_ rfl) rfl dX12_payableGrowers_31 ?_
      refine j_iload E 0 rfl dX12_payableGrowers_33 ?_
      refine j_iload_n E 2 rfl dX12_payableGrowers_35 ?_
      refine j_icmp_le E 41 (by decide) dX12_payableGrowers_36 (fun c2 => ?_) (fun c2 => ?_)
      · rw [if_pos c2] at hf
        refine j_iload_n E 3 rfl dX12_payableGrowers_41 ?_
        refine j_iload E 0 rfl dX12_payableGrowers_42 ?_
        refine j_if_le E 51 (by decide) dX12_payableGrowers_44 (fun c3 => ?_) (fun c3 => ?_)
        · rw [if_pos c3] at hf
          refine j_iconst E 0 ic_0 dX12_payableGrowers_51 ?_
          refine j_iadd E dX12_payableGrowers_52 ?_
          obtain ⟨x1, hx1, hf⟩ := bnd_e hf
          refine j_name hx1 ?_
          refine j_istore_n (ls' := [(2, .int x1), (4, .int r1), (0, .ref (z + aM 0)), (1, .int v1), (3, .int v3)]) E (lt_ rfl) rfl dX12_payableGrowers_53 ?_
          refine j_iload_n E 3 rfl dX12_payableGrowers_54 ?_
          refine j_iload E 1 rfl dX12_payableGrowers_55 ?_
          refine j_isub E dX12_payableGrowers_57 ?_
          obtain ⟨x2, hx2, hf⟩ := bnd_e hf
          refine j_name hx2 ?_
          refine j_istore_n (ls' := [(1, .int x2), (2, .int x1), (4, .int r1), (0, .ref (z + aM 0)), (3, .int v3)]) E (lt_ rfl) rfl dX12_payableGrowers_58 ?_
          refine j_iinc (ls' := [(3, .int (v3 + 1)), (1, .int x2), (2, .int x1), (4, .int r1), (0, .ref (z + aM 0))]) E 4 rfl (lt_ rfl) (v3 + 1) (congrArg (fun q => v3 + q) ic_1) rfl dX12_payableGrowers_59 ?_
          refine j_goto E 16 (by decide) dX12_payableGrowers_62 ?_
          refine j_sub [4, 1, 2, 0] rfl ?_
          exact ih _ _ _ _ hf
        · rw [if_neg c3] at hf
          refine j_iconst E 1 ic_1 dX12_payableGrowers_47 ?_
          refine j_goto E 52 (by decide) dX12_payableGrowers_48 ?_
          refine j_iadd E dX12_payableGrowers_52 ?_
          obtain ⟨x3, hx3, hf⟩ := bnd_e hf
          refine j_name hx3 ?_
          refine j_istore_n (ls' := [(2, .int x3), (4, .int r1), (0, .ref (z + aM 0)), (1, .int v1), (3, .int v3)]) E (lt_ rfl) rfl dX12_payableGrowers_53 ?_
          refine j_iload_n E 3 rfl dX12_payableGrowers_54 ?_
          refine j_iload E 1 rfl dX12_payableGrowers_55 ?_
          refine j_isub E dX12_payableGrowers_57 ?_
          obtain ⟨x4, hx4, hf⟩ := bnd_e hf
          refine j_name hx4 ?_
          refine j_istore_n (ls' := [(1, .int x4), (2, .int x3), (4, .int r1), (0, .ref (z + aM 0)), (3, .int v3)]) E (lt_ rfl) rfl dX12_payableGrowers_58 ?_
          refine j_iinc (ls' := [(3, .int (v3 + 1)), (1, .int x4), (2, .int x3), (4, .int r1), (0, .ref (z + aM 0))]) E 4 rfl (lt_ rfl) (v3 + 1) (congrArg (fun q => v3 + q) ic_1) rfl dX12_payableGrowers_59 ?_
          refine j_goto E 16 (by decide) dX12_payableGrowers_62 ?_
          refine j_sub [4, 1, 2, 0] rfl ?_
          exact ih _ _ _ _ hf
      · rw [if_neg c2] at hf
        refine j_iload_n E 3 rfl dX12_payableGrowers_39 ?_
        cases hf
        exact j_iret E rfl (le_ rfl) (le_ rfl) dX12_payableGrowers_40
set_option maxRecDepth 20000 in
theorem c_X12_payableGrowers {l : Launch} {D : DD} {z : Nat} {X : XT} {o : Int64} {f1 : Nat} {M : MT} {r : Int32} {M' : MT} (hf : f_X12_payableGrowers M = some (r, M')) : CC l yX12_payableGrowers cX12_payableGrowers 5 (some .int) (rmk 5 0 0) D z [.ref (z + aM 0)] (GG D z (X, (f1 + 1, M, o))) (some (.int r)) (GG D z (X, (f1 + 1, M', o))) := by
  unfold f_X12_payableGrowers at hf
  refine cc_of pn_X12 (le_ rfl) (ls := [(0, .ref (z + aM 0))]) rfl ?_
  intro p e s m args below meth c E
  refine j_aload_n E 0 rfl dX12_payableGrowers_0 ?_
  refine j_iconst E 0 ic_0 dX12_payableGrowers_1 ?_
  obtain ⟨M1, hM1, hf⟩ := bnd_e hf
  refine j_putM (f := 0) E cf_X12 fl_X12_3 (lt_ rfl) ⟨rfl, rfl⟩ (fit_i _) (lt_ rfl) peM_0 hM1 dX12_payableGrowers_2 ?_
  refine j_aload_n E 0 rfl dX12_payableGrowers_5 ?_
  refine j_getM (f := 1) E cf_X12 fl_X12_17 (lt_ rfl) rfl rfl dX12_payableGrowers_6 ?_
  refine j_iconst E 2 ic_2 dX12_payableGrowers_9 ?_
  refine j_ialdM E (lt_ rfl) entM1 (vi_2 (lt_ rfl)) (2) tn_2 dX12_payableGrowers_10 ?_
  refine j_istore_n (ls' := [(1, .int (M1.1 1 2)), (0, .ref (z + aM 0))]) E (lt_ rfl) rfl dX12_payableGrowers_11 ?_
  refine j_iconst E 0 ic_0 dX12_payableGrowers_12 ?_
  refine j_istore_n (ls' := [(2, .int 0), (1, .int (M1.1 1 2)), (0, .ref (z + aM 0))]) E (lt_ rfl) rfl dX12_payableGrowers_13 ?_
  refine j_iconst E 0 ic_0 dX12_payableGrowers_14 ?_
  refine j_istore_n (ls' := [(3, .int 0), (2, .int 0), (1, .int (M1.1 1 2)), (0, .ref (z + aM 0))]) E (lt_ rfl) rfl dX12_payableGrowers_15 ?_
  refine j_sub [3, 2, 1, 0] rfl ?_
  exact b_X12_payableGrowers_16 E 2000 _ _ _ _ hf
def f_X12_weightAll_4 (M : MT) : Nat → Int32 → Int32 → Option Int32
  | 0, _, _ => none
  | n + 1, v1, v2 => if (M.1 1 7) ≤ v2 then (some v1) else (bn1 (f_X12_ofLoad M v2 1) (fun r1 => bnd (v1 + r1) (fun x1 => f_X12_weightAll_4 M n x1 (v2 + 1))))
def f_X12_weightAll (M : MT) : Option Int32 :=
  f_X12_weightAll_4 M 2000 0 0
set_option maxRecDepth 20000 in
theorem b_X12_weightAll_4 {p : Program} {l : Launch} {e : Env} {s : State} {m : MethodId} {args : Array Value} {below : List Frame} {meth : Method} {c : Code} {D : DD} {z : Nat} {X : XT} {o : Int64} {f1 : Nat} {M : MT} (E : Cx p s m args meth c D z RX12 cX12_weightAll 3 (some .int)) {r : Int32} : ∀ (n : Nat) (v1 : Int32) (v2 : Int32) (hf : f_X12_weightAll_4 M n v1 v2 = some r), J p l e (rmk 2 0 0) s m args below meth c D z (GG D z (X, (f1 + 1, M, o))) 0 0 (MQ below (QC z (some (.int r)) (GG D z (X, (f1 + 1, M, o)))) args s (rmk 2 0 0).cells (rmk 2 0 0).slots (Az z)) 3 4 [(0, .ref (z + aM 0)), (1, .int v1), (2, .int v2)] [] := by
  intro n
  induction n with
  | zero =>
    intro v1 v2 hf
    exact none_e hf
  | succ n ih =>
    intro v1 v2 hf
    rw [f_X12_weightAll_4] at hf
    refine j_iload_n E 2 rfl dX12_weightAll_4 ?_
    refine j_aload_n E 0 rfl dX12_weightAll_5 ?_
    refine j_getM (f := 1) E cf_X12 fl_X12_17 (lt_ rfl) rfl rfl dX12_weightAll_6 ?_
    refine j_bipush E 7 bp_7 dX12_weightAll_9 ?_
    refine j_ialdM E (lt_ rfl) entM1 (vi_7 (lt_ rfl)) (7) tn_7 dX12_weightAll_11 ?_
    refine j_icmp_ge E 30 (by decide) dX12_weightAll_12 (fun c1 => ?_) (fun c1 => ?_)
    · rw [if_pos c1] at hf
      refine j_iload_n E 1 rfl dX12_weightAll_30 ?_
      cases hf
      exact j_iret E rfl (le_ rfl) (le_ rfl) dX12_weightAll_31
    · rw [if_neg c1] at hf
      refine j_iload_n E 1 rfl dX12_weightAll_15 ?_
      refine j_aload_n E 0 rfl dX12_weightAll_16 ?_
      refine j_iload_n E 2 rfl dX12_weightAll_17 ?_
      refine j_iconst E 1 ic_1 dX12_weightAll_18 ?_
      obtain ⟨r1, h1, hf⟩ := bn1_e hf
      refine j_invV [.int v1] [.int r1, .int v1] E (c_X12_ofLoad h1) ml_X12_148 mv_X12_ofLoad rfl ⟨le_ rfl, le_ rfl⟩ (rcM cf_X12) rfl rfl (le_ rfl) ⟨le_ rfl, le_ rfl⟩ dX12_weightAll_19 ?_
      refine j_iadd E dX12_weightAll_22 ?_
      obtain ⟨x1, hx1, hf⟩ := bnd_e hf
      refine j_name hx1 ?_
      refine j_istore_n (ls' := [(1, .int x1), (0, .ref (z + aM 0)), (2, .int v2)]) E (lt_ rfl) rfl dX12_weightAll_23 ?_
      refine j_iinc (ls' := [(2, .int (v2 + 1)), (1, .int x1), (0, .ref (z + aM 0))]) E 2 rfl (lt_ rfl) (v2 + 1) (congrArg (fun q => v2 + q) ic_1) rfl dX12_weightAll_24 ?_
      refine j_goto E 4 (by decide) dX12_weightAll_27 ?_
      refine j_sub [2, 1, 0] rfl ?_
      exact ih _ _ hf
set_option maxRecDepth 20000 in
theorem c_X12_weightAll {l : Launch} {D : DD} {z : Nat} {X : XT} {o : Int64} {f1 : Nat} {M : MT} {r : Int32} (hf : f_X12_weightAll M = some r) : CC l yX12_weightAll cX12_weightAll 3 (some .int) (rmk 2 0 0) D z [.ref (z + aM 0)] (GG D z (X, (f1 + 1, M, o))) (some (.int r)) (GG D z (X, (f1 + 1, M, o))) := by
  unfold f_X12_weightAll at hf
  refine cc_of pn_X12 (le_ rfl) (ls := [(0, .ref (z + aM 0))]) rfl ?_
  intro p e s m args below meth c E
  refine j_iconst E 0 ic_0 dX12_weightAll_0 ?_
  refine j_istore_n (ls' := [(1, .int 0), (0, .ref (z + aM 0))]) E (lt_ rfl) rfl dX12_weightAll_1 ?_
  refine j_iconst E 0 ic_0 dX12_weightAll_2 ?_
  refine j_istore_n (ls' := [(2, .int 0), (1, .int 0), (0, .ref (z + aM 0))]) E (lt_ rfl) rfl dX12_weightAll_3 ?_
  refine j_sub [2, 1, 0] rfl ?_
  exact b_X12_weightAll_4 E 2000 _ _ hf
def f_X12_contentAll_4 (M : MT) : Nat → Int32 → Int32 → Option Int32
  | 0, _, _ => none
  | n + 1, v1, v2 => if (M.1 1 8) ≤ v2 then (some v1) else (bn1 (f_X12_ofTank M v2 1) (fun r1 => bnd (v1 + r1) (fun x1 => f_X12_contentAll_4 M n x1 (v2 + 1))))
def f_X12_contentAll (M : MT) : Option Int32 :=
  f_X12_contentAll_4 M 2000 0 0
set_option maxRecDepth 20000 in
theorem b_X12_contentAll_4 {p : Program} {l : Launch} {e : Env} {s : State} {m : MethodId} {args : Array Value} {below : List Frame} {meth : Method} {c : Code} {D : DD} {z : Nat} {X : XT} {o : Int64} {f1 : Nat} {M : MT} (E : Cx p s m args meth c D z RX12 cX12_contentAll 3 (some .int)) {r : Int32} : ∀ (n : Nat) (v1 : Int32) (v2 : Int32) (hf : f_X12_contentAll_4 M n v1 v2 = some r), J p l e (rmk 2 0 0) s m args below meth c D z (GG D z (X, (f1 + 1, M, o))) 0 0 (MQ below (QC z (some (.int r)) (GG D z (X, (f1 + 1, M, o)))) args s (rmk 2 0 0).cells (rmk 2 0 0).slots (Az z)) 3 4 [(0, .ref (z + aM 0)), (1, .int v1), (2, .int v2)] [] := by
  intro n
  induction n with
  | zero =>
    intro v1 v2 hf
    exact none_e hf
  | succ n ih =>
    intro v1 v2 hf
    rw [f_X12_contentAll_4] at hf
    refine j_iload_n E 2 rfl dX12_contentAll_4 ?_
    refine j_aload_n E 0 rfl dX12_contentAll_5 ?_
    refine j_getM (f := 1) E cf_X12 fl_X12_17 (lt_ rfl) rfl rfl dX12_contentAll_6 ?_
    refine j_bipush E 8 bp_8 dX12_contentAll_9 ?_
    refine j_ialdM E (lt_ rfl) entM1 (vi_8 (lt_ rfl)) (8) tn_8 dX12_contentAll_11 ?_
    refine j_icmp_ge E 30 (by decide) dX12_contentAll_12 (fun c1 => ?_) (fun c1 => ?_)
    · rw [if_pos c1] at hf
      refine j_iload_n E 1 rfl dX12_contentAll_30 ?_
      cases hf
      exact j_iret E rfl (le_ rfl) (le_ rfl) dX12_contentAll_31
    · rw [if_neg c1] at hf
      refine j_iload_n E 1 rfl dX12_contentAll_15 ?_
      refine j_aload_n E 0 rfl dX12_contentAll_16 ?_
      refine j_iload_n E 2 rfl dX12_contentAll_17 ?_
      refine j_iconst E 1 ic_1 dX12_contentAll_18 ?_
      obtain ⟨r1, h1, hf⟩ := bn1_e hf
      refine j_invV [.int v1] [.int r1, .int v1] E (c_X12_ofTank h1) ml_X12_151 mv_X12_ofTank rfl ⟨le_ rfl, le_ rfl⟩ (rcM cf_X12) rfl rfl (le_ rfl) ⟨le_ rfl, le_ rfl⟩ dX12_contentAll_19 ?_
      refine j_iadd E dX12_contentAll_22 ?_
      obtain ⟨x1, hx1, hf⟩ := bnd_e hf
      refine j_name hx1 ?_
      refine j_istore_n (ls' := [(1, .int x1), (0, .ref (z + aM 0)), (2, .int v2)]) E (lt_ rfl) rfl dX12_contentAll_23 ?_
      refine j_iinc (ls' := [(2, .int (v2 + 1)), (1, .int x1), (0, .ref (z + aM 0))]) E 2 rfl (lt_ rfl) (v2 + 1) (congrArg (fun q => v2 + q) ic_1) rfl dX12_contentAll_24 ?_
      refine j_goto E 4 (by decide) dX12_contentAll_27 ?_
      refine j_sub [2, 1, 0] rfl ?_
      exact ih _ _ hf
set_option maxRecDepth 20000 in
theorem c_X12_contentAll {l : Launch} {D : DD} {z : Nat} {X : XT} {o : Int64} {f1 : Nat} {M : MT} {r : Int32} (hf : f_X12_contentAll M = some r) : CC l yX12_contentAll cX12_contentAll 3 (some .int) (rmk 2 0 0) D z [.ref (z + aM 0)] (GG D z (X, (f1 + 1, M, o))) (some (.int r)) (GG D z (X, (f1 + 1, M, o))) := by
  unfold f_X12_contentAll at hf
  refine cc_of pn_X12 (le_ rfl) (ls := [(0, .ref (z + aM 0))]) rfl ?_
  intro p e s m args below meth c E
  refine j_iconst E 0 ic_0 dX12_contentAll_0 ?_
  refine j_istore_n (ls' := [(1, .int 0), (0, .ref (z + aM 0))]) E (lt_ rfl) rfl dX12_contentAll_1 ?_
  refine j_iconst E 0 ic_0 dX12_contentAll_2 ?_
  refine j_istore_n (ls' := [(2, .int 0), (1, .int 0), (0, .ref (z + aM 0))]) E (lt_ rfl) rfl dX12_contentAll_3 ?_
  refine j_sub [2, 1, 0] rfl ?_
  exact b_X12_contentAll_4 E 2000 _ _ hf
def f_X12_bottleDifference_9 : Nat → MT → Int32 → Int32 → Option (Int32 × MT)
  | 0, _, _, _ => none
  | n + 1, M, v1, v2 => if (M.1 1 9) ≤ v2 then (bn1 (f_X12_weightAll M) (fun r1 => bn1 (f_X12_contentAll M) (fun r2 => some (((r1 - r2) - v1), M)))) else (bn1 (f_X12_ofLot M v2 2) (fun r3 => bnd (v1 + r3) (fun x1 => f_X12_bottleDifference_9 n M x1 (v2 + 1))))
def f_X12_bottleDifference (M : MT) : Option (Int32 × MT) :=
  bnd (mi M 0 0 0) (fun M1 => f_X12_bottleDifference_9 2000 M1 0 0)
set_option maxRecDepth 20000 in
theorem b_X12_bottleDifference_9 {p : Program} {l : Launch} {e : Env} {s : State} {m : MethodId} {args : Array Value} {below : List Frame} {meth : Method} {c : Code} {D : DD} {z : Nat} {X : XT} {o : Int64} {f1 : Nat} (E : Cx p s m args meth c D z RX12 cX12_bottleDifference 3 (some .int)) {r : Int32} {M' : MT} : ∀ (n : Nat) (M : MT) (v1 : Int32) (v2 : Int32) (hf : f_X12_bottleDifference_9 n M v1 v2 = some (r, M')), J p l e (rmk 3 0 0) s m args below meth c D z (GG D z (X, (f1 + 1, M, o))) 0 0 (MQ below (QC z (some (.int r)) (GG D z (X, (f1 + 1, M', o)))) args s (rmk 3 0 0).cells (rmk 3 0 0).slots (Az z)) 3 9 [(0, .ref (z + aM 0)), (1, .int v1), (2, .int v2)] [] := by
  intro n
  induction n with
  | zero =>
    intro M v1 v2 hf
    exact none_e hf
  | succ n ih =>
    intro M v1 v2 hf
    rw [f_X12_bottleDifference_9] at hf
    refine j_iload_n E 2 rfl dX12_bottleDifference_9 ?_
    refine j_aload_n E 0 rfl dX12_bottleDifference_10 ?_
    refine j_getM (f := 1) E cf_X12 fl_X12_17 (lt_ rfl) rfl rfl dX12_bottleDifference_11 ?_
    refine j_bipush E 9 bp_9 dX12_bottleDifference_14 ?_
    refine j_ialdM E (lt_ rfl) entM1 (vi_9 (lt_ rfl)) (9) tn_9 dX12_bottleDifference_16 ?_
    refine j_icmp_ge E 35 (by decide) dX12_bottleDifference_17 (fun c1 => ?_) (fun c1 => ?_)
    · rw [if_pos c1] at hf
      refine j_aload_n E 0 rfl dX12_bottleDifference_35 ?_
      obtain ⟨r1, h1, hf⟩ := bn1_e hf
      refine j_invV [] [.int r1] E (c_X12_weightAll h1) ml_X12_474 mv_X12_weightAll rfl ⟨le_ rfl, le_ rfl⟩ (rcM cf_X12) rfl rfl (le_ rfl) ⟨le_ rfl, le_ rfl⟩ dX12_bottleDifference_36 ?_
      refine j_aload_n E 0 rfl dX12_bottleDifference_39 ?_
      obtain ⟨r2, h2, hf⟩ := bn1_e hf
      refine j_invV [.int r1] [.int r2, .int r1] E (c_X12_contentAll h2) ml_X12_477 mv_X12_contentAll rfl ⟨le_ rfl, le_ rfl⟩ (rcM cf_X12) rfl rfl (le_ rfl) ⟨le_ rfl, le_ rfl⟩ dX12_bottleDifference_40 ?_
      refine j_isub E dX12_bottleDifference_43 ?_
      refine j_iload_n E 1 rfl dX12_bottleDifference_44 ?_
      refine j_isub E dX12_bottleDifference_45 ?_
      cases hf
      exact j_iret E rfl (le_ rfl) (le_ rfl) dX12_bottleDifference_46
    · rw [if_neg c1] at hf
      refine j_iload_n E 1 rfl dX12_bottleDifference_20 ?_
      refine j_aload_n E 0 rfl dX12_bottleDifference_21 ?_
      refine j_iload_n E 2 rfl dX12_bottleDifference_22 ?_
      refine j_iconst E 2 ic_2 dX12_bottleDifference_23 ?_
      obtain ⟨r3, h3, hf⟩ := bn1_e hf
      refine j_invV [.int v1] [.int r3, .int v1] E (c_X12_ofLot h3) ml_X12_198 mv_X12_ofLot rfl ⟨le_ rfl, le_ rfl⟩ (rcM cf_X12) rfl rfl (le_ rfl) ⟨le_ rfl, le_ rfl⟩ dX12_bottleDifference_24 ?_
      refine j_iadd E dX12_bottleDifference_27 ?_
      obtain ⟨x1, hx1, hf⟩ := bnd_e hf
      refine j_name hx1 ?_
      refine j_istore_n (ls' := [(1, .int x1), (0, .ref (z + aM 0)), (2, .int v2)]) E (lt_ rfl) rfl dX12_bottleDifference_28 ?_
      refine j_iinc (ls' := [(2, .int (v2 + 1)), (1, .int x1), (0, .ref (z + aM 0))]) E 2 rfl (lt_ rfl) (v2 + 1) (congrArg (fun q => v2 + q) ic_1) rfl dX12_bottleDifference_29 ?_
      refine j_goto E 9 (by decide) dX12_bottleDifference_32 ?_
      refine j_sub [2, 1, 0] rfl ?_
      exact ih _ _ _ hf
set_option maxRecDepth 20000 in
theorem c_X12_bottleDifference {l : Launch} {D : DD} {z : Nat} {X : XT} {o : Int64} {f1 : Nat} {M : MT} {r : Int32} {M' : MT} (hf : f_X12_bottleDifference M = some (r, M')) : CC l yX12_bottleDifference cX12_bottleDifference 3 (some .int) (rmk 3 0 0) D z [.ref (z + aM 0)] (GG D z (X, (f1 + 1, M, o))) (some (.int r)) (GG D z (X, (f1 + 1, M', o))) := by
  unfold f_X12_bottleDifference at hf
  refine cc_of pn_X12 (le_ rfl) (ls := [(0, .ref (z + aM 0))]) rfl ?_
  intro p e s m args below meth c E
  refine j_aload_n E 0 rfl dX12_bottleDifference_0 ?_
  refine j_iconst E 0 ic_0 dX12_bottleDifference_1 ?_
  obtain ⟨M1, hM1, hf⟩ := bnd_e hf
  refine j_putM (f := 0) E cf_X12 fl_X12_3 (lt_ rfl) ⟨rfl, rfl⟩ (fit_i _) (lt_ rfl) peM_0 hM1 dX12_bottleDifference_2 ?_
  refine j_iconst E 0 ic_0 dX12_bottleDifference_5 ?_
  refine j_istore_n (ls' := [(1, .int 0), (0, .ref (z + aM 0))]) E (lt_ rfl) rfl dX12_bottleDifference_6 ?_
  refine j_iconst E 0 ic_0 dX12_bottleDifference_7 ?_
  refine j_istore_n (ls' := [(2, .int 0), (1, .int 0), (0, .ref (z + aM 0))]) E (lt_ rfl) rfl dX12_bottleDifference_8 ?_
  refine j_sub [2, 1, 0] rfl ?_
  exact b_X12_bottleDifference_9 E 2000 _ _ _ hf
def f_X12_cashDifference (M : MT) : Option (Int32 × MT) :=
  bnd (mi M 0 0 0) (fun M1 => some (((((M1.1 1 1) + (M1.1 1 10)) - (M1.1 1 11)) - (M1.1 1 2)), M1))
set_option maxRecDepth 20000 in
theorem c_X12_cashDifference {l : Launch} {D : DD} {z : Nat} {X : XT} {o : Int64} {f1 : Nat} {M : MT} {r : Int32} {M' : MT} (hf : f_X12_cashDifference M = some (r, M')) : CC l yX12_cashDifference cX12_cashDifference 1 (some .int) (rmk 1 0 0) D z [.ref (z + aM 0)] (GG D z (X, (f1 + 1, M, o))) (some (.int r)) (GG D z (X, (f1 + 1, M', o))) := by
  unfold f_X12_cashDifference at hf
  refine cc_of pn_X12 (le_ rfl) (ls := [(0, .ref (z + aM 0))]) rfl ?_
  intro p e s m args below meth c E
  refine j_aload_n E 0 rfl dX12_cashDifference_0 ?_
  refine j_iconst E 0 ic_0 dX12_cashDifference_1 ?_
  obtain ⟨M1, hM1, hf⟩ := bnd_e hf
  refine j_putM (f := 0) E cf_X12 fl_X12_3 (lt_ rfl) ⟨rfl, rfl⟩ (fit_i _) (lt_ rfl) peM_0 hM1 dX12_cashDifference_2 ?_
  refine j_aload_n E 0 rfl dX12_cashDifference_5 ?_
  refine j_getM (f := 1) E cf_X12 fl_X12_17 (lt_ rfl) rfl rfl dX12_cashDifference_6 ?_
  refine j_iconst E 1 ic_1 dX12_cashDifference_9 ?_
  refine j_ialdM E (lt_ rfl) entM1 (vi_1 (lt_ rfl)) (1) tn_1 dX12_cashDifference_10 ?_
  refine j_aload_n E 0 rfl dX12_cashDifference_11 ?_
  refine j_getM (f := 1) E cf_X12 fl_X12_17 (lt_ rfl) rfl rfl dX12_cashDifference_12 ?_
  refine j_bipush E 10 bp_10 dX12_cashDifference_15 ?_
  refine j_ialdM E (lt_ rfl) entM1 (vi_10 (lt_ rfl)) (10) tn_10 dX12_cashDifference_17 ?_
  refine j_iadd E dX12_cashDifference_18 ?_
  refine j_aload_n E 0 rfl dX12_cashDifference_19 ?_
  refine j_getM (f := 1) E cf_X12 fl_X12_17 (lt_ rfl) rfl rfl dX12_cashDifference_20 ?_
  refine j_bipush E 11 bp_11 dX12_cashDifference_23 ?_
  refine j_ialdM E (lt_ rfl) entM1 (vi_11 (lt_ rfl)) (11) tn_11 dX12_cashDifference_25 ?_
  refine j_isub E dX12_cashDifference_26 ?_
  refine j_aload_n E 0 rfl dX12_cashDifference_27 ?_
  refine j_getM (f := 1) E cf_X12 fl_X12_17 (lt_ rfl) rfl rfl dX12_cashDifference_28 ?_
  refine j_iconst E 2 ic_2 dX12_cashDifference_31 ?_
  refine j_ialdM E (lt_ rfl) entM1 (vi_2 (lt_ rfl)) (2) tn_2 dX12_cashDifference_32 ?_
  refine j_isub E dX12_cashDifference_33 ?_
  cases hf
  exact j_iret E rfl (le_ rfl) (le_ rfl) dX12_cashDifference_34
def f_X12_fullness_9 : Nat → MT → Int32 → Int32 → Option (UInt32 × MT)
  | 0, _, _, _ => none
  | n + 1, M, v1, v2 => if (M.1 1 8) ≤ v2 then (if v1 = 0 then (some (FP.fconst0, M)) else (bn1 (f_X12_contentAll M) (fun r1 => gd ((FP.fdiv (FP.i2f r1) (FP.i2f v1)) &&& 0x7fffffff ≤ 0x7f800000) (some ((FP.fdiv (FP.i2f r1) (FP.i2f v1)), M))))) else (bn1 (f_X12_ofTank M v2 0) (fun r2 => bnd (v1 + r2) (fun x1 => f_X12_fullness_9 n M x1 (v2 + 1))))
def f_X12_fullness (M : MT) : Option (UInt32 × MT) :=
  bnd (mi M 0 0 0) (fun M1 => f_X12_fullness_9 2000 M1 0 0)
set_option maxRecDepth 20000 in
theorem b_X12_fullness_9 {p : Program} {l : Launch} {e : Env} {s : State} {m : MethodId} {args : Array Value} {below : List Frame} {meth : Method} {c : Code} {D : DD} {z : Nat} {X : XT} {o : Int64} {f1 : Nat} (E : Cx p s m args meth c D z RX12 cX12_fullness 3 (some .float)) {r : UInt32} {M' : MT} : ∀ (n : Nat) (M : MT) (v1 : Int32) (v2 : Int32) (hf : f_X12_fullness_9 n M v1 v2 = some (r, M')), J p l e (rmk 3 0 0) s m args below meth c D z (GG D z (X, (f1 + 1, M, o))) 0 0 (MQ below (QC z (some (.float r)) (GG D z (X, (f1 + 1, M', o)))) args s (rmk 3 0 0).cells (rmk 3 0 0).slots (Az z)) 3 9 [(0, .ref (z + aM 0)), (1, .int v1), (2, .int v2)] [] := by
  intro n
  induction n with
  | zero =>
    intro M v1 v2 hf
    exact none_e hf
  | succ n ih =>
    intro M v1 v2 hf
    rw [f_X12_fullness_9] at hf
    refine j_iload_n E 2 rfl dX12_fullness_9 ?_
    refine j_aload_n E 0 rfl dX12_fullness_10 ?_
    refine j_getM (f := 1) E cf_X12 fl_X12_17 (lt_ rfl) rfl rfl dX12_fullness_11 ?_
    refine j_bipush E 8 bp_8 dX12_fullness_14 ?_
    refine j_ialdM E (lt_ rfl) entM1 (vi_8 (lt_ rfl)) (8) tn_8 dX12_fullness_16 ?_
    refine j_icmp_ge E 35 (by decide) dX12_fullness_17 (fun c1 => ?_) (fun c1 => ?_)
    · rw [if_pos c1] at hf
      refine j_iload_n E 1 rfl dX12_fullness_35 ?_
      refine j_if_ne E 43 (by decide) dX12_fullness_36 (fun c2 => ?_) (fun c2 => ?_)
      · rw [if_neg c2] at hf
        refine j_aload_n E 0 rfl dX12_fullness_43 ?_
        obtain ⟨r1, h1, hf⟩ := bn1_e hf
        refine j_invV [] [.int r1] E (c_X12_contentAll h1) ml_X12_477 mv_X12_contentAll rfl ⟨le_ rfl, le_ rfl⟩ (rcM cf_X12) rfl rfl (le_ rfl) ⟨le_ rfl, le_ rfl⟩ dX12_fullness_44 ?_
        refine j_i2f E dX12_fullness_47 ?_
        refine j_iload_n E 1 rfl dX12_fullness_48 ?_
        refine j_i2f E dX12_fullness_49 ?_
        obtain ⟨g1, hf⟩ := gd_e hf
        refine j_fdiv E g1 dX12_fullness_50 ?_
        cases hf
        exact j_fret E (le_ rfl) (le_ rfl) dX12_fullness_51
      · rw [if_pos c2] at hf
        refine j_fconst0 E dX12_fullness_39 ?_
        refine j_goto E 51 (by decide) dX12_fullness_40 ?_
        cases hf
        exact j_fret E (le_ rfl) (le_ rfl) dX12_fullness_51
    · rw [if_neg c1] at hf
      refine j_iload_n E 1 rfl dX12_fullness_20 ?_
      refine j_aload_n E 0 rfl dX12_fullness_21 ?_
      refine j_iload_n E 2 rfl dX12_fullness_22 ?_
      refine j_iconst E 0 ic_0 dX12_fullness_23 ?_
      obtain ⟨r2, h2, hf⟩ := bn1_e hf
      refine j_invV [.int v1] [.int r2, .int v1] E (c_X12_ofTank h2) ml_X12_151 mv_X12_ofTank rfl ⟨le_ rfl, le_ rfl⟩ (rcM cf_X12) rfl rfl (le_ rfl) ⟨le_ rfl, le_ rfl⟩ dX12_fullness_24 ?_
      refine j_iadd E dX12_fullness_27 ?_
      obtain ⟨x1, hx1, hf⟩ := bnd_e hf
      refine j_name hx1 ?_
      refine j_istore_n (ls' := [(1, .int x1), (0, .ref (z + aM 0)), (2, .int v2)]) E (lt_ rfl) rfl dX12_fullness_28 ?_
      refine j_iinc (ls' := [(2, .int (v2 + 1)), (1, .int x1), (0, .ref (z + aM 0))]) E 2 rfl (lt_ rfl) (v2 + 1) (congrArg (fun q => v2 + q) ic_1) rfl dX12_fullness_29 ?_
      refine j_goto E 9 (by decide) dX12_fullness_32 ?_
      refine j_sub [2, 1, 0] rfl ?_
      exact ih _ _ _ hf
set_option maxRecDepth 20000 in
theorem c_X12_fullness {l : Launch} {D : DD} {z : Nat} {X : XT} {o : Int64} {f1 : Nat} {M : MT} {r : UInt32} {M' : MT} (hf : f_X12_fullness M = some (r, M')) : CC l yX12_fullness cX12_fullness 3 (some .float) (rmk 3 0 0) D z [.ref (z + aM 0)] (GG D z (X, (f1 + 1, M, o))) (some (.float r)) (GG D z (X, (f1 + 1, M', o))) := by
  unfold f_X12_fullness at hf
  refine cc_of pn_X12 (le_ rfl) (ls := [(0, .ref (z + aM 0))]) rfl ?_
  intro p e s m args below meth c E
  refine j_aload_n E 0 rfl dX12_fullness_0 ?_
  refine j_iconst E 0 ic_0 dX12_fullness_1 ?_
  obtain ⟨M1, hM1, hf⟩ := bnd_e hf
  refine j_putM (f := 0) E cf_X12 fl_X12_3 (lt_ rfl) ⟨rfl, rfl⟩ (fit_i _) (lt_ rfl) peM_0 hM1 dX12_fullness_2 ?_
  refine j_iconst E 0 ic_0 dX12_fullness_5 ?_
  refine j_istore_n (ls' := [(1, .int 0), (0, .ref (z + aM 0))]) E (lt_ rfl) rfl dX12_fullness_6 ?_
  refine j_iconst E 0 ic_0 dX12_fullness_7 ?_
  refine j_istore_n (ls' := [(2, .int 0), (1, .int 0), (0, .ref (z + aM 0))]) E (lt_ rfl) rfl dX12_fullness_8 ?_
  refine j_sub [2, 1, 0] rfl ?_
  exact b_X12_fullness_9 E 2000 _ _ _ hf
def f_X12_averageSugar_9 : Nat → MT → Int32 → Int32 → Option (UInt64 × MT)
  | 0, _, _, _ => none
  | n + 1, M, v1, v2 => if (M.1 1 7) ≤ v2 then (if (M.1 1 7) = 0 then (some (FP.dconst0, M)) else (bn1 (f_X12_weightAll M) (fun r1 => gd ((FP.ddiv (FP.i2d v1) (FP.i2d r1)) &&& 0x7fffffffffffffff ≤ 0x7ff0000000000000) (some ((FP.ddiv (FP.i2d v1) (FP.i2d r1)), M))))) else (bn1 (f_X12_ofLoad M v2 1) (fun r2 => bn1 (f_X12_ofLoad M v2 2) (fun r3 => bnd (v1 + (r2 * r3)) (fun x1 => f_X12_averageSugar_9 n M x1 (v2 + 1)))))
def f_X12_averageSugar (M : MT) : Option (UInt64 × MT) :=
  bnd (mi M 0 0 0) (fun M1 => f_X12_averageSugar_9 2000 M1 0 0)
set_option maxRecDepth 20000 in
theorem b_X12_averageSugar_9 {p : Program} {l : Launch} {e : Env} {s : State} {m : MethodId} {args : Array Value} {below : List Frame} {meth : Method} {c : Code} {D : DD} {z : Nat} {X : XT} {o : Int64} {f1 : Nat} (E : Cx p s m args meth c D z RX12 cX12_averageSugar 3 (some .double)) {r : UInt64} {M' : MT} : ∀ (n : Nat) (M : MT) (v1 : Int32) (v2 : Int32) (hf : f_X12_averageSugar_9 n M v1 v2 = some (r, M')), J p l e (rmk 3 0 0) s m args below meth c D z (GG D z (X, (f1 + 1, M, o))) 0 0 (MQ below (QC z (some (.double r)) (GG D z (X, (f1 + 1, M', o)))) args s (rmk 3 0 0).cells (rmk 3 0 0).slots (Az z)) 3 9 [(0, .ref (z + aM 0)), (1, .int v1), (2, .int v2)] [] := by
  intro n
  induction n with
  | zero =>
    intro M v1 v2 hf
    exact none_e hf
  | succ n ih =>
    intro M v1 v2 hf
    rw [f_X12_averageSugar_9] at hf
    refine j_iload_n E 2 rfl dX12_averageSugar_9 ?_
    refine j_aload_n E 0 rfl dX12_averageSugar_10 ?_
    refine j_getM (f := 1) E cf_X12 fl_X12_17 (lt_ rfl) rfl rfl dX12_averageSugar_11 ?_
    refine j_bipush E 7 bp_7 dX12_averageSugar_14 ?_
    refine j_ialdM E (lt_ rfl) entM1 (vi_7 (lt_ rfl)) (7) tn_7 dX12_averageSugar_16 ?_
    refine j_icmp_ge E 42 (by decide) dX12_averageSugar_17 (fun c1 => ?_) (fun c1 => ?_)
    · rw [if_pos c1] at hf
      refine j_aload_n E 0 rfl dX12_averageSugar_42 ?_
      refine j_getM (f := 1) E cf_X12 fl_X12_17 (lt_ rfl) rfl rfl dX12_averageSugar_43 ?_
      refine j_bipush E 7 bp_7 dX12_averageSugar_46 ?_
      refine j_ialdM E (lt_ rfl) entM1 (vi_7 (lt_ rfl)) (7) tn_7 dX12_averageSugar_48 ?_
      refine j_if_ne E 56 (by decide) dX12_averageSugar_49 (fun c2 => ?_) (fun c2 => ?_)
      · rw [if_neg c2] at hf
        refine j_iload_n E 1 rfl dX12_averageSugar_56 ?_
        refine j_i2d E dX12_averageSugar_57 ?_
        refine j_aload_n E 0 rfl dX12_averageSugar_58 ?_
        obtain ⟨r1, h1, hf⟩ := bn1_e hf
        refine j_invV [.double (FP.i2d v1)] [.int r1, .double (FP.i2d v1)] E (c_X12_weightAll h1) ml_X12_474 mv_X12_weightAll rfl ⟨le_ rfl, le_ rfl⟩ (rcM cf_X12) rfl rfl (le_ rfl) ⟨le_ rfl, le_ rfl⟩ dX12_averageSugar_59 ?_
        refine j_i2d E dX12_averageSugar_62 ?_
        obtain ⟨g1, hf⟩ := gd_e hf
        refine j_ddiv E g1 dX12_averageSugar_63 ?_
        cases hf
        exact j_dret E (le_ rfl) (le_ rfl) dX12_averageSugar_64
      · rw [if_pos c2] at hf
        refine j_dconst0 E dX12_averageSugar_52 ?_
        refine j_goto E 64 (by decide) dX12_averageSugar_53 ?_
        cases hf
        exact j_dret E (le_ rfl) (le_ rfl) dX12_averageSugar_64
    · rw [if_neg c1] at hf
      refine j_iload_n E 1 rfl dX12_averageSugar_20 ?_
      refine j_aload_n E 0 rfl dX12_averageSugar_21 ?_
      refine j_iload_n E 2 rfl dX12_averageSugar_22 ?_
      refine j_iconst E 1 ic_1 dX12_averageSugar_23 ?_
      obtain ⟨r2, h2, hf⟩ := bn1_e hf
      refine j_invV [.int v1] [.int r2, .int v1] E (c_X12_ofLoad h2) ml_X12_148 mv_X12_ofLoad rfl ⟨le_ rfl, le_ rfl⟩ (rcM cf_X12) rfl rfl (le_ rfl) ⟨le_ rfl, le_ rfl⟩ dX12_averageSugar_24 ?_
      refine j_aload_n E 0 rfl dX12_averageSugar_27 ?_
      refine j_iload_n E 2 rfl dX12_averageSugar_28 ?_
      refine j_iconst E 2 ic_2 dX12_averageSugar_29 ?_
      obtain ⟨r3, h3, hf⟩ := bn1_e hf
      refine j_invV [.int r2, .int v1] [.int r3, .int r2, .int v1] E (c_X12_ofLoad h3) ml_X12_148 mv_X12_ofLoad rfl ⟨le_ rfl, le_ rfl⟩ (rcM cf_X12) rfl rfl (le_ rfl) ⟨le_ rfl, le_ rfl⟩ dX12_averageSugar_30 ?_
      refine j_imul E dX12_averageSugar_33 ?_
      refine j_iadd E dX12_averageSugar_34 ?_
      obtain ⟨x1, hx1, hf⟩ := bnd_e hf
      refine j_name hx1 ?_
      refine j_istore_n (ls' := [(1, .int x1), (0, .ref (z + aM 0)), (2, .int v2)]) E (lt_ rfl) rfl dX12_averageSugar_35 ?_
      refine j_iinc (ls' := [(2, .int (v2 + 1)), (1, .int x1), (0, .ref (z + aM 0))]) E 2 rfl (lt_ rfl) (v2 + 1) (congrArg (fun q => v2 + q) ic_1) rfl dX12_averageSugar_36 ?_
      refine j_goto E 9 (by decide) dX12_averageSugar_39 ?_
      refine j_sub [2, 1, 0] rfl ?_
      exact ih _ _ _ hf
set_option maxRecDepth 20000 in
theorem c_X12_averageSugar {l : Launch} {D : DD} {z : Nat} {X : XT} {o : Int64} {f1 : Nat} {M : MT} {r : UInt64} {M' : MT} (hf : f_X12_averageSugar M = some (r, M')) : CC l yX12_averageSugar cX12_averageSugar 3 (some .double) (rmk 3 0 0) D z [.ref (z + aM 0)] (GG D z (X, (f1 + 1, M, o))) (some (.double r)) (GG D z (X, (f1 + 1, M', o))) := by
  unfold f_X12_averageSugar at hf
  refine cc_of pn_X12 (le_ rfl) (ls := [(0, .ref (z + aM 0))]) rfl ?_
  intro p e s m args below meth c E
  refine j_aload_n E 0 rfl dX12_averageSugar_0 ?_
  refine j_iconst E 0 ic_0 dX12_averageSugar_1 ?_
  obtain ⟨M1, hM1, hf⟩ := bnd_e hf
  refine j_putM (f := 0) E cf_X12 fl_X12_3 (lt_ rfl) ⟨rfl, rfl⟩ (fit_i _) (lt_ rfl) peM_0 hM1 dX12_averageSugar_2 ?_
  refine j_iconst E 0 ic_0 dX12_averageSugar_5 ?_
  refine j_istore_n (ls' := [(1, .int 0), (0, .ref (z + aM 0))]) E (lt_ rfl) rfl dX12_averageSugar_6 ?_
  refine j_iconst E 0 ic_0 dX12_averageSugar_7 ?_
  refine j_istore_n (ls' := [(2, .int 0), (1, .int 0), (0, .ref (z + aM 0))]) E (lt_ rfl) rfl dX12_averageSugar_8 ?_
  refine j_sub [2, 1, 0] rfl ?_
  exact b_X12_averageSugar_9 E 2000 _ _ _ hf
def f_X12_deliver (M : MT) (v1 : Int32) (v2 : Int32) (v3 : Int32) : Option (Int32 × MT) :=
  bn1 (f_X12_hasPlot M v1) (fun r1 => bn1 (f_X12_areLoad M v2 v3) (fun r2 => if r1 = 0 then (bn2 (f_X12_passes3 M r1 r2 0) (fun r3 M1 => if r3 = 0 then (some (0, M1)) else (bn1 (f_X12_remember M1) (fun M2 => bn2 (f_X12_layLoad M2 v1 v2 v3) (fun r4 M3 => some (r4, M3)))))) else (if r2 = 0 then (bn2 (f_X12_passes3 M r1 r2 0) (fun r5 M4 => if r5 = 0 then (some (0, M4)) else (bn1 (f_X12_remember M4) (fun M5 => bn2 (f_X12_layLoad M5 v1 v2 v3) (fun r6 M6 => some (r6, M6)))))) else (bn1 (f_X12_reasonOf M v1 v2 v3) (fun r7 => if r7 = 0 then (bn2 (f_X12_passes3 M r1 r2 1) (fun r10 M10 => if r10 = 0 then (some (0, M10)) else (bn1 (f_X12_remember M10) (fun M11 => bn2 (f_X12_layLoad M11 v1 v2 v3) (fun r11 M12 => some (r11, M12)))))) else (bn2 (f_X12_passes3 M r1 r2 0) (fun r8 M7 => if r8 = 0 then (some (0, M7)) else (bn1 (f_X12_remember M7) (fun M8 => bn2 (f_X12_layLoad M8 v1 v2 v3) (fun r9 M9 => some (r9, M9)))))))))))
set_option maxRecDepth 20000 in
theorem c_X12_deliver {l : Launch} {D : DD} {z : Nat} {X : XT} {o : Int64} {f1 : Nat} {M : MT} {v1 : Int32} {v2 : Int32} {v3 : Int32} {r : Int32} {M' : MT} (hf : f_X12_deliver M v1 v2 v3 = some (r, M')) : CC l yX12_deliver cX12_deliver 6 (some .int) (rmk 6 0 0) D z [.ref (z + aM 0), .int v1, .int v2, .int v3] (GG D z (X, (f1 + 1, M, o))) (some (.int r)) (GG D z (X, (f1 + 1, M', o))) := by
  unfold f_X12_deliver at hf
  refine cc_of pn_X12 (le_ rfl) (ls := [(0, .ref (z + aM 0)), (1, .int v1), (2, .int v2), (3, .int v3)]) rfl ?_
  intro p e s m args below meth c E
  refine j_aload_n E 0 rfl dX12_deliver_0 ?_
  refine j_iload_n E 1 rfl dX12_deliver_1 ?_
  obtain ⟨r1, h1, hf⟩ := bn1_e hf
  refine j_invV [] [.int r1] E (c_X12_hasPlot h1) ml_X12_438 mv_X12_hasPlot rfl ⟨le_ rfl, le_ rfl⟩ (rcM cf_X12) rfl rfl (le_ rfl) ⟨le_ rfl, le_ rfl⟩ dX12_deliver_2 ?_
  refine j_istore (ls' := [(4, .int r1), (0, .ref (z + aM 0)), (1, .int v1), (2, .int v2), (3, .int v3)]) E (lt_ rfl) rfl dX12_deliver_5 ?_
  refine j_aload_n E 1 rfl dX12_deliver_7 ?_
  refine j_iload_n E 3 rfl dX12_deliver_8 ?_
  refine j_iload_n E 4 rfl dX12_deliver_9 ?_
  obtain ⟨r2, h2, hf⟩ := bn1_e hf
  refine j_invV [] [.int r2] E (c_X12_areLoad h2) ml_X12_462 mv_X12_areLoad rfl ⟨le_ rfl, le_ rfl⟩ (rcM cf_X12) rfl rfl (le_ rfl) ⟨le_ rfl, le_ rfl⟩ dX12_deliver_10 ?_
  refine j_istore (ls' := [(5, .int r2), (4, .int r1), (0, .ref (z + aM 0)), (1, .int v1), (2, .int v2), (3, .int v3)]) E (lt_ rfl) rfl dX12_deliver_13 ?_
  refine j_aload_n E 2 rfl dX12_deliver_15 ?_
  refine j_iload E 1 rfl dX12_deliver_16 ?_
  refine j_iload E 0 rfl dX12_deliver_18 ?_
  refine j_iload E 1 rfl dX12_deliver_20 ?_
  refine j_if_eq E 44 (by decide) dX12_deliver_22 (fun c1 => ?_) (fun c1 => ?_)
  · rw [if_pos c1] at hf
    refine j_iconst E 0 ic_0 dX12_deliver_44 ?_
    obtain ⟨r3, M1, h3, hf⟩ := bn2_e hf
    refine j_invV [] [.int r3] E (c_X12_passes3 h3) ml_X12_7 mv_X12_passes3 rfl ⟨le_ rfl, le_ rfl⟩ (rcM cf_X12) rfl rfl (le_ rfl) ⟨le_ rfl, le_ rfl⟩ dX12_deliver_45 ?_
    refine j_if_ne E 53 (by decide) dX12_deliver_48 (fun c2 => ?_) (fun c2 => ?_)
    · rw [if_neg c2] at hf
      refine j_aload_n E 2 rfl dX12_deliver_53 ?_
      obtain ⟨M2, h4, hf⟩ := bn1_e hf
      refine j_invV [] [] E (c_X12_remember h4) ml_X12_409 mv_X12_remember rfl ⟨le_ rfl, le_ rfl⟩ (rcM cf_X12) rfl rfl (le_ rfl) ⟨le_ rfl, le_ rfl⟩ dX12_deliver_54 ?_
      refine j_aload_n E 2 rfl dX12_deliver_57 ?_
      refine j_iload_n E 3 rfl dX12_deliver_58 ?_
      refine j_iload_n E 4 rfl dX12_deliver_59 ?_
      refine j_iload_n E 5 rfl dX12_deliver_60 ?_
      obtain ⟨r4, M3, h5, hf⟩ := bn2_e hf
      refine j_invV [] [.int r4] E (c_X12_layLoad h5) ml_X12_137 mv_X12_layLoad rfl ⟨le_ rfl, le_ rfl⟩ (rcM cf_X12) rfl rfl (le_ rfl) ⟨le_ rfl, le_ rfl⟩ dX12_deliver_61 ?_
      cases hf
      exact j_iret E rfl (le_ rfl) (le_ rfl) dX12_deliver_64
    · rw [if_pos c2] at hf
      refine j_iconst E 0 ic_0 dX12_deliver_51 ?_
      cases hf
      exact j_iret E rfl (le_ rfl) (le_ rfl) dX12_deliver_52
  · rw [if_neg c1] at hf
    refine j_iload E 0 rfl dX12_deliver_25 ?_
    refine j_if_eq E 44 (by decide) dX12_deliver_27 (fun c3 => ?_) (fun c3 => ?_)
    · rw [if_pos c3] at hf
      refine j_iconst E 0 ic_0 dX12_deliver_44 ?_
      obtain ⟨r5, M4, h6, hf⟩ := bn2_e hf
      refine j_invV [] [.int r5] E (c_X12_passes3 h6) ml_X12_7 mv_X12_passes3 rfl ⟨le_ rfl, le_ rfl⟩ (rcM cf_X12) rfl rfl (le_ rfl) ⟨le_ rfl, le_ rfl⟩ dX12_deliver_45 ?_
      refine j_if_ne E 53 (by decide) dX12_deliver_48 (fun c4 => ?_) (fun c4 => ?_)
      · rw [if_neg c4] at hf
        refine j_aload_n E 2 rfl dX12_deliver_53 ?_
        obtain ⟨M5, h7, hf⟩ := bn1_e hf
        refine j_invV [] [] E (c_X12_remember h7) ml_X12_409 mv_X12_remember rfl ⟨le_ rfl, le_ rfl⟩ (rcM cf_X12) rfl rfl (le_ rfl) ⟨le_ rfl, le_ rfl⟩ dX12_deliver_54 ?_
        refine j_aload_n E 2 rfl dX12_deliver_57 ?_
        refine j_iload_n E 3 rfl dX12_deliver_58 ?_
        refine j_iload_n E 4 rfl dX12_deliver_59 ?_
        refine j_iload_n E 5 rfl dX12_deliver_60 ?_
        obtain ⟨r6, M6, h8, hf⟩ := bn2_e hf
        refine j_invV [] [.int r6] E (c_X12_layLoad h8) ml_X12_137 mv_X12_layLoad rfl ⟨le_ rfl, le_ rfl⟩ (rcM cf_X12) rfl rfl (le_ rfl) ⟨le_ rfl, le_ rfl⟩ dX12_deliver_61 ?_
        cases hf
        exact j_iret E rfl (le_ rfl) (le_ rfl) dX12_deliver_64
      · rw [if_pos c4] at hf
        refine j_iconst E 0 ic_0 dX12_deliver_51 ?_
        cases hf
        exact j_iret E rfl (le_ rfl) (le_ rfl) dX12_deliver_52
    · rw [if_neg c3] at hf
      refine j_aload_n E 2 rfl dX12_deliver_30 ?_
      refine j_iload_n E 3 rfl dX12_deliver_31 ?_
      refine j_iload_n E 4 rfl dX12_deliver_32 ?_
      refine j_iload_n E 5 rfl dX12_deliver_33 ?_
      obtain ⟨r7, h9, hf⟩ := bn1_e hf
      refine j_invV [.int r2, .int r1, .ref (z + aM 0)] [.int r7, .int r2, .int r1, .ref (z + aM 0)] E (c_X12_reasonOf h9) ml_X12_323 mv_X12_reasonOf rfl ⟨le_ rfl, le_ rfl⟩ (rcM cf_X12) rfl rfl (le_ rfl) ⟨le_ rfl, le_ rfl⟩ dX12_deliver_34 ?_
      refine j_if_ne E 44 (by decide) dX12_deliver_37 (fun c5 => ?_) (fun c5 => ?_)
      · rw [if_neg c5] at hf
        refine j_iconst E 0 ic_0 dX12_deliver_44 ?_
        obtain ⟨r8, M7, h10, hf⟩ := bn2_e hf
        refine j_invV [] [.int r8] E (c_X12_passes3 h10) ml_X12_7 mv_X12_passes3 rfl ⟨le_ rfl, le_ rfl⟩ (rcM cf_X12) rfl rfl (le_ rfl) ⟨le_ rfl, le_ rfl⟩ dX12_deliver_45 ?_
        refine j_if_ne E 53 (by decide) dX12_deliver_48 (fun c6 => ?_) (fun c6 => ?_)
        · rw [if_neg c6] at hf
          refine j_aload_n E 2 rfl dX12_deliver_53 ?_
          obtain ⟨M8, h11, hf⟩ := bn1_e hf
          refine j_invV [] [] E (c_X12_remember h11) ml_X12_409 mv_X12_remember rfl ⟨le_ rfl, le_ rfl⟩ (rcM cf_X12) rfl rfl (le_ rfl) ⟨le_ rfl, le_ rfl⟩ dX12_deliver_54 ?_
          refine j_aload_n E 2 rfl dX12_deliver_57 ?_
          refine j_iload_n E 3 rfl dX12_deliver_58 ?_
          refine j_iload_n E 4 rfl dX12_deliver_59 ?_
          refine j_iload_n E 5 rfl dX12_deliver_60 ?_
          obtain ⟨r9, M9, h12, hf⟩ := bn2_e hf
          refine j_invV [] [.int r9] E (c_X12_layLoad h12) ml_X12_137 mv_X12_layLoad rfl ⟨le_ rfl, le_ rfl⟩ (rcM cf_X12) rfl rfl (le_ rfl) ⟨le_ rfl, le_ rfl⟩ dX12_deliver_61 ?_
          cases hf
          exact j_iret E rfl (le_ rfl) (le_ rfl) dX12_deliver_64
        · rw [if_pos c6] at hf
          refine j_iconst E 0 ic_0 dX12_deliver_51 ?_
          cases hf
          exact j_iret E rfl (le_ rfl) (le_ rfl) dX12_deliver_52
      · rw [if_pos c5] at hf
        refine j_iconst E 1 ic_1 dX12_deliver_40 ?_
        refine j_goto E 45 (by decide) dX12_deliver_41 ?_
        obtain ⟨r10, M10, h13, hf⟩ := bn2_e hf
        refine j_invV [] [.int r10] E (c_X12_passes3 h13) ml_X12_7 mv_X12_passes3 rfl ⟨le_ rfl, le_ rfl⟩ (rcM cf_X12) rfl rfl (le_ rfl) ⟨le_ rfl, le_ rfl⟩ dX12_deliver_45 ?_
        refine j_if_ne E 53 (by decide) dX12_deliver_48 (fun c7 => ?_) (fun c7 => ?_)
        · rw [if_neg c7] at hf
          refine j_aload_n E 2 rfl dX12_deliver_53 ?_
          obtain ⟨M11, h14, hf⟩ := bn1_e hf
          refine j_invV [] [] E (c_X12_remember h14) ml_X12_409 mv_X12_remember rfl ⟨le_ rfl, le_ rfl⟩ (rcM cf_X12) rfl rfl (le_ rfl) ⟨le_ rfl, le_ rfl⟩ dX12_deliver_54 ?_
          refine j_aload_n E 2 rfl dX12_deliver_57 ?_
          refine j_iload_n E 3 rfl dX12_deliver_58 ?_
          refine j_iload_n E 4 rfl dX12_deliver_59 ?_
          refine j_iload_n E 5 rfl dX12_deliver_60 ?_
          obtain ⟨r11, M12, h15, hf⟩ := bn2_e hf
          refine j_invV [] [.int r11] E (c_X12_layLoad h15) ml_X12_137 mv_X12_layLoad rfl ⟨le_ rfl, le_ rfl⟩ (rcM cf_X12) rfl rfl (le_ rfl) ⟨le_ rfl, le_ rfl⟩ dX12_deliver_61 ?_
          cases hf
          exact j_iret E rfl (le_ rfl) (le_ rfl) dX12_deliver_64
        · rw [if_pos c7] at hf
          refine j_iconst E 0 ic_0 dX12_deliver_51 ?_
          cases hf
          exact j_iret E rfl (le_ rfl) (le_ rfl) dX12_deliver_52
def f_X12_setPrice (M : MT) (v1 : Int32) (v2 : Int32) (v3 : Int32) : Option (Int32 × MT) :=
  bn1 (f_X12_hasPair M v1 v2) (fun r1 => bn1 (f_X12_in (v3.toInt64) 0 999) (fun r2 => bn2 (f_X12_passes2 M r1 r2) (fun r3 M1 => if r3 = 0 then (some (0, M1)) else (bn1 (f_X12_remember M1) (fun M2 => bn1 (f_X12_priceOf M2 v1 v2) (fun r4 => bn1 (f_X12_setPriceNow M2 v1 v2 v3) (fun M3 => some (r4, M3))))))))
set_option maxRecDepth 20000 in
theorem c_X12_setPrice {l : Launch} {D : DD} {z : Nat} {X : XT} {o : Int64} {f1 : Nat} {M : MT} {v1 : Int32} {v2 : Int32} {v3 : Int32} {r : Int32} {M' : MT} (hf : f_X12_setPrice M v1 v2 v3 = some (r, M')) : CC l yX12_setPrice cX12_setPrice 5 (some .int) (rmk 3 0 0) D z [.ref (z + aM 0), .int v1, .int v2, .int v3] (GG D z (X, (f1 + 1, M, o))) (some (.int r)) (GG D z (X, (f1 + 1, M', o))) := by
  unfold f_X12_setPrice at hf
  refine cc_of pn_X12 (le_ rfl) (ls := [(0, .ref (z + aM 0)), (1, .int v1), (2, .int v2), (3, .int v3)]) rfl ?_
  intro p e s m args below meth c E
  refine j_aload_n E 0 rfl dX12_setPrice_0 ?_
  refine j_aload_n E 0 rfl dX12_setPrice_1 ?_
  refine j_iload_n E 1 rfl dX12_setPrice_2 ?_
  refine j_iload_n E 2 rfl dX12_setPrice_3 ?_
  obtain ⟨r1, h1, hf⟩ := bn1_e hf
  refine j_invV [.ref (z + aM 0)] [.int r1, .ref (z + aM 0)] E (c_X12_hasPair h1) ml_X12_417 mv_X12_hasPair rfl ⟨le_ rfl, le_ rfl⟩ (rcM cf_X12) rfl rfl (le_ rfl) ⟨le_ rfl, le_ rfl⟩ dX12_setPrice_4 ?_
  refine j_iload_n E 3 rfl dX12_setPrice_7 ?_
  refine j_i2l E dX12_setPrice_8 ?_
  refine j_lconst E 0 rfl dX12_setPrice_9 ?_
  refine j_ldc2 E ct_X12_480 dX12_setPrice_10 ?_
  obtain ⟨r2, h2, hf⟩ := bn1_e hf
  refine j_invS [.int r1, .ref (z + aM 0)] [.int r2, .int r1, .ref (z + aM 0)] E (c_X12_in h2) ml_X12_282 ms_X12_in rfl ⟨le_ rfl, le_ rfl⟩ rfl rfl (le_ rfl) ⟨le_ rfl, le_ rfl⟩ dX12_setPrice_13 ?_
  obtain ⟨r3, M1, h3, hf⟩ := bn2_e hf
  refine j_invV [] [.int r3] E (c_X12_passes2 h3) ml_X12_458 mv_X12_passes2 rfl ⟨le_ rfl, le_ rfl⟩ (rcM cf_X12) rfl rfl (le_ rfl) ⟨le_ rfl, le_ rfl⟩ dX12_setPrice_16 ?_
  refine j_if_ne E 24 (by decide) dX12_setPrice_19 (fun c1 => ?_) (fun c1 => ?_)
  · rw [if_neg c1] at hf
    refine j_aload_n E 0 rfl dX12_setPrice_24 ?_
    obtain ⟨M2, h4, hf⟩ := bn1_e hf
    refine j_invV [] [] E (c_X12_remember h4) ml_X12_409 mv_X12_remember rfl ⟨le_ rfl, le_ rfl⟩ (rcM cf_X12) rfl rfl (le_ rfl) ⟨le_ rfl, le_ rfl⟩ dX12_setPrice_25 ?_
    refine j_aload_n E 0 rfl dX12_setPrice_28 ?_
    refine j_iload_n E 1 rfl dX12_setPrice_29 ?_
    refine j_iload_n E 2 rfl dX12_setPrice_30 ?_
    obtain ⟨r4, h5, hf⟩ := bn1_e hf
    refine j_invV [] [.int r4] E (c_X12_priceOf h5) ml_X12_186 mv_X12_priceOf rfl ⟨le_ rfl, le_ rfl⟩ (rcM cf_X12) rfl rfl (le_ rfl) ⟨le_ rfl, le_ rfl⟩ dX12_setPrice_31 ?_
    refine j_istore (ls' := [(4, .int r4), (0, .ref (z + aM 0)), (1, .int v1), (2, .int v2), (3, .int v3)]) E (lt_ rfl) rfl dX12_setPrice_34 ?_
    refine j_aload_n E 1 rfl dX12_setPrice_36 ?_
    refine j_iload_n E 2 rfl dX12_setPrice_37 ?_
    refine j_iload_n E 3 rfl dX12_setPrice_38 ?_
    refine j_iload_n E 4 rfl dX12_setPrice_39 ?_
    obtain ⟨M3, h6, hf⟩ := bn1_e hf
    refine j_invV [] [] E (c_X12_setPriceNow h6) ml_X12_119 mv_X12_setPriceNow rfl ⟨le_ rfl, le_ rfl⟩ (rcM cf_X12) rfl rfl (le_ rfl) ⟨le_ rfl, le_ rfl⟩ dX12_setPrice_40 ?_
    refine j_iload E 0 rfl dX12_setPrice_43 ?_
    cases hf
    exact j_iret E rfl (le_ rfl) (le_ rfl) dX12_setPrice_45
  · rw [if_pos c1] at hf
    refine j_iconst E 0 ic_0 dX12_setPrice_22 ?_
    cases hf
    exact j_iret E rfl (le_ rfl) (le_ rfl) dX12_setPrice_23
def f_X12_bottle (M : MT) (v1 : Int32) (v2 : Int32) : Option (Int32 × MT) :=
  bn1 (f_X12_hasTank M v1) (fun r1 => bn1 (f_X12_in (v2.toInt64) 1 20000) (fun r2 => if r1 = 0 then (bn2 (f_X12_passes3 M r1 r2 0) (fun r3 M1 => if r3 = 0 then (some (0, M1)) else (bn1 (f_X12_remember M1) (fun M2 => bn2 (f_X12_bottleNow M2 v1 v2) (fun r4 M3 => some (r4, M3)))))) else (bn1 (f_X12_mayBottle M v1 v2) (fun r5 => if r5 = 0 then (bn2 (f_X12_passes3 M r1 r2 0) (fun r6 M4 => if r6 = 0 then (some (0, M4)) else (bn1 (f_X12_remember M4) (fun M5 => bn2 (f_X12_bottleNow M5 v1 v2) (fun r7 M6 => some (r7, M6)))))) else (bn2 (f_X12_passes3 M r1 r2 1) (fun r8 M7 => if r8 = 0 then (some (0, M7)) else (bn1 (f_X12_remember M7) (fun M8 => bn2 (f_X12_bottleNow M8 v1 v2) (fun r9 M9 => some (r9, M9))))))))))
set_option maxRecDepth 20000 in
theorem c_X12_bottle {l : Launch} {D : DD} {z : Nat} {X : XT} {o : Int64} {f1 : Nat} {M : MT} {v1 : Int32} {v2 : Int32} {r : Int32} {M' : MT} (hf : f_X12_bottle M v1 v2 = some (r, M')) : CC l yX12_bottle cX12_bottle 4 (some .int) (rmk 4 0 0) D z [.ref (z + aM 0), .int v1, .int v2] (GG D z (X, (f1 + 1, M, o))) (some (.int r)) (GG D z (X, (f1 + 1, M', o))) := by
  unfold f_X12_bottle at hf
  refine cc_of pn_X12 (le_ rfl) (ls := [(0, .ref (z + aM 0)), (1, .int v1), (2, .int v2)]) rfl ?_
  intro p e s m args below meth c E
  refine j_aload_n E 0 rfl dX12_bottle_0 ?_
  refine j_iload_n E 1 rfl dX12_bottle_1 ?_
  obtain ⟨r1, h1, hf⟩ := bn1_e hf
  refine j_invV [] [.int r1] E (c_X12_hasTank h1) ml_X12_450 mv_X12_hasTank rfl ⟨le_ rfl, le_ rfl⟩ (rcM cf_X12) rfl rfl (le_ rfl) ⟨le_ rfl, le_ rfl⟩ dX12_bottle_2 ?_
  refine j_istore_n (ls' := [(3, .int r1), (0, .ref (z + aM 0)), (1, .int v1), (2, .int v2)]) E (lt_ rfl) rfl dX12_bottle_5 ?_
  refine j_aload_n E 1 rfl dX12_bottle_6 ?_
  refine j_iload_n E 0 rfl dX12_bottle_7 ?_
  refine j_iload_n E 3 rfl dX12_bottle_8 ?_
  refine j_i2l E dX12_bottle_9 ?_
  refine j_lconst E 1 rfl dX12_bottle_10 ?_
  refine j_ldc2 E ct_X12_482 dX12_bottle_11 ?_
  obtain ⟨r2, h2, hf⟩ := bn1_e hf
  refine j_invS [.int r1, .ref (z + aM 0)] [.int r2, .int r1, .ref (z + aM 0)] E (c_X12_in h2) ml_X12_282 ms_X12_in rfl ⟨le_ rfl, le_ rfl⟩ rfl rfl (le_ rfl) ⟨le_ rfl, le_ rfl⟩ dX12_bottle_14 ?_
  refine j_iload_n E 0 rfl dX12_bottle_17 ?_
  refine j_if_eq E 34 (by decide) dX12_bottle_18 (fun c1 => ?_) (fun c1 => ?_)
  · rw [if_pos c1] at hf
    refine j_iconst E 0 ic_0 dX12_bottle_34 ?_
    obtain ⟨r3, M1, h3, hf⟩ := bn2_e hf
    refine j_invV [] [.int r3] E (c_X12_passes3 h3) ml_X12_7 mv_X12_passes3 rfl ⟨le_ rfl, le_ rfl⟩ (rcM cf_X12) rfl rfl (le_ rfl) ⟨le_ rfl, le_ rfl⟩ dX12_bottle_35 ?_
    refine j_if_ne E 43 (by decide) dX12_bottle_38 (fun c2 => ?_) (fun c2 => ?_)
    · rw [if_neg c2] at hf
      refine j_aload_n E 1 rfl dX12_bottle_43 ?_
      obtain ⟨M2, h4, hf⟩ := bn1_e hf
      refine j_invV [] [] E (c_X12_remember h4) ml_X12_409 mv_X12_remember rfl ⟨le_ rfl, le_ rfl⟩ (rcM cf_X12) rfl rfl (le_ rfl) ⟨le_ rfl, le_ rfl⟩ dX12_bottle_44 ?_
      refine j_aload_n E 1 rfl dX12_bottle_47 ?_
      refine j_iload_n E 2 rfl dX12_bottle_48 ?_
      refine j_iload_n E 3 rfl dX12_bottle_49 ?_
      obtain ⟨r4, M3, h5, hf⟩ := bn2_e hf
      refine j_invV [] [.int r4] E (c_X12_bottleNow h5) ml_X12_332 mv_X12_bottleNow rfl ⟨le_ rfl, le_ rfl⟩ (rcM cf_X12) rfl rfl (le_ rfl) ⟨le_ rfl, le_ rfl⟩ dX12_bottle_50 ?_
      cases hf
      exact j_iret E rfl (le_ rfl) (le_ rfl) dX12_bottle_53
    · rw [if_pos c2] at hf
      refine j_iconst E 0 ic_0 dX12_bottle_41 ?_
      cases hf
      exact j_iret E rfl (le_ rfl) (le_ rfl) dX12_bottle_42
  · rw [if_neg c1] at hf
    refine j_aload_n E 1 rfl dX12_bottle_21 ?_
    refine j_iload_n E 2 rfl dX12_bottle_22 ?_
    refine j_iload_n E 3 rfl dX12_bottle_23 ?_
    obtain ⟨r5, h6, hf⟩ := bn1_e hf
    refine j_invV [.int r2, .int r1, .ref (z + aM 0)] [.int r5, .int r2, .int r1, .ref (z + aM 0)] E (c_X12_mayBottle h6) ml_X12_329 mv_X12_mayBottle rfl ⟨le_ rfl, le_ rfl⟩ (rcM cf_X12) rfl rfl (le_ rfl) ⟨le_ rfl, le_ rfl⟩ dX12_bottle_24 ?_
    refine j_if_eq E 34 (by decide) dX12_bottle_27 (fun c3 => ?_) (fun c3 => ?_)
    · rw [if_pos c3] at hf
      refine j_iconst E 0 ic_0 dX12_bottle_34 ?_
      obtain ⟨r6, M4, h7, hf⟩ := bn2_e hf
      refine j_invV [] [.int r6] E (c_X12_passes3 h7) ml_X12_7 mv_X12_passes3 rfl ⟨le_ rfl, le_ rfl⟩ (rcM cf_X12) rfl rfl (le_ rfl) ⟨le_ rfl, le_ rfl⟩ dX12_bottle_35 ?_
      refine j_if_ne E 43 (by decide) dX12_bottle_38 (fun c4 => ?_) (fun c4 => ?_)
      · rw [if_neg c4] at hf
        refine j_aload_n E 1 rfl dX12_bottle_43 ?_
        obtain ⟨M5, h8, hf⟩ := bn1_e hf
        refine j_invV [] [] E (c_X12_remember h8) ml_X12_409 mv_X12_remember rfl ⟨le_ rfl, le_ rfl⟩ (rcM cf_X12) rfl rfl (le_ rfl) ⟨le_ rfl, le_ rfl⟩ dX12_bottle_44 ?_
        refine j_aload_n E 1 rfl dX12_bottle_47 ?_
        refine j_iload_n E 2 rfl dX12_bottle_48 ?_
        refine j_iload_n E 3 rfl dX12_bottle_49 ?_
        obtain ⟨r7, M6, h9, hf⟩ := bn2_e hf
        refine j_invV [] [.int r7] E (c_X12_bottleNow h9) ml_X12_332 mv_X12_bottleNow rfl ⟨le_ rfl, le_ rfl⟩ (rcM cf_X12) rfl rfl (le_ rfl) ⟨le_ rfl, le_ rfl⟩ dX12_bottle_50 ?_
        cases hf
        exact j_iret E rfl (le_ rfl) (le_ rfl) dX12_bottle_53
      · rw [if_pos c4] at hf
        refine j_iconst E 0 ic_0 dX12_bottle_41 ?_
        cases hf
        exact j_iret E rfl (le_ rfl) (le_ rfl) dX12_bottle_42
    · rw [if_neg c3] at hf
      refine j_iconst E 1 ic_1 dX12_bottle_30 ?_
      refine j_goto E 35 (by decide) dX12_bottle_31 ?_
      obtain ⟨r8, M7, h10, hf⟩ := bn2_e hf
      refine j_invV [] [.int r8] E (c_X12_passes3 h10) ml_X12_7 mv_X12_passes3 rfl ⟨le_ rfl, le_ rfl⟩ (rcM cf_X12) rfl rfl (le_ rfl) ⟨le_ rfl, le_ rfl⟩ dX12_bottle_35 ?_
      refine j_if_ne E 43 (by decide) dX12_bottle_38 (fun c5 => ?_) (fun c5 => ?_)
      · rw [if_neg c5] at hf
        refine j_aload_n E 1 rfl dX12_bottle_43 ?_
        obtain ⟨M8, h11, hf⟩ := bn1_e hf
        refine j_invV [] [] E (c_X12_remember h11) ml_X12_409 mv_X12_remember rfl ⟨le_ rfl, le_ rfl⟩ (rcM cf_X12) rfl rfl (le_ rfl) ⟨le_ rfl, le_ rfl⟩ dX12_bottle_44 ?_
        refine j_aload_n E 1 rfl dX12_bottle_47 ?_
        refine j_iload_n E 2 rfl dX12_bottle_48 ?_
        refine j_iload_n E 3 rfl dX12_bottle_49 ?_
        obtain ⟨r9, M9, h12, hf⟩ := bn2_e hf
        refine j_invV [] [.int r9] E (c_X12_bottleNow h12) ml_X12_332 mv_X12_bottleNow rfl ⟨le_ rfl, le_ rfl⟩ (rcM cf_X12) rfl rfl (le_ rfl) ⟨le_ rfl, le_ rfl⟩ dX12_bottle_50 ?_
        cases hf
        exact j_iret E rfl (le_ rfl) (le_ rfl) dX12_bottle_53
      · rw [if_pos c5] at hf
        refine j_iconst E 0 ic_0 dX12_bottle_41 ?_
        cases hf
        exact j_iret E rfl (le_ rfl) (le_ rfl) dX12_bottle_42
def f_X12_sell (M : MT) (v1 : Int32) (v2 : Int32) (v3 : Int32) : Option (Int32 × MT) :=
  bn1 (f_X12_hasLot M v1) (fun r1 => bn1 (f_X12_in (v2.toInt64) 1 20000) (fun r2 => if r2 = 0 then (if r1 = 0 then (bn2 (f_X12_passes3 M r1 0 0) (fun r3 M1 => if r3 = 0 then (some (0, M1)) else (bn1 (f_X12_remember M1) (fun M2 => bn2 (f_X12_sellNow M2 v1 v2 v3) (fun r4 M3 => some (r4, M3)))))) else (bn1 (f_X12_maySell M v1 v2 v3) (fun r5 => if r5 = 0 then (bn2 (f_X12_passes3 M r1 0 0) (fun r6 M4 => if r6 = 0 then (some (0, M4)) else (bn1 (f_X12_remember M4) (fun M5 => bn2 (f_X12_sellNow M5 v1 v2 v3) (fun r7 M6 => some (r7, M6)))))) else (bn2 (f_X12_passes3 M r1 0 1) (fun r8 M7 => if r8 = 0 then (some (0, M7)) else (bn1 (f_X12_remember M7) (fun M8 => bn2 (f_X12_sellNow M8 v1 v2 v3) (fun r9 M9 => some (r9, M9))))))))) else (bn1 (f_X12_in (v3.toInt64) 1 9999) (fun r10 => if r10 = 0 then (if r1 = 0 then (bn2 (f_X12_passes3 M r1 0 0) (fun r11 M10 => if r11 = 0 then (some (0, M10)) else (bn1 (f_X12_remember M10) (fun M11 => bn2 (f_X12_sellNow M11 v1 v2 v3) (fun r12 M12 => some (r12, M12)))))) else (bn1 (f_X12_maySell M v1 v2 v3) (fun r13 => if r13 = 0 then (bn2 (f_X12_passes3 M r1 0 0) (fun r14 M13 => if r14 = 0 then (some (0, M13)) else (bn1 (f_X12_remember M13) (fun M14 => bn2 (f_X12_sellNow M14 v1 v2 v3) (fun r15 M15 => some (r15, M15)))))) else (bn2 (f_X12_passes3 M r1 0 1) (fun r16 M16 => if r16 = 0 then (some (0, M16)) else (bn1 (f_X12_remember M16) (fun M17 => bn2 (f_X12_sellNow M17 v1 v2 v3) (fun r17 M18 => some (r17, M18))))))))) else (if r1 = 0 then (bn2 (f_X12_passes3 M r1 1 0) (fun r18 M19 => if r18 = 0 then (some (0, M19)) else (bn1 (f_X12_remember M19) (fun M20 => bn2 (f_X12_sellNow M20 v1 v2 v3) (fun r19 M21 => some (r19, M21)))))) else (bn1 (f_X12_maySell M v1 v2 v3) (fun r20 => if r20 = 0 then (bn2 (f_X12_passes3 M r1 1 0) (fun r21 M22 => if r21 = 0 then (some (0, M22)) else (bn1 (f_X12_remember M22) (fun M23 => bn2 (f_X12_sellNow M23 v1 v2 v3) (fun r22 M24 => some (r22, M24)))))) else (bn2 (f_X12_passes3 M r1 1 1) (fun r23 M25 => if r23 = 0 then (some (0, M25)) else (bn1 (f_X12_remember M25) (fun M26 => bn2 (f_X12_sellNow M26 v1 v2 v3) (fun r24 M27 => some (r24, M27)))))))))))))
set_option maxRecDepth 20000 in
theorem c_X12_sell {l : Launch} {D : DD} {z : Nat} {X : XT} {o : Int64} {f1 : Nat} {M : MT} {v1 : Int32} {v2 : Int32} {v3 : Int32} {r : Int32} {M' : MT} (hf : f_X12_sell M v1 v2 v3 = some (r, M')) : CC l yX12_sell cX12_sell 5 (some .int) (rmk 3 0 0) D z [.ref (z + aM 0), .int v1, .int v2, .int v3] (GG D z (X, (f1 + 1, M, o))) (some (.int r)) (GG D z (X, (f1 + 1, M', o))) := by
  unfold f_X12_sell at hf
  refine cc_of pn_X12 (le_ rfl) (ls := [(0, .ref (z + aM 0)), (1, .int v1), (2, .int v2), (3, .int v3)]) rfl ?_
  intro p e s m args below meth c E
  refine j_aload_n E 0 rfl dX12_sell_0 ?_
  refine j_iload_n E 1 rfl dX12_sell_1 ?_
  obtain ⟨r1, h1, hf⟩ := bn1_e hf
  refine j_invV [] [.int r1] E (c_X12_hasLot h1) ml_X12_465 mv_X12_hasLot rfl ⟨le_ rfl, le_ rfl⟩ (rcM cf_X12) rfl rfl (le_ rfl) ⟨le_ rfl, le_ rfl⟩ dX12_sell_2 ?_
  refine j_istore (ls' := [(4, .int r1), (0, .ref (z + aM 0)), (1, .int v1), (2, .int v2), (3, .int v3)]) E (lt_ rfl) rfl dX12_sell_5 ?_
  refine j_aload_n E 1 rfl dX12_sell_7 ?_
  refine j_iload E 0 rfl dX12_sell_8 ?_
  refine j_iload_n E 3 rfl dX12_sell_10 ?_
  refine j_i2l E dX12_sell_11 ?_
  refine j_lconst E 1 rfl dX12_sell_12 ?_
  refine j_ldc2 E ct_X12_482 dX12_sell_13 ?_
  obtain ⟨r2, h2, hf⟩ := bn1_e hf
  refine j_invS [.int r1, .ref (z + aM 0)] [.int r2, .int r1, .ref (z + aM 0)] E (c_X12_in h2) ml_X12_282 ms_X12_in rfl ⟨le_ rfl, le_ rfl⟩ rfl rfl (le_ rfl) ⟨le_ rfl, le_ rfl⟩ dX12_sell_16 ?_
  refine j_if_eq E 38 (by decide) dX12_sell_19 (fun c1 => ?_) (fun c1 => ?_)
  · rw [if_pos c1] at hf
    refine j_iconst E 0 ic_0 dX12_sell_38 ?_
    refine j_iload E 0 rfl dX12_sell_39 ?_
    refine j_if_eq E 58 (by decide) dX12_sell_41 (fun c2 => ?_) (fun c2 => ?_)
    · rw [if_pos c2] at hf
      refine j_iconst E 0 ic_0 dX12_sell_58 ?_
      obtain ⟨r3, M1, h3, hf⟩ := bn2_e hf
      refine j_invV [] [.int r3] E (c_X12_passes3 h3) ml_X12_7 mv_X12_passes3 rfl ⟨le_ rfl, le_ rfl⟩ (rcM cf_X12) rfl rfl (le_ rfl) ⟨le_ rfl, le_ rfl⟩ dX12_sell_59 ?_
      refine j_if_ne E 67 (by decide) dX12_sell_62 (fun c3 => ?_) (fun c3 => ?_)
      · rw [if_neg c3] at hf
        refine j_aload_n E 1 rfl dX12_sell_67 ?_
        obtain ⟨M2, h4, hf⟩ := bn1_e hf
        refine j_invV [] [] E (c_X12_remember h4) ml_X12_409 mv_X12_remember rfl ⟨le_ rfl, le_ rfl⟩ (rcM cf_X12) rfl rfl (le_ rfl) ⟨le_ rfl, le_ rfl⟩ dX12_sell_68 ?_
        refine j_aload_n E 1 rfl dX12_sell_71 ?_
        refine j_iload_n E 2 rfl dX12_sell_72 ?_
        refine j_iload_n E 3 rfl dX12_sell_73 ?_
        refine j_iload_n E 4 rfl dX12_sell_74 ?_
        obtain ⟨r4, M3, h5, hf⟩ := bn2_e hf
        refine j_invV [] [.int r4] E (c_X12_sellNow h5) ml_X12_339 mv_X12_sellNow rfl ⟨le_ rfl, le_ rfl⟩ (rcM cf_X12) rfl rfl (le_ rfl) ⟨le_ rfl, le_ rfl⟩ dX12_sell_75 ?_
        cases hf
        exact j_iret E rfl (le_ rfl) (le_ rfl) dX12_sell_78
      · rw [if_pos c3] at hf
        refine j_iconst E 0 ic_0 dX12_sell_65 ?_
        cases hf
        exact j_iret E rfl (le_ rfl) (le_ rfl) dX12_sell_66
    · rw [if_neg c2] at hf
      refine j_aload_n E 1 rfl dX12_sell_44 ?_
      refine j_iload_n E 2 rfl dX12_sell_45 ?_
      refine j_iload_n E 3 rfl dX12_sell_46 ?_
      refine j_iload_n E 4 rfl dX12_sell_47 ?_
      obtain ⟨r5, h6, hf⟩ := bn1_e hf
      refine j_invV [.int 0, .int r1, .ref (z + aM 0)] [.int r5, .int 0, .int r1, .ref (z + aM 0)] E (c_X12_maySell h6) ml_X12_335 mv_X12_maySell rfl ⟨le_ rfl, le_ rfl⟩ (rcM cf_X12) rfl rfl (le_ rfl) ⟨le_ rfl, le_ rfl⟩ dX12_sell_48 ?_
      refine j_if_eq E 58 (by decide) dX12_sell_51 (fun c4 => ?_) (fun c4 => ?_)
      · rw [if_pos c4] at hf
        refine j_iconst E 0 ic_0 dX12_sell_58 ?_
        obtain ⟨r6, M4, h7, hf⟩ := bn2_e hf
        refine j_invV [] [.int r6] E (c_X12_passes3 h7) ml_X12_7 mv_X12_passes3 rfl ⟨le_ rfl, le_ rfl⟩ (rcM cf_X12) rfl rfl (le_ rfl) ⟨le_ rfl, le_ rfl⟩ dX12_sell_59 ?_
        refine j_if_ne E 67 (by decide) dX12_sell_62 (fun c5 => ?_) (fun c5 => ?_)
        · rw [if_neg c5] at hf
          refine j_aload_n E 1 rfl dX12_sell_67 ?_
          obtain ⟨M5, h8, hf⟩ := bn1_e hf
          refine j_invV [] [] E (c_X12_remember h8) ml_X12_409 mv_X12_remember rfl ⟨le_ rfl, le_ rfl⟩ (rcM cf_X12) rfl rfl (le_ rfl) ⟨le_ rfl, le_ rfl⟩ dX12_sell_68 ?_
          refine j_aload_n E 1 rfl dX12_sell_71 ?_
          refine j_iload_n E 2 rfl dX12_sell_72 ?_
          refine j_iload_n E 3 rfl dX12_sell_73 ?_
          refine j_iload_n E 4 rfl dX12_sell_74 ?_
          obtain ⟨r7, M6, h9, hf⟩ := bn2_e hf
          refine j_invV [] [.int r7] E (c_X12_sellNow h9) ml_X12_339 mv_X12_sellNow rfl ⟨le_ rfl, le_ rfl⟩ (rcM cf_X12) rfl rfl (le_ rfl) ⟨le_ rfl, le_ rfl⟩ dX12_sell_75 ?_
          cases hf
          exact j_iret E rfl (le_ rfl) (le_ rfl) dX12_sell_78
        · rw [if_pos c5] at hf
          refine j_iconst E 0 ic_0 dX12_sell_65 ?_
          cases hf
          exact j_iret E rfl (le_ rfl) (le_ rfl) dX12_sell_66
      · rw [if_neg c4] at hf
        refine j_iconst E 1 ic_1 dX12_sell_54 ?_
        refine j_goto E 59 (by decide) dX12_sell_55 ?_
        obtain ⟨r8, M7, h10, hf⟩ := bn2_e hf
        refine j_invV [] [.int r8] E (c_X12_passes3 h10) ml_X12_7 mv_X12_passes3 rfl ⟨le_ rfl, le_ rfl⟩ (rcM cf_X12) rfl rfl (le_ rfl) ⟨le_ rfl, le_ rfl⟩ dX12_sell_59 ?_
        refine j_if_ne E 67 (by decide) dX12_sell_62 (fun c6 => ?_) (fun c6 => ?_)
        · rw [if_neg c6] at hf
          refine j_aload_n E 1 rfl dX12_sell_67 ?_
          obtain ⟨M8, h11, hf⟩ := bn1_e hf
          refine j_invV [] [] E (c_X12_remember h11) ml_X12_409 mv_X12_remember rfl ⟨le_ rfl, le_ rfl⟩ (rcM cf_X12) rfl rfl (le_ rfl) ⟨le_ rfl, le_ rfl⟩ dX12_sell_68 ?_
          refine j_aload_n E 1 rfl dX12_sell_71 ?_
          refine j_iload_n E 2 rfl dX12_sell_72 ?_
          refine j_iload_n E 3 rfl dX12_sell_73 ?_
          refine j_iload_n E 4 rfl dX12_sell_74 ?_
          obtain ⟨r9, M9, h12, hf⟩ := bn2_e hf
          refine j_invV [] [.int r9] E (c_X12_sellNow h12) ml_X12_339 mv_X12_sellNow rfl ⟨le_ rfl, le_ rfl⟩ (rcM cf_X12) rfl rfl (le_ rfl) ⟨le_ rfl, le_ rfl⟩ dX12_sell_75 ?_
          cases hf
          exact j_iret E rfl (le_ rfl) (le_ rfl) dX12_sell_78
        · rw [if_pos c6] at hf
          refine j_iconst E 0 ic_0 dX12_sell_65 ?_
          cases hf
          exact j_iret E rfl (le_ rfl) (le_ rfl) dX12_sell_66
  · rw [if_neg c1] at hf
    refine j_iload_n E 4 rfl dX12_sell_22 ?_
    refine j_i2l E dX12_sell_23 ?_
    refine j_lconst E 1 rfl dX12_sell_24 ?_
    refine j_ldc2 E ct_X12_484 dX12_sell_25 ?_
    obtain ⟨r10, h13, hf⟩ := bn1_e hf
    refine j_invS [.int r1, .ref (z + aM 0)] [.int r10, .int r1, .ref (z + aM 0)] E (c_X12_in h13) ml_X12_282 ms_X12_in rfl ⟨le_ rfl, le_ rfl⟩ rfl rfl (le_ rfl) ⟨le_ rfl, le_ rfl⟩ dX12_sell_28 ?_
    refine j_if_eq E 38 (by decide) dX12_sell_31 (fun c7 => ?_) (fun c7 => ?_)
    · rw [if_pos c7] at hf
      refine j_iconst E 0 ic_0 dX12_sell_38 ?_
      refine j_iload E 0 rfl dX12_sell_39 ?_
      refine j_if_eq E 58 (by decide) dX12_sell_41 (fun c8 => ?_) (fun c8 => ?_)
      · rw [if_pos c8] at hf
        refine j_iconst E 0 ic_0 dX12_sell_58 ?_
        obtain ⟨r11, M10, h14, hf⟩ := bn2_e hf
        refine j_invV [] [.int r11] E (c_X12_passes3 h14) ml_X12_7 mv_X12_passes3 rfl ⟨le_ rfl, le_ rfl⟩ (rcM cf_X12) rfl rfl (le_ rfl) ⟨le_ rfl, le_ rfl⟩ dX12_sell_59 ?_
        refine j_if_ne E 67 (by decide) dX12_sell_62 (fun c9 => ?_) (fun c9 => ?_)
        · rw [if_neg c9] at hf
          refine j_aload_n E 1 rfl dX12_sell_67 ?_
          obtain ⟨M11, h15, hf⟩ := bn1_e hf
          refine j_invV [] [] E (c_X12_remember h15) ml_X12_409 mv_X12_remember rfl ⟨le_ rfl, le_ rfl⟩ (rcM cf_X12) rfl rfl (le_ rfl) ⟨le_ rfl, le_ rfl⟩ dX12_sell_68 ?_
          refine j_aload_n E 1 rfl dX12_sell_71 ?_
          refine j_iload_n E 2 rfl dX12_sell_72 ?_
          refine j_iload_n E 3 rfl dX12_sell_73 ?_
          refine j_iload_n E 4 rfl dX12_sell_74 ?_
          obtain ⟨r12, M12, h16, hf⟩ := bn2_e hf
          refine j_invV [] [.int r12] E (c_X12_sellNow h16) ml_X12_339 mv_X12_sellNow rfl ⟨le_ rfl, le_ rfl⟩ (rcM cf_X12) rfl rfl (le_ rfl) ⟨le_ rfl, le_ rfl⟩ dX12_sell_75 ?_
          cases hf
          exact j_iret E rfl (le_ rfl) (le_ rfl) dX12_sell_78
        · rw [if_pos c9] at hf
          refine j_iconst E 0 ic_0 dX12_sell_65 ?_
          cases hf
          exact j_iret E rfl (le_ rfl) (le_ rfl) dX12_sell_66
      · rw [if_neg c8] at hf
        refine j_aload_n E 1 rfl dX12_sell_44 ?_
        refine j_iload_n E 2 rfl dX12_sell_45 ?_
        refine j_iload_n E 3 rfl dX12_sell_46 ?_
        refine j_iload_n E 4 rfl dX12_sell_47 ?_
        obtain ⟨r13, h17, hf⟩ := bn1_e hf
        refine j_invV [.int 0, .int r1, .ref (z + aM 0)] [.int r13, .int 0, .int r1, .ref (z + aM 0)] E (c_X12_maySell h17) ml_X12_335 mv_X12_maySell rfl ⟨le_ rfl, le_ rfl⟩ (rcM cf_X12) rfl rfl (le_ rfl) ⟨le_ rfl, le_ rfl⟩ dX12_sell_48 ?_
        refine j_if_eq E 58 (by decide) dX12_sell_51 (fun c10 => ?_) (fun c10 => ?_)
        · rw [if_pos c10] at hf
          refine j_iconst E 0 ic_0 dX12_sell_58 ?_
          obtain ⟨r14, M13, h18, hf⟩ := bn2_e hf
          refine j_invV [] [.int r14] E (c_X12_passes3 h18) ml_X12_7 mv_X12_passes3 rfl ⟨le_ rfl, le_ rfl⟩ (rcM cf_X12) rfl rfl (le_ rfl) ⟨le_ rfl, le_ rfl⟩ dX12_sell_59 ?_
          refine j_if_ne E 67 (by decide) dX12_sell_62 (fun c11 => ?_) (fun c11 => ?_)
          · rw [if_neg c11] at hf
            refine j_aload_n E 1 rfl dX12_sell_67 ?_
            obtain ⟨M14, h19, hf⟩ := bn1_e hf
            refine j_invV [] [] E (c_X12_remember h19) ml_X12_409 mv_X12_remember rfl ⟨le_ rfl, le_ rfl⟩ (rcM cf_X12) rfl rfl (le_ rfl) ⟨le_ rfl, le_ rfl⟩ dX12_sell_68 ?_
            refine j_aload_n E 1 rfl dX12_sell_71 ?_
            refine j_iload_n E 2 rfl dX12_sell_72 ?_
            refine j_iload_n E 3 rfl dX12_sell_73 ?_
            refine j_iload_n E 4 rfl dX12_sell_74 ?_
            obtain ⟨r15, M15, h20, hf⟩ := bn2_e hf
            refine j_invV [] [.int r15] E (c_X12_sellNow h20) ml_X12_339 mv_X12_sellNow rfl ⟨le_ rfl, le_ rfl⟩ (rcM cf_X12) rfl rfl (le_ rfl) ⟨le_ rfl, le_ rfl⟩ dX12_sell_75 ?_
            cases hf
            exact j_iret E rfl (le_ rfl) (le_ rfl) dX12_sell_78
          · rw [if_pos c11] at hf
            refine j_iconst E 0 ic_0 dX12_sell_65 ?_
            cases hf
            exact j_iret E rfl (le_ rfl) (le_ rfl) dX12_sell_66
        · rw [if_neg c10] at hf
          refine j_iconst E 1 ic_1 dX12_sell_54 ?_
          refine j_goto E 59 (by decide) dX12_sell_55 ?_
          obtain ⟨r16, M16, h21, hf⟩ := bn2_e hf
          refine j_invV [] [.int r16] E (c_X12_passes3 h21) ml_X12_7 mv_X12_passes3 rfl ⟨le_ rfl, le_ rfl⟩ (rcM cf_X12) rfl rfl (le_ rfl) ⟨le_ rfl, le_ rfl⟩ dX12_sell_59 ?_
          refine j_if_ne E 67 (by decide) dX12_sell_62 (fun c12 => ?_) (fun c12 => ?_)
          · rw [if_neg c12] at hf
            refine j_aload_n E 1 rfl dX12_sell_67 ?_
            obtain ⟨M17, h22, hf⟩ := bn1_e hf
            refine j_invV [] [] E (c_X12_remember h22) ml_X12_409 mv_X12_remember rfl ⟨le_ rfl, le_ rfl⟩ (rcM cf_X12) rfl rfl (le_ rfl) ⟨le_ rfl, le_ rfl⟩ dX12_sell_68 ?_
            refine j_aload_n E 1 rfl dX12_sell_71 ?_
            refine j_iload_n E 2 rfl dX12_sell_72 ?_
            refine j_iload_n E 3 rfl dX12_sell_73 ?_
            refine j_iload_n E 4 rfl dX12_sell_74 ?_
            obtain ⟨r17, M18, h23, hf⟩ := bn2_e hf
            refine j_invV [] [.int r17] E (c_X12_sellNow h23) ml_X12_339 mv_X12_sellNow rfl ⟨le_ rfl, le_ rfl⟩ (rcM cf_X12) rfl rfl (le_ rfl) ⟨le_ rfl, le_ rfl⟩ dX12_sell_75 ?_
            cases hf
            exact j_iret E rfl (le_ rfl) (le_ rfl) dX12_sell_78
          · rw [if_pos c12] at hf
            refine j_iconst E 0 ic_0 dX12_sell_65 ?_
            cases hf
            exact j_iret E rfl (le_ rfl) (le_ rfl) dX12_sell_66
    · rw [if_neg c7] at hf
      refine j_iconst E 1 ic_1 dX12_sell_34 ?_
      refine j_goto E 39 (by decide) dX12_sell_35 ?_
      refine j_iload E 0 rfl dX12_sell_39 ?_
      refine j_if_eq E 58 (by decide) dX12_sell_41 (fun c13 => ?_) (fun c13 => ?_)
      · rw [if_pos c13] at hf
        refine j_iconst E 0 ic_0 dX12_sell_58 ?_
        obtain ⟨r18, M19, h24, hf⟩ := bn2_e hf
        refine j_invV [] [.int r18] E (c_X12_passes3 h24) ml_X12_7 mv_X12_passes3 rfl ⟨le_ rfl, le_ rfl⟩ (rcM cf_X12) rfl rfl (le_ rfl) ⟨le_ rfl, le_ rfl⟩ dX12_sell_59 ?_
        refine j_if_ne E 67 (by decide) dX12_sell_62 (fun c14 => ?_) (fun c14 => ?_)
        · rw [if_neg c14] at hf
          refine j_aload_n E 1 rfl dX12_sell_67 ?_
          obtain ⟨M20, h25, hf⟩ := bn1_e hf
          refine j_invV [] [] E (c_X12_remember h25) ml_X12_409 mv_X12_remember rfl ⟨le_ rfl, le_ rfl⟩ (rcM cf_X12) rfl rfl (le_ rfl) ⟨le_ rfl, le_ rfl⟩ dX12_sell_68 ?_
          refine j_aload_n E 1 rfl dX12_sell_71 ?_
          refine j_iload_n E 2 rfl dX12_sell_72 ?_
          refine j_iload_n E 3 rfl dX12_sell_73 ?_
          refine j_iload_n E 4 rfl dX12_sell_74 ?_
          obtain ⟨r19, M21, h26, hf⟩ := bn2_e hf
          refine j_invV [] [.int r19] E (c_X12_sellNow h26) ml_X12_339 mv_X12_sellNow rfl ⟨le_ rfl, le_ rfl⟩ (rcM cf_X12) rfl rfl (le_ rfl) ⟨le_ rfl, le_ rfl⟩ dX12_sell_75 ?_
          cases hf
          exact j_iret E rfl (le_ rfl) (le_ rfl) dX12_sell_78
        · rw [if_pos c14] at hf
          refine j_iconst E 0 ic_0 dX12_sell_65 ?_
          cases hf
          exact j_iret E rfl (le_ rfl) (le_ rfl) dX12_sell_66
      · rw [if_neg c13] at hf
        refine j_aload_n E 1 rfl dX12_sell_44 ?_
        refine j_iload_n E 2 rfl dX12_sell_45 ?_
        refine j_iload_n E 3 rfl dX12_sell_46 ?_
        refine j_iload_n E 4 rfl dX12_sell_47 ?_
        obtain ⟨r20, h27, hf⟩ := bn1_e hf
        refine j_invV [.int 1, .int r1, .ref (z + aM 0)] [.int r20, .int 1, .int r1, .ref (z + aM 0)] E (c_X12_maySell h27) ml_X12_335 mv_X12_maySell rfl ⟨le_ rfl, le_ rfl⟩ (rcM cf_X12) rfl rfl (le_ rfl) ⟨le_ rfl, le_ rfl⟩ dX12_sell_48 ?_
        refine j_if_eq E 58 (by decide) dX12_sell_51 (fun c15 => ?_) (fun c15 => ?_)
        · rw [if_pos c15] at hf
          refine j_iconst E 0 ic_0 dX12_sell_58 ?_
          obtain ⟨r21, M22, h28, hf⟩ := bn2_e hf
          refine j_invV [] [.int r21] E (c_X12_passes3 h28) ml_X12_7 mv_X12_passes3 rfl ⟨le_ rfl, le_ rfl⟩ (rcM cf_X12) rfl rfl (le_ rfl) ⟨le_ rfl, le_ rfl⟩ dX12_sell_59 ?_
          refine j_if_ne E 67 (by decide) dX12_sell_62 (fun c16 => ?_) (fun c16 => ?_)
          · rw [if_neg c16] at hf
            refine j_aload_n E 1 rfl dX12_sell_67 ?_
            obtain ⟨M23, h29, hf⟩ := bn1_e hf
            refine j_invV [] [] E (c_X12_remember h29) ml_X12_409 mv_X12_remember rfl ⟨le_ rfl, le_ rfl⟩ (rcM cf_X12) rfl rfl (le_ rfl) ⟨le_ rfl, le_ rfl⟩ dX12_sell_68 ?_
            refine j_aload_n E 1 rfl dX12_sell_71 ?_
            refine j_iload_n E 2 rfl dX12_sell_72 ?_
            refine j_iload_n E 3 rfl dX12_sell_73 ?_
            refine j_iload_n E 4 rfl dX12_sell_74 ?_
            obtain ⟨r22, M24, h30, hf⟩ := bn2_e hf
            refine j_invV [] [.int r22] E (c_X12_sellNow h30) ml_X12_339 mv_X12_sellNow rfl ⟨le_ rfl, le_ rfl⟩ (rcM cf_X12) rfl rfl (le_ rfl) ⟨le_ rfl, le_ rfl⟩ dX12_sell_75 ?_
            cases hf
            exact j_iret E rfl (le_ rfl) (le_ rfl) dX12_sell_78
          · rw [if_pos c16] at hf
            refine j_iconst E 0 ic_0 dX12_sell_65 ?_
            cases hf
            exact j_iret E rfl (le_ rfl) (le_ rfl) dX12_sell_66
        · rw [if_neg c15] at hf
          refine j_iconst E 1 ic_1 dX12_sell_54 ?_
          refine j_goto E 59 (by decide) dX12_sell_55 ?_
          obtain ⟨r23, M25, h31, hf⟩ := bn2_e hf
          refine j_invV [] [.int r23] E (c_X12_passes3 h31) ml_X12_7 mv_X12_passes3 rfl ⟨le_ rfl, le_ rfl⟩ (rcM cf_X12) rfl rfl (le_ rfl) ⟨le_ rfl, le_ rfl⟩ dX12_sell_59 ?_
          refine j_if_ne E 67 (by decide) dX12_sell_62 (fun c17 => ?_) (fun c17 => ?_)
          · rw [if_neg c17] at hf
            refine j_aload_n E 1 rfl dX12_sell_67 ?_
            obtain ⟨M26, h32, hf⟩ := bn1_e hf
            refine j_invV [] [] E (c_X12_remember h32) ml_X12_409 mv_X12_remember rfl ⟨le_ rfl, le_ rfl⟩ (rcM cf_X12) rfl rfl (le_ rfl) ⟨le_ rfl, le_ rfl⟩ dX12_sell_68 ?_
            refine j_aload_n E 1 rfl dX12_sell_71 ?_
            refine j_iload_n E 2 rfl dX12_sell_72 ?_
            refine j_iload_n E 3 rfl dX12_sell_73 ?_
            refine j_iload_n E 4 rfl dX12_sell_74 ?_
            obtain ⟨r24, M27, h33, hf⟩ := bn2_e hf
            refine j_invV [] [.int r24] E (c_X12_sellNow h33) ml_X12_339 mv_X12_sellNow rfl ⟨le_ rfl, le_ rfl⟩ (rcM cf_X12) rfl rfl (le_ rfl) ⟨le_ rfl, le_ rfl⟩ dX12_sell_75 ?_
            cases hf
            exact j_iret E rfl (le_ rfl) (le_ rfl) dX12_sell_78
          · rw [if_pos c17] at hf
            refine j_iconst E 0 ic_0 dX12_sell_65 ?_
            cases hf
            exact j_iret E rfl (le_ rfl) (le_ rfl) dX12_sell_66
def f_X12_payLoad (M : MT) (v1 : Int32) : Option (Int32 × MT) :=
  bn1 (f_X12_hasLoad M v1) (fun r1 => if r1 = 0 then (bn2 (f_X12_passes2 M r1 0) (fun r2 M1 => if r2 = 0 then (some (0, M1)) else (bn1 (f_X12_remember M1) (fun M2 => bn2 (f_X12_payNow M2 v1) (fun r3 M3 => some (r3, M3)))))) else (bn1 (f_X12_isOpen M v1) (fun r4 => if r4 = 0 then (bn2 (f_X12_passes2 M r1 0) (fun r5 M4 => if r5 = 0 then (some (0, M4)) else (bn1 (f_X12_remember M4) (fun M5 => bn2 (f_X12_payNow M5 v1) (fun r6 M6 => some (r6, M6)))))) else (bn1 (f_X12_valueNow M v1) (fun r7 => if (M.1 1 2) < r7 then (bn2 (f_X12_passes2 M r1 0) (fun r8 M7 => if r8 = 0 then (some (0, M7)) else (bn1 (f_X12_remember M7) (fun M8 => bn2 (f_X12_payNow M8 v1) (fun r9 M9 => some (r9, M9)))))) else (bn2 (f_X12_passes2 M r1 1) (fun r10 M10 => if r10 = 0 then (some (0, M10)) else (bn1 (f_X12_remember M10) (fun M11 => bn2 (f_X12_payNow M11 v1) (fun r11 M12 => some (r11, M12)))))))))))
set_option maxRecDepth 20000 in
theorem c_X12_payLoad {l : Launch} {D : DD} {z : Nat} {X : XT} {o : Int64} {f1 : Nat} {M : MT} {v1 : Int32} {r : Int32} {M' : MT} (hf : f_X12_payLoad M v1 = some (r, M')) : CC l yX12_payLoad cX12_payLoad 3 (some .int) (rmk 5 0 0) D z [.ref (z + aM 0), .int v1] (GG D z (X, (f1 + 1, M, o))) (some (.int r)) (GG D z (X, (f1 + 1, M', o))) := by
  unfold f_X12_payLoad at hf
  refine cc_of pn_X12 (le_ rfl) (ls := [(0, .ref (z + aM 0)), (1, .int v1)]) rfl ?_
  intro p e s m args below meth c E
  refine j_aload_n E 0 rfl dX12_payLoad_0 ?_
  refine j_iload_n E 1 rfl dX12_payLoad_1 ?_
  obtain ⟨r1, h1, hf⟩ := bn1_e hf
  refine j_invV [] [.int r1] E (c_X12_hasLoad h1) ml_X12_444 mv_X12_hasLoad rfl ⟨le_ rfl, le_ rfl⟩ (rcM cf_X12) rfl rfl (le_ rfl) ⟨le_ rfl, le_ rfl⟩ dX12_payLoad_2 ?_
  refine j_istore_n (ls' := [(2, .int r1), (0, .ref (z + aM 0)), (1, .int v1)]) E (lt_ rfl) rfl dX12_payLoad_5 ?_
  refine j_aload_n E 1 rfl dX12_payLoad_6 ?_
  refine j_iload_n E 0 rfl dX12_payLoad_7 ?_
  refine j_iload_n E 0 rfl dX12_payLoad_8 ?_
  refine j_if_eq E 38 (by decide) dX12_payLoad_9 (fun c1 => ?_) (fun c1 => ?_)
  · rw [if_pos c1] at hf
    refine j_iconst E 0 ic_0 dX12_payLoad_38 ?_
    obtain ⟨r2, M1, h2, hf⟩ := bn2_e hf
    refine j_invV [] [.int r2] E (c_X12_passes2 h2) ml_X12_458 mv_X12_passes2 rfl ⟨le_ rfl, le_ rfl⟩ (rcM cf_X12) rfl rfl (le_ rfl) ⟨le_ rfl, le_ rfl⟩ dX12_payLoad_39 ?_
    refine j_if_ne E 47 (by decide) dX12_payLoad_42 (fun c2 => ?_) (fun c2 => ?_)
    · rw [if_neg c2] at hf
      refine j_aload_n E 1 rfl dX12_payLoad_47 ?_
      obtain ⟨M2, h3, hf⟩ := bn1_e hf
      refine j_invV [] [] E (c_X12_remember h3) ml_X12_409 mv_X12_remember rfl ⟨le_ rfl, le_ rfl⟩ (rcM cf_X12) rfl rfl (le_ rfl) ⟨le_ rfl, le_ rfl⟩ dX12_payLoad_48 ?_
      refine j_aload_n E 1 rfl dX12_payLoad_51 ?_
      refine j_iload_n E 2 rfl dX12_payLoad_52 ?_
      obtain ⟨r3, M3, h4, hf⟩ := bn2_e hf
      refine j_invV [] [.int r3] E (c_X12_payNow h4) ml_X12_215 mv_X12_payNow rfl ⟨le_ rfl, le_ rfl⟩ (rcM cf_X12) rfl rfl (le_ rfl) ⟨le_ rfl, le_ rfl⟩ dX12_payLoad_53 ?_
      cases hf
      exact j_iret E rfl (le_ rfl) (le_ rfl) dX12_payLoad_56
    · rw [if_pos c2] at hf
      refine j_iconst E 0 ic_0 dX12_payLoad_45 ?_
      cases hf
      exact j_iret E rfl (le_ rfl) (le_ rfl) dX12_payLoad_46
  · rw [if_neg c1] at hf
    refine j_aload_n E 1 rfl dX12_payLoad_12 ?_
    refine j_iload_n E 2 rfl dX12_payLoad_13 ?_
    obtain ⟨r4, h5, hf⟩ := bn1_e hf
    refine j_invV [.int r1, .ref (z + aM 0)] [.int r4, .int r1, .ref (z + aM 0)] E (c_X12_isOpen h5) ml_X12_179 mv_X12_isOpen rfl ⟨le_ rfl, le_ rfl⟩ (rcM cf_X12) rfl rfl (le_ rfl) ⟨le_ rfl, le_ rfl⟩ dX12_payLoad_14 ?_
    refine j_if_eq E 38 (by decide) dX12_payLoad_17 (fun c3 => ?_) (fun c3 => ?_)
    · rw [if_pos c3] at hf
      refine j_iconst E 0 ic_0 dX12_payLoad_38 ?_
      obtain ⟨r5, M4, h6, hf⟩ := bn2_e hf
      refine j_invV [] [.int r5] E (c_X12_passes2 h6) ml_X12_458 mv_X12_passes2 rfl ⟨le_ rfl, le_ rfl⟩ (rcM cf_X12) rfl rfl (le_ rfl) ⟨le_ rfl, le_ rfl⟩ dX12_payLoad_39 ?_
      refine j_if_ne E 47 (by decide) dX12_payLoad_42 (fun c4 => ?_) (fun c4 => ?_)
      · rw [if_neg c4] at hf
        refine j_aload_n E 1 rfl dX12_payLoad_47 ?_
        obtain ⟨M5, h7, hf⟩ := bn1_e hf
        refine j_invV [] [] E (c_X12_remember h7) ml_X12_409 mv_X12_remember rfl ⟨le_ rfl, le_ rfl⟩ (rcM cf_X12) rfl rfl (le_ rfl) ⟨le_ rfl, le_ rfl⟩ dX12_payLoad_48 ?_
        refine j_aload_n E 1 rfl dX12_payLoad_51 ?_
        refine j_iload_n E 2 rfl dX12_payLoad_52 ?_
        obtain ⟨r6, M6, h8, hf⟩ := bn2_e hf
        refine j_invV [] [.int r6] E (c_X12_payNow h8) ml_X12_215 mv_X12_payNow rfl ⟨le_ rfl, le_ rfl⟩ (rcM cf_X12) rfl rfl (le_ rfl) ⟨le_ rfl, le_ rfl⟩ dX12_payLoad_53 ?_
        cases hf
        exact j_iret E rfl (le_ rfl) (le_ rfl) dX12_payLoad_56
      · rw [if_pos c4] at hf
        refine j_iconst E 0 ic_0 dX12_payLoad_45 ?_
        cases hf
        exact j_iret E rfl (le_ rfl) (le_ rfl) dX12_payLoad_46
    · rw [if_neg c3] at hf
      refine j_aload_n E 1 rfl dX12_payLoad_20 ?_
      refine j_iload_n E 2 rfl dX12_payLoad_21 ?_
      obtain ⟨r7, h9, hf⟩ := bn1_e hf
      refine j_invV [.int r1, .ref (z + aM 0)] [.int r7, .int r1, .ref (z + aM 0)] E (c_X12_valueNow h9) ml_X12_203 mv_X12_valueNow rfl ⟨le_ rfl, le_ rfl⟩ (rcM cf_X12) rfl rfl (le_ rfl) ⟨le_ rfl, le_ rfl⟩ dX12_payLoad_22 ?_
      refine j_aload_n E 1 rfl dX12_payLoad_25 ?_
      refine j_getM (f := 1) E cf_X12 fl_X12_17 (lt_ rfl) rfl rfl dX12_payLoad_26 ?_
      refine j_iconst E 2 ic_2 dX12_payLoad_29 ?_
      refine j_ialdM E (lt_ rfl) entM1 (vi_2 (lt_ rfl)) (2) tn_2 dX12_payLoad_30 ?_
      refine j_icmp_gt E 38 (by decide) dX12_payLoad_31 (fun c5 => ?_) (fun c5 => ?_)
      · rw [if_pos c5] at hf
        refine j_iconst E 0 ic_0 dX12_payLoad_38 ?_
        obtain ⟨r8, M7, h10, hf⟩ := bn2_e hf
        refine j_invV [] [.int r8] E (c_X12_passes2 h10) ml_X12_458 mv_X12_passes2 rfl ⟨le_ rfl, le_ rfl⟩ (rcM cf_X12) rfl rfl (le_ rfl) ⟨le_ rfl, le_ rfl⟩ dX12_payLoad_39 ?_
        refine j_if_ne E 47 (by decide) dX12_payLoad_42 (fun c6 => ?_) (fun c6 => ?_)
        · rw [if_neg c6] at hf
          refine j_aload_n E 1 rfl dX12_payLoad_47 ?_
          obtain ⟨M8, h11, hf⟩ := bn1_e hf
          refine j_invV [] [] E (c_X12_remember h11) ml_X12_409 mv_X12_remember rfl ⟨le_ rfl, le_ rfl⟩ (rcM cf_X12) rfl rfl (le_ rfl) ⟨le_ rfl, le_ rfl⟩ dX12_payLoad_48 ?_
          refine j_aload_n E 1 rfl dX12_payLoad_51 ?_
          refine j_iload_n E 2 rfl dX12_payLoad_52 ?_
          obtain ⟨r9, M9, h12, hf⟩ := bn2_e hf
          refine j_invV [] [.int r9] E (c_X12_payNow h12) ml_X12_215 mv_X12_payNow rfl ⟨le_ rfl, le_ rfl⟩ (rcM cf_X12) rfl rfl (le_ rfl) ⟨le_ rfl, le_ rfl⟩ dX12_payLoad_53 ?_
          cases hf
          exact j_iret E rfl (le_ rfl) (le_ rfl) dX12_payLoad_56
        · rw [if_pos c6] at hf
          refine j_iconst E 0 ic_0 dX12_payLoad_45 ?_
          cases hf
          exact j_iret E rfl (le_ rfl) (le_ rfl) dX12_payLoad_46
      · rw [if_neg c5] at hf
        refine j_iconst E 1 ic_1 dX12_payLoad_34 ?_
        refine j_goto E 39 (by decide) dX12_payLoad_35 ?_
        obtain ⟨r10, M10, h13, hf⟩ := bn2_e hf
        refine j_invV [] [.int r10] E (c_X12_passes2 h13) ml_X12_458 mv_X12_passes2 rfl ⟨le_ rfl, le_ rfl⟩ (rcM cf_X12) rfl rfl (le_ rfl) ⟨le_ rfl, le_ rfl⟩ dX12_payLoad_39 ?_
        refine j_if_ne E 47 (by decide) dX12_payLoad_42 (fun c7 => ?_) (fun c7 => ?_)
        · rw [if_neg c7] at hf
          refine j_aload_n E 1 rfl dX12_payLoad_47 ?_
          obtain ⟨M11, h14, hf⟩ := bn1_e hf
          refine j_invV [] [] E (c_X12_remember h14) ml_X12_409 mv_X12_remember rfl ⟨le_ rfl, le_ rfl⟩ (rcM cf_X12) rfl rfl (le_ rfl) ⟨le_ rfl, le_ rfl⟩ dX12_payLoad_48 ?_
          refine j_aload_n E 1 rfl dX12_payLoad_51 ?_
          refine j_iload_n E 2 rfl dX12_payLoad_52 ?_
          obtain ⟨r11, M12, h15, hf⟩ := bn2_e hf
          refine j_invV [] [.int r11] E (c_X12_payNow h15) ml_X12_215 mv_X12_payNow rfl ⟨le_ rfl, le_ rfl⟩ (rcM cf_X12) rfl rfl (le_ rfl) ⟨le_ rfl, le_ rfl⟩ dX12_payLoad_53 ?_
          cases hf
          exact j_iret E rfl (le_ rfl) (le_ rfl) dX12_payLoad_56
        · rw [if_pos c7] at hf
          refine j_iconst E 0 ic_0 dX12_payLoad_45 ?_
          cases hf
          exact j_iret E rfl (le_ rfl) (le_ rfl) dX12_payLoad_46
def f_X12_payGrower (M : MT) (v1 : Int32) : Option (Int32 × MT) :=
  bn1 (f_X12_hasGrower M v1) (fun r1 => if r1 = 0 then (bn2 (f_X12_passes2 M r1 0) (fun r2 M1 => if r2 = 0 then (some (0, M1)) else (bn1 (f_X12_remember M1) (fun M2 => bn2 (f_X12_payAllOf M2 v1) (fun r3 M3 => some (r3, M3)))))) else (bn1 (f_X12_mayPayGrower M v1) (fun r4 => if r4 = 0 then (bn2 (f_X12_passes2 M r1 0) (fun r5 M4 => if r5 = 0 then (some (0, M4)) else (bn1 (f_X12_remember M4) (fun M5 => bn2 (f_X12_payAllOf M5 v1) (fun r6 M6 => some (r6, M6)))))) else (bn2 (f_X12_passes2 M r1 1) (fun r7 M7 => if r7 = 0 then (some (0, M7)) else (bn1 (f_X12_remember M7) (fun M8 => bn2 (f_X12_payAllOf M8 v1) (fun r8 M9 => some (r8, M9)))))))))
set_option maxRecDepth 20000 in
theorem c_X12_payGrower {l : Launch} {D : DD} {z : Nat} {X : XT} {o : Int64} {f1 : Nat} {M : MT} {v1 : Int32} {r : Int32} {M' : MT} (hf : f_X12_payGrower M v1 = some (r, M')) : CC l yX12_payGrower cX12_payGrower 3 (some .int) (rmk 6 0 0) D z [.ref (z + aM 0), .int v1] (GG D z (X, (f1 + 1, M, o))) (some (.int r)) (GG D z (X, (f1 + 1, M', o))) := by
  unfold f_X12_payGrower at hf
  refine cc_of pn_X12 (le_ rfl) (ls := [(0, .ref (z + aM 0)), (1, .int v1)]) rfl ?_
  intro p e s m args below meth c E
  refine j_aload_n E 0 rfl dX12_payGrower_0 ?_
  refine j_iload_n E 1 rfl dX12_payGrower_1 ?_
  obtain ⟨r1, h1, hf⟩ := bn1_e hf
  refine j_invV [] [.int r1] E (c_X12_hasGrower h1) ml_X12_432 mv_X12_hasGrower rfl ⟨le_ rfl, le_ rfl⟩ (rcM cf_X12) rfl rfl (le_ rfl) ⟨le_ rfl, le_ rfl⟩ dX12_payGrower_2 ?_
  refine j_istore_n (ls' := [(2, .int r1), (0, .ref (z + aM 0)), (1, .int v1)]) E (lt_ rfl) rfl dX12_payGrower_5 ?_
  refine j_aload_n E 1 rfl dX12_payGrower_6 ?_
  refine j_iload_n E 0 rfl dX12_payGrower_7 ?_
  refine j_iload_n E 0 rfl dX12_payGrower_8 ?_
  refine j_if_eq E 24 (by decide) dX12_payGrower_9 (fun c1 => ?_) (fun c1 => ?_)
  · rw [if_pos c1] at hf
    refine j_iconst E 0 ic_0 dX12_payGrower_24 ?_
    obtain ⟨r2, M1, h2, hf⟩ := bn2_e hf
    refine j_invV [] [.int r2] E (c_X12_passes2 h2) ml_X12_458 mv_X12_passes2 rfl ⟨le_ rfl, le_ rfl⟩ (rcM cf_X12) rfl rfl (le_ rfl) ⟨le_ rfl, le_ rfl⟩ dX12_payGrower_25 ?_
    refine j_if_ne E 33 (by decide) dX12_payGrower_28 (fun c2 => ?_) (fun c2 => ?_)
    · rw [if_neg c2] at hf
      refine j_aload_n E 1 rfl dX12_payGrower_33 ?_
      obtain ⟨M2, h3, hf⟩ := bn1_e hf
      refine j_invV [] [] E (c_X12_remember h3) ml_X12_409 mv_X12_remember rfl ⟨le_ rfl, le_ rfl⟩ (rcM cf_X12) rfl rfl (le_ rfl) ⟨le_ rfl, le_ rfl⟩ dX12_payGrower_34 ?_
      refine j_aload_n E 1 rfl dX12_payGrower_37 ?_
      refine j_iload_n E 2 rfl dX12_payGrower_38 ?_
      obtain ⟨r3, M3, h4, hf⟩ := bn2_e hf
      refine j_invV [] [.int r3] E (c_X12_payAllOf h4) ml_X12_345 mv_X12_payAllOf rfl ⟨le_ rfl, le_ rfl⟩ (rcM cf_X12) rfl rfl (le_ rfl) ⟨le_ rfl, le_ rfl⟩ dX12_payGrower_39 ?_
      cases hf
      exact j_iret E rfl (le_ rfl) (le_ rfl) dX12_payGrower_42
    · rw [if_pos c2] at hf
      refine j_iconst E 0 ic_0 dX12_payGrower_31 ?_
      cases hf
      exact j_iret E rfl (le_ rfl) (le_ rfl) dX12_payGrower_32
  · rw [if_neg c1] at hf
    refine j_aload_n E 1 rfl dX12_payGrower_12 ?_
    refine j_iload_n E 2 rfl dX12_payGrower_13 ?_
    obtain ⟨r4, h5, hf⟩ := bn1_e hf
    refine j_invV [.int r1, .ref (z + aM 0)] [.int r4, .int r1, .ref (z + aM 0)] E (c_X12_mayPayGrower h5) ml_X12_342 mv_X12_mayPayGrower rfl ⟨le_ rfl, le_ rfl⟩ (rcM cf_X12) rfl rfl (le_ rfl) ⟨le_ rfl, le_ rfl⟩ dX12_payGrower_14 ?_
    refine j_if_eq E 24 (by decide) dX12_payGrower_17 (fun c3 => ?_) (fun c3 => ?_)
    · rw [if_pos c3] at hf
      refine j_iconst E 0 ic_0 dX12_payGrower_24 ?_
      obtain ⟨r5, M4, h6, hf⟩ := bn2_e hf
      refine j_invV [] [.int r5] E (c_X12_passes2 h6) ml_X12_458 mv_X12_passes2 rfl ⟨le_ rfl, le_ rfl⟩ (rcM cf_X12) rfl rfl (le_ rfl) ⟨le_ rfl, le_ rfl⟩ dX12_payGrower_25 ?_
      refine j_if_ne E 33 (by decide) dX12_payGrower_28 (fun c4 => ?_) (fun c4 => ?_)
      · rw [if_neg c4] at hf
        refine j_aload_n E 1 rfl dX12_payGrower_33 ?_
        obtain ⟨M5, h7, hf⟩ := bn1_e hf
        refine j_invV [] [] E (c_X12_remember h7) ml_X12_409 mv_X12_remember rfl ⟨le_ rfl, le_ rfl⟩ (rcM cf_X12) rfl rfl (le_ rfl) ⟨le_ rfl, le_ rfl⟩ dX12_payGrower_34 ?_
        refine j_aload_n E 1 rfl dX12_payGrower_37 ?_
        refine j_iload_n E 2 rfl dX12_payGrower_38 ?_
        obtain ⟨r6, M6, h8, hf⟩ := bn2_e hf
        refine j_invV [] [.int r6] E (c_X12_payAllOf h8) ml_X12_345 mv_X12_payAllOf rfl ⟨le_ rfl, le_ rfl⟩ (rcM cf_X12) rfl rfl (le_ rfl) ⟨le_ rfl, le_ rfl⟩ dX12_payGrower_39 ?_
        cases hf
        exact j_iret E rfl (le_ rfl) (le_ rfl) dX12_payGrower_42
      · rw [if_pos c4] at hf
        refine j_iconst E 0 ic_0 dX12_payGrower_31 ?_
        cases hf
        exact j_iret E rfl (le_ rfl) (le_ rfl) dX12_payGrower_32
    · rw [if_neg c3] at hf
      refine j_iconst E 1 ic_1 dX12_payGrower_20 ?_
      refine j_goto E 25 (by decide) dX12_payGrower_21 ?_
      obtain ⟨r7, M7, h9, hf⟩ := bn2_e hf
      refine j_invV [] [.int r7] E (c_X12_passes2 h9) ml_X12_458 mv_X12_passes2 rfl ⟨le_ rfl, le_ rfl⟩ (rcM cf_X12) rfl rfl (le_ rfl) ⟨le_ rfl, le_ rfl⟩ dX12_payGrower_25 ?_
      refine j_if_ne E 33 (by decide) dX12_payGrower_28 (fun c5 => ?_) (fun c5 => ?_)
      · rw [if_neg c5] at hf
        refine j_aload_n E 1 rfl dX12_payGrower_33 ?_
        obtain ⟨M8, h10, hf⟩ := bn1_e hf
        refine j_invV [] [] E (c_X12_remember h10) ml_X12_409 mv_X12_remember rfl ⟨le_ rfl, le_ rfl⟩ (rcM cf_X12) rfl rfl (le_ rfl) ⟨le_ rfl, le_ rfl⟩ dX12_payGrower_34 ?_
        refine j_aload_n E 1 rfl dX12_payGrower_37 ?_
        refine j_iload_n E 2 rfl dX12_payGrower_38 ?_
        obtain ⟨r8, M9, h11, hf⟩ := bn2_e hf
        refine j_invV [] [.int r8] E (c_X12_payAllOf h11) ml_X12_345 mv_X12_payAllOf rfl ⟨le_ rfl, le_ rfl⟩ (rcM cf_X12) rfl rfl (le_ rfl) ⟨le_ rfl, le_ rfl⟩ dX12_payGrower_39 ?_
        cases hf
        exact j_iret E rfl (le_ rfl) (le_ rfl) dX12_payGrower_42
      · rw [if_pos c5] at hf
        refine j_iconst E 0 ic_0 dX12_payGrower_31 ?_
        cases hf
        exact j_iret E rfl (le_ rfl) (le_ rfl) dX12_payGrower_32
def f_X12_pump (M : MT) (v1 : Int32) (v2 : Int32) : Option (Int32 × MT) :=
  bn1 (f_X12_hasTank M v1) (fun r1 => if r1 = 0 then (if v1 = v2 then (bn2 (f_X12_passes3 M 0 0 0) (fun r2 M1 => if r2 = 0 then (some (0, M1)) else (bn1 (f_X12_remember M1) (fun M2 => bn2 (f_X12_pumpNow M2 v1 v2) (fun r3 M3 => some (r3, M3)))))) else (bn2 (f_X12_passes3 M 0 1 0) (fun r4 M4 => if r4 = 0 then (some (0, M4)) else (bn1 (f_X12_remember M4) (fun M5 => bn2 (f_X12_pumpNow M5 v1 v2) (fun r5 M6 => some (r5, M6))))))) else (bn1 (f_X12_hasTank M v2) (fun r6 => if r6 = 0 then (if v1 = v2 then (bn2 (f_X12_passes3 M 0 0 0) (fun r7 M7 => if r7 = 0 then (some (0, M7)) else (bn1 (f_X12_remember M7) (fun M8 => bn2 (f_X12_pumpNow M8 v1 v2) (fun r8 M9 => some (r8, M9)))))) else (bn2 (f_X12_passes3 M 0 1 0) (fun r9 M10 => if r9 = 0 then (some (0, M10)) else (bn1 (f_X12_remember M10) (fun M11 => bn2 (f_X12_pumpNow M11 v1 v2) (fun r10 M12 => some (r10, M12))))))) else (if v1 = v2 then (bn1 (f_X12_mayPump M v1 v2) (fun r11 => if r11 = 0 then (bn2 (f_X12_passes3 M 1 0 0) (fun r12 M13 => if r12 = 0 then (some (0, M13)) else (bn1 (f_X12_remember M13) (fun M14 => bn2 (f_X12_pumpNow M14 v1 v2) (fun r13 M15 => some (r13, M15)))))) else (bn2 (f_X12_passes3 M 1 0 1) (fun r14 M16 => if r14 = 0 then (some (0, M16)) else (bn1 (f_X12_remember M16) (fun M17 => bn2 (f_X12_pumpNow M17 v1 v2) (fun r15 M18 => some (r15, M18)))))))) else (bn1 (f_X12_mayPump M v1 v2) (fun r16 => if r16 = 0 then (bn2 (f_X12_passes3 M 1 1 0) (fun r17 M19 => if r17 = 0 then (some (0, M19)) else (bn1 (f_X12_remember M19) (fun M20 => bn2 (f_X12_pumpNow M20 v1 v2) (fun r18 M21 => some (r18, M21)))))) else (bn2 (f_X12_passes3 M 1 1 1) (fun r19 M22 => if r19 = 0 then (some (0, M22)) else (bn1 (f_X12_remember M22) (fun M23 => bn2 (f_X12_pumpNow M23 v1 v2) (fun r20 M24 => some (r20, M24))))))))))))
set_option maxRecDepth 20000 in
theorem c_X12_pump {l : Launch} {D : DD} {z : Nat} {X : XT} {o : Int64} {f1 : Nat} {M : MT} {v1 : Int32} {v2 : Int32} {r : Int32} {M' : MT} (hf : f_X12_pump M v1 v2 = some (r, M')) : CC l yX12_pump cX12_pump 4 (some .int) (rmk 4 0 0) D z [.ref (z + aM 0), .int v1, .int v2] (GG D z (X, (f1 + 1, M, o))) (some (.int r)) (GG D z (X, (f1 + 1, M', o))) := by
  unfold f_X12_pump at hf
  refine cc_of pn_X12 (le_ rfl) (ls := [(0, .ref (z + aM 0)), (1, .int v1), (2, .int v2)]) rfl ?_
  intro p e s m args below meth c E
  refine j_aload_n E 0 rfl dX12_pump_0 ?_
  refine j_iload_n E 1 rfl dX12_pump_1 ?_
  obtain ⟨r1, h1, hf⟩ := bn1_e hf
  refine j_invV [] [.int r1] E (c_X12_hasTank h1) ml_X12_450 mv_X12_hasTank rfl ⟨le_ rfl, le_ rfl⟩ (rcM cf_X12) rfl rfl (le_ rfl) ⟨le_ rfl, le_ rfl⟩ dX12_pump_2 ?_
  refine j_if_eq E 20 (by decide) dX12_pump_5 (fun c1 => ?_) (fun c1 => ?_)
  · rw [if_pos c1] at hf
    refine j_iconst E 0 ic_0 dX12_pump_20 ?_
    refine j_istore_n (ls' := [(3, .int 0), (0, .ref (z + aM 0)), (1, .int v1), (2, .int v2)]) E (lt_ rfl) rfl dX12_pump_21 ?_
    refine j_aload_n E 1 rfl dX12_pump_22 ?_
    refine j_iload_n E 0 rfl dX12_pump_23 ?_
    refine j_iload_n E 2 rfl dX12_pump_24 ?_
    refine j_iload_n E 3 rfl dX12_pump_25 ?_
    refine j_icmp_eq E 33 (by decide) dX12_pump_26 (fun c2 => ?_) (fun c2 => ?_)
    · rw [if_pos c2] at hf
      refine j_iconst E 0 ic_0 dX12_pump_33 ?_
      refine j_iload_n E 0 rfl dX12_pump_34 ?_
      refine j_if_eq E 51 (by decide) dX12_pump_35 (fun _ => ?_) (fun q => absurd q (by decide))
      refine j_iconst E 0 ic_0 dX12_pump_51 ?_
      obtain ⟨r2, M1, h2, hf⟩ := bn2_e hf
      refine j_invV [] [.int r2] E (c_X12_passes3 h2) ml_X12_7 mv_X12_passes3 rfl ⟨le_ rfl, le_ rfl⟩ (rcM cf_X12) rfl rfl (le_ rfl) ⟨le_ rfl, le_ rfl⟩ dX12_pump_52 ?_
      refine j_if_ne E 60 (by decide) dX12_pump_55 (fun c3 => ?_) (fun c3 => ?_)
      · rw [if_neg c3] at hf
        refine j_aload_n E 1 rfl dX12_pump_60 ?_
        obtain ⟨M2, h3, hf⟩ := bn1_e hf
        refine j_invV [] [] E (c_X12_remember h3) ml_X12_409 mv_X12_remember rfl ⟨le_ rfl, le_ rfl⟩ (rcM cf_X12) rfl rfl (le_ rfl) ⟨le_ rfl, le_ rfl⟩ dX12_pump_61 ?_
        refine j_aload_n E 1 rfl dX12_pump_64 ?_
        refine j_iload_n E 2 rfl dX12_pump_65 ?_
        refine j_iload_n E 3 rfl dX12_pump_66 ?_
        obtain ⟨r3, M3, h4, hf⟩ := bn2_e hf
        refine j_invV [] [.int r3] E (c_X12_pumpNow h4) ml_X12_351 mv_X12_pumpNow rfl ⟨le_ rfl, le_ rfl⟩ (rcM cf_X12) rfl rfl (le_ rfl) ⟨le_ rfl, le_ rfl⟩ dX12_pump_67 ?_
        cases hf
        exact j_iret E rfl (le_ rfl) (le_ rfl) dX12_pump_70
      · rw [if_pos c3] at hf
        refine j_iconst E 0 ic_0 dX12_pump_58 ?_
        cases hf
        exact j_iret E rfl (le_ rfl) (le_ rfl) dX12_pump_59
    · rw [if_neg c2] at hf
      refine j_iconst E 1 ic_1 dX12_pump_29 ?_
      refine j_goto E 34 (by decide) dX12_pump_30 ?_
      refine j_iload_n E 0 rfl dX12_pump_34 ?_
      refine j_if_eq E 51 (by decide) dX12_pump_35 (fun _ => ?_) (fun q => absurd q (by decide))
      refine j_iconst E 0 ic_0 dX12_pump_51 ?_
      obtain ⟨r4, M4, h5, hf⟩ := bn2_e hf
      refine j_invV [] [.int r4] E (c_X12_passes3 h5) ml_X12_7 mv_X12_passes3 rfl ⟨le_ rfl, le_ rfl⟩ (rcM cf_X12) rfl rfl (le_ rfl) ⟨le_ rfl, le_ rfl⟩ dX12_pump_52 ?_
      refine j_if_ne E 60 (by decide) dX12_pump_55 (fun c4 => ?_) (fun c4 => ?_)
      · rw [if_neg c4] at hf
        refine j_aload_n E 1 rfl dX12_pump_60 ?_
        obtain ⟨M5, h6, hf⟩ := bn1_e hf
        refine j_invV [] [] E (c_X12_remember h6) ml_X12_409 mv_X12_remember rfl ⟨le_ rfl, le_ rfl⟩ (rcM cf_X12) rfl rfl (le_ rfl) ⟨le_ rfl, le_ rfl⟩ dX12_pump_61 ?_
        refine j_aload_n E 1 rfl dX12_pump_64 ?_
        refine j_iload_n E 2 rfl dX12_pump_65 ?_
        refine j_iload_n E 3 rfl dX12_pump_66 ?_
        obtain ⟨r5, M6, h7, hf⟩ := bn2_e hf
        refine j_invV [] [.int r5] E (c_X12_pumpNow h7) ml_X12_351 mv_X12_pumpNow rfl ⟨le_ rfl, le_ rfl⟩ (rcM cf_X12) rfl rfl (le_ rfl) ⟨le_ rfl, le_ rfl⟩ dX12_pump_67 ?_
        cases hf
        exact j_iret E rfl (le_ rfl) (le_ rfl) dX12_pump_70
      · rw [if_pos c4] at hf
        refine j_iconst E 0 ic_0 dX12_pump_58 ?_
        cases hf
        exact j_iret E rfl (le_ rfl) (le_ rfl) dX12_pump_59
  · rw [if_neg c1] at hf
    refine j_aload_n E 0 rfl dX12_pump_8 ?_
    refine j_iload_n E 2 rfl dX12_pump_9 ?_
    obtain ⟨r6, h8, hf⟩ := bn1_e hf
    refine j_invV [] [.int r6] E (c_X12_hasTank h8) ml_X12_450 mv_X12_hasTank rfl ⟨le_ rfl, le_ rfl⟩ (rcM cf_X12) rfl rfl (le_ rfl) ⟨le_ rfl, le_ rfl⟩ dX12_pump_10 ?_
    refine j_if_eq E 20 (by decide) dX12_pump_13 (fun c5 => ?_) (fun c5 => ?_)
    · rw [if_pos c5] at hf
      refine j_iconst E 0 ic_0 dX12_pump_20 ?_
      refine j_istore_n (ls' := [(3, .int 0), (0, .ref (z + aM 0)), (1, .int v1), (2, .int v2)]) E (lt_ rfl) rfl dX12_pump_21 ?_
      refine j_aload_n E 1 rfl dX12_pump_22 ?_
      refine j_iload_n E 0 rfl dX12_pump_23 ?_
      refine j_iload_n E 2 rfl dX12_pump_24 ?_
      refine j_iload_n E 3 rfl dX12_pump_25 ?_
      refine j_icmp_eq E 33 (by decide) dX12_pump_26 (fun c6 => ?_) (fun c6 => ?_)
      · rw [if_pos c6] at hf
        refine j_iconst E 0 ic_0 dX12_pump_33 ?_
        refine j_iload_n E 0 rfl dX12_pump_34 ?_
        refine j_if_eq E 51 (by decide) dX12_pump_35 (fun _ => ?_) (fun q => absurd q (by decide))
        refine j_iconst E 0 ic_0 dX12_pump_51 ?_
        obtain ⟨r7, M7, h9, hf⟩ := bn2_e hf
        refine j_invV [] [.int r7] E (c_X12_passes3 h9) ml_X12_7 mv_X12_passes3 rfl ⟨le_ rfl, le_ rfl⟩ (rcM cf_X12) rfl rfl (le_ rfl) ⟨le_ rfl, le_ rfl⟩ dX12_pump_52 ?_
        refine j_if_ne E 60 (by decide) dX12_pump_55 (fun c7 => ?_) (fun c7 => ?_)
        · rw [if_neg c7] at hf
          refine j_aload_n E 1 rfl dX12_pump_60 ?_
          obtain ⟨M8, h10, hf⟩ := bn1_e hf
          refine j_invV [] [] E (c_X12_remember h10) ml_X12_409 mv_X12_remember rfl ⟨le_ rfl, le_ rfl⟩ (rcM cf_X12) rfl rfl (le_ rfl) ⟨le_ rfl, le_ rfl⟩ dX12_pump_61 ?_
          refine j_aload_n E 1 rfl dX12_pump_64 ?_
          refine j_iload_n E 2 rfl dX12_pump_65 ?_
          refine j_iload_n E 3 rfl dX12_pump_66 ?_
          obtain ⟨r8, M9, h11, hf⟩ := bn2_e hf
          refine j_invV [] [.int r8] E (c_X12_pumpNow h11) ml_X12_351 mv_X12_pumpNow rfl ⟨le_ rfl, le_ rfl⟩ (rcM cf_X12) rfl rfl (le_ rfl) ⟨le_ rfl, le_ rfl⟩ dX12_pump_67 ?_
          cases hf
          exact j_iret E rfl (le_ rfl) (le_ rfl) dX12_pump_70
        · rw [if_pos c7] at hf
          refine j_iconst E 0 ic_0 dX12_pump_58 ?_
          cases hf
          exact j_iret E rfl (le_ rfl) (le_ rfl) dX12_pump_59
      · rw [if_neg c6] at hf
        refine j_iconst E 1 ic_1 dX12_pump_29 ?_
        refine j_goto E 34 (by decide) dX12_pump_30 ?_
        refine j_iload_n E 0 rfl dX12_pump_34 ?_
        refine j_if_eq E 51 (by decide) dX12_pump_35 (fun _ => ?_) (fun q => absurd q (by decide))
        refine j_iconst E 0 ic_0 dX12_pump_51 ?_
        obtain ⟨r9, M10, h12, hf⟩ := bn2_e hf
        refine j_invV [] [.int r9] E (c_X12_passes3 h12) ml_X12_7 mv_X12_passes3 rfl ⟨le_ rfl, le_ rfl⟩ (rcM cf_X12) rfl rfl (le_ rfl) ⟨le_ rfl, le_ rfl⟩ dX12_pump_52 ?_
        refine j_if_ne E 60 (by decide) dX12_pump_55 (fun c8 => ?_) (fun c8 => ?_)
        · rw [if_neg c8] at hf
          refine j_aload_n E 1 rfl dX12_pump_60 ?_
          obtain ⟨M11, h13, hf⟩ := bn1_e hf
          refine j_invV [] [] E (c_X12_remember h13) ml_X12_409 mv_X12_remember rfl ⟨le_ rfl, le_ rfl⟩ (rcM cf_X12) rfl rfl (le_ rfl) ⟨le_ rfl, le_ rfl⟩ dX12_pump_61 ?_
          refine j_aload_n E 1 rfl dX12_pump_64 ?_
          refine j_iload_n E 2 rfl dX12_pump_65 ?_
          refine j_iload_n E 3 rfl dX12_pump_66 ?_
          obtain ⟨r10, M12, h14, hf⟩ := bn2_e hf
          refine j_invV [] [.int r10] E (c_X12_pumpNow h14) ml_X12_351 mv_X12_pumpNow rfl ⟨le_ rfl, le_ rfl⟩ (rcM cf_X12) rfl rfl (le_ rfl) ⟨le_ rfl, le_ rfl⟩ dX12_pump_67 ?_
          cases hf
          exact j_iret E rfl (le_ rfl) (le_ rfl) dX12_pump_70
        · rw [if_pos c8] at hf
          refine j_iconst E 0 ic_0 dX12_pump_58 ?_
          cases hf
          exact j_iret E rfl (le_ rfl) (le_ rfl) dX12_pump_59
    · rw [if_neg c5] at hf
      refine j_iconst E 1 ic_1 dX12_pump_16 ?_
      refine j_goto E 21 (by decide) dX12_pump_17 ?_
      refine j_istore_n (ls' := [(3, .int 1), (0, .ref (z + aM 0)), (1, .int v1), (2, .int v2)]) E (lt_ rfl) rfl dX12_pump_21 ?_
      refine j_aload_n E 1 rfl dX12_pump_22 ?_
      refine j_iload_n E 0 rfl dX12_pump_23 ?_
      refine j_iload_n E 2 rfl dX12_pump_24 ?_
      refine j_iload_n E 3 rfl dX12_pump_25 ?_
      refine j_icmp_eq E 33 (by decide) dX12_pump_26 (fun c9 => ?_) (fun c9 => ?_)
      · rw [if_pos c9] at hf
        refine j_iconst E 0 ic_0 dX12_pump_33 ?_
        refine j_iload_n E 0 rfl dX12_pump_34 ?_
        refine j_if_eq E 51 (by decide) dX12_pump_35 (fun q => absurd q (by decide)) (fun _ => ?_)
        refine j_aload_n E 1 rfl dX12_pump_38 ?_
        refine j_iload_n E 2 rfl dX12_pump_39 ?_
        refine j_iload_n E 3 rfl dX12_pump_40 ?_
        obtain ⟨r11, h15, hf⟩ := bn1_e hf
        refine j_invV [.int 0, .int 1, .ref (z + aM 0)] [.int r11, .int 0, .int 1, .ref (z + aM 0)] E (c_X12_mayPump h15) ml_X12_348 mv_X12_mayPump rfl ⟨le_ rfl, le_ rfl⟩ (rcM cf_X12) rfl rfl (le_ rfl) ⟨le_ rfl, le_ rfl⟩ dX12_pump_41 ?_
        refine j_if_eq E 51 (by decide) dX12_pump_44 (fun c10 => ?_) (fun c10 => ?_)
        · rw [if_pos c10] at hf
          refine j_iconst E 0 ic_0 dX12_pump_51 ?_
          obtain ⟨r12, M13, h16, hf⟩ := bn2_e hf
          refine j_invV [] [.int r12] E (c_X12_passes3 h16) ml_X12_7 mv_X12_passes3 rfl ⟨le_ rfl, le_ rfl⟩ (rcM cf_X12) rfl rfl (le_ rfl) ⟨le_ rfl, le_ rfl⟩ dX12_pump_52 ?_
          refine j_if_ne E 60 (by decide) dX12_pump_55 (fun c11 => ?_) (fun c11 => ?_)
          · rw [if_neg c11] at hf
            refine j_aload_n E 1 rfl dX12_pump_60 ?_
            obtain ⟨M14, h17, hf⟩ := bn1_e hf
            refine j_invV [] [] E (c_X12_remember h17) ml_X12_409 mv_X12_remember rfl ⟨le_ rfl, le_ rfl⟩ (rcM cf_X12) rfl rfl (le_ rfl) ⟨le_ rfl, le_ rfl⟩ dX12_pump_61 ?_
            refine j_aload_n E 1 rfl dX12_pump_64 ?_
            refine j_iload_n E 2 rfl dX12_pump_65 ?_
            refine j_iload_n E 3 rfl dX12_pump_66 ?_
            obtain ⟨r13, M15, h18, hf⟩ := bn2_e hf
            refine j_invV [] [.int r13] E (c_X12_pumpNow h18) ml_X12_351 mv_X12_pumpNow rfl ⟨le_ rfl, le_ rfl⟩ (rcM cf_X12) rfl rfl (le_ rfl) ⟨le_ rfl, le_ rfl⟩ dX12_pump_67 ?_
            cases hf
            exact j_iret E rfl (le_ rfl) (le_ rfl) dX12_pump_70
          · rw [if_pos c11] at hf
            refine j_iconst E 0 ic_0 dX12_pump_58 ?_
            cases hf
            exact j_iret E rfl (le_ rfl) (le_ rfl) dX12_pump_59
        · rw [if_neg c10] at hf
          refine j_iconst E 1 ic_1 dX12_pump_47 ?_
          refine j_goto E 52 (by decide) dX12_pump_48 ?_
          obtain ⟨r14, M16, h19, hf⟩ := bn2_e hf
          refine j_invV [] [.int r14] E (c_X12_passes3 h19) ml_X12_7 mv_X12_passes3 rfl ⟨le_ rfl, le_ rfl⟩ (rcM cf_X12) rfl rfl (le_ rfl) ⟨le_ rfl, le_ rfl⟩ dX12_pump_52 ?_
          refine j_if_ne E 60 (by decide) dX12_pump_55 (fun c12 => ?_) (fun c12 => ?_)
          · rw [if_neg c12] at hf
            refine j_aload_n E 1 rfl dX12_pump_60 ?_
            obtain ⟨M17, h20, hf⟩ := bn1_e hf
            refine j_invV [] [] E (c_X12_remember h20) ml_X12_409 mv_X12_remember rfl ⟨le_ rfl, le_ rfl⟩ (rcM cf_X12) rfl rfl (le_ rfl) ⟨le_ rfl, le_ rfl⟩ dX12_pump_61 ?_
            refine j_aload_n E 1 rfl dX12_pump_64 ?_
            refine j_iload_n E 2 rfl dX12_pump_65 ?_
            refine j_iload_n E 3 rfl dX12_pump_66 ?_
            obtain ⟨r15, M18, h21, hf⟩ := bn2_e hf
            refine j_invV [] [.int r15] E (c_X12_pumpNow h21) ml_X12_351 mv_X12_pumpNow rfl ⟨le_ rfl, le_ rfl⟩ (rcM cf_X12) rfl rfl (le_ rfl) ⟨le_ rfl, le_ rfl⟩ dX12_pump_67 ?_
            cases hf
            exact j_iret E rfl (le_ rfl) (le_ rfl) dX12_pump_70
          · rw [if_pos c12] at hf
            refine j_iconst E 0 ic_0 dX12_pump_58 ?_
            cases hf
            exact j_iret E rfl (le_ rfl) (le_ rfl) dX12_pump_59
      · rw [if_neg c9] at hf
        refine j_iconst E 1 ic_1 dX12_pump_29 ?_
        refine j_goto E 34 (by decide) dX12_pump_30 ?_
        refine j_iload_n E 0 rfl dX12_pump_34 ?_
        refine j_if_eq E 51 (by decide) dX12_pump_35 (fun q => absurd q (by decide)) (fun _ => ?_)
        refine j_aload_n E 1 rfl dX12_pump_38 ?_
        refine j_iload_n E 2 rfl dX12_pump_39 ?_
        refine j_iload_n E 3 rfl dX12_pump_40 ?_
        obtain ⟨r16, h22, hf⟩ := bn1_e hf
        refine j_invV [.int 1, .int 1, .ref (z + aM 0)] [.int r16, .int 1, .int 1, .ref (z + aM 0)] E (c_X12_mayPump h22) ml_X12_348 mv_X12_mayPump rfl ⟨le_ rfl, le_ rfl⟩ (rcM cf_X12) rfl rfl (le_ rfl) ⟨le_ rfl, le_ rfl⟩ dX12_pump_41 ?_
        refine j_if_eq E 51 (by decide) dX12_pump_44 (fun c13 => ?_) (fun c13 => ?_)
        · rw [if_pos c13] at hf
          refine j_iconst E 0 ic_0 dX12_pump_51 ?_
          obtain ⟨r17, M19, h23, hf⟩ := bn2_e hf
          refine j_invV [] [.int r17] E (c_X12_passes3 h23) ml_X12_7 mv_X12_passes3 rfl ⟨le_ rfl, le_ rfl⟩ (rcM cf_X12) rfl rfl (le_ rfl) ⟨le_ rfl, le_ rfl⟩ dX12_pump_52 ?_
          refine j_if_ne E 60 (by decide) dX12_pump_55 (fun c14 => ?_) (fun c14 => ?_)
          · rw [if_neg c14] at hf
            refine j_aload_n E 1 rfl dX12_pump_60 ?_
            obtain ⟨M20, h24, hf⟩ := bn1_e hf
            refine j_invV [] [] E (c_X12_remember h24) ml_X12_409 mv_X12_remember rfl ⟨le_ rfl, le_ rfl⟩ (rcM cf_X12) rfl rfl (le_ rfl) ⟨le_ rfl, le_ rfl⟩ dX12_pump_61 ?_
            refine j_aload_n E 1 rfl dX12_pump_64 ?_
            refine j_iload_n E 2 rfl dX12_pump_65 ?_
            refine j_iload_n E 3 rfl dX12_pump_66 ?_
            obtain ⟨r18, M21, h25, hf⟩ := bn2_e hf
            refine j_invV [] [.int r18] E (c_X12_pumpNow h25) ml_X12_351 mv_X12_pumpNow rfl ⟨le_ rfl, le_ rfl⟩ (rcM cf_X12) rfl rfl (le_ rfl) ⟨le_ rfl, le_ rfl⟩ dX12_pump_67 ?_
            cases hf
            exact j_iret E rfl (le_ rfl) (le_ rfl) dX12_pump_70
          · rw [if_pos c14] at hf
            refine j_iconst E 0 ic_0 dX12_pump_58 ?_
            cases hf
            exact j_iret E rfl (le_ rfl) (le_ rfl) dX12_pump_59
        · rw [if_neg c13] at hf
          refine j_iconst E 1 ic_1 dX12_pump_47 ?_
          refine j_goto E 52 (by decide) dX12_pump_48 ?_
          obtain ⟨r19, M22, h26, hf⟩ := bn2_e hf
          refine j_invV [] [.int r19] E (c_X12_passes3 h26) ml_X12_7 mv_X12_passes3 rfl ⟨le_ rfl, le_ rfl⟩ (rcM cf_X12) rfl rfl (le_ rfl) ⟨le_ rfl, le_ rfl⟩ dX12_pump_52 ?_
          refine j_if_ne E 60 (by decide) dX12_pump_55 (fun c15 => ?_) (fun c15 => ?_)
          · rw [if_neg c15] at hf
            refine j_aload_n E 1 rfl dX12_pump_60 ?_
            obtain ⟨M23, h27, hf⟩ := bn1_e hf
            refine j_invV [] [] E (c_X12_remember h27) ml_X12_409 mv_X12_remember rfl ⟨le_ rfl, le_ rfl⟩ (rcM cf_X12) rfl rfl (le_ rfl) ⟨le_ rfl, le_ rfl⟩ dX12_pump_61 ?_
            refine j_aload_n E 1 rfl dX12_pump_64 ?_
            refine j_iload_n E 2 rfl dX12_pump_65 ?_
            refine j_iload_n E 3 rfl dX12_pump_66 ?_
            obtain ⟨r20, M24, h28, hf⟩ := bn2_e hf
            refine j_invV [] [.int r20] E (c_X12_pumpNow h28) ml_X12_351 mv_X12_pumpNow rfl ⟨le_ rfl, le_ rfl⟩ (rcM cf_X12) rfl rfl (le_ rfl) ⟨le_ rfl, le_ rfl⟩ dX12_pump_67 ?_
            cases hf
            exact j_iret E rfl (le_ rfl) (le_ rfl) dX12_pump_70
          · rw [if_pos c15] at hf
            refine j_iconst E 0 ic_0 dX12_pump_58 ?_
            cases hf
            exact j_iret E rfl (le_ rfl) (le_ rfl) dX12_pump_59
def f_X12_save_18 (v1 : Int32) : Nat → MT → Int32 → Option (Int32 × MT)
  | 0, _, _ => none
  | n + 1, M, v2 => if 264 ≤ v2 then (bnd (mi M 0 29 ((M.1 0 29) ||| (1 <<< (v1 &&& 31)))) (fun M1 => some ((M1.1 1 2), M1))) else (gd (¬ (v2 < 0 ∨ 264 ≤ v2.toNatClampNeg)) (gd (¬ (((264 * v1) + v2) < 0 ∨ 528 ≤ ((264 * v1) + v2).toNatClampNeg)) (bnd (mi M 5 (((264 * v1) + v2).toNatClampNeg) (M.1 1 v2.toNatClampNeg)) (fun M2 => f_X12_save_18 v1 n M2 (v2 + 1)))))
def f_X12_save (M : MT) (v1 : Int32) : Option (Int32 × MT) :=
  bn1 (f_X12_in (v1.toInt64) 0 1) (fun r1 => bn2 (f_X12_passes1 M r1) (fun r2 M1 => if r2 = 0 then (some (0, M1)) else (f_X12_save_18 v1 2000 M1 0)))
set_option maxRecDepth 20000 in
theorem b_X12_save_18 {p : Program} {l : Launch} {e : Env} {s : State} {m : MethodId} {args : Array Value} {below : List Frame} {meth : Method} {c : Code} {D : DD} {z : Nat} {X : XT} {o : Int64} {f1 : Nat} {v1 : Int32} (E : Cx p s m args meth c D z RX12 cX12_save 3 (some .int)) {r : Int32} {M' : MT} : ∀ (n : Nat) (M : MT) (v2 : Int32) (hf : f_X12_save_18 v1 n M v2 = some (r, M')), J p l e (rmk 3 0 0) s m args below meth c D z (GG D z (X, (f1 + 1, M, o))) 0 0 (MQ below (QC z (some (.int r)) (GG D z (X, (f1 + 1, M', o)))) args s (rmk 3 0 0).cells (rmk 3 0 0).slots (Az z)) 3 18 [(0, .ref (z + aM 0)), (1, .int v1), (2, .int v2)] [] := by
  intro n
  induction n with
  | zero =>
    intro M v2 hf
    exact none_e hf
  | succ n ih =>
    intro M v2 hf
    rw [f_X12_save_18] at hf
    refine j_iload_n E 2 rfl dX12_save_18 ?_
    refine j_sipush E 264 sp_264 dX12_save_19 ?_
    refine j_icmp_ge E 49 (by decide) dX12_save_22 (fun c1 => ?_) (fun c1 => ?_)
    · rw [if_pos c1] at hf
      refine j_aload_n E 0 rfl dX12_save_49 ?_
      refine j_dup E rfl dX12_save_50 ?_
      refine j_getM (f := 29) E cf_X12 fl_X12_486 (lt_ rfl) rfl rfl dX12_save_51 ?_
      refine j_iconst E 1 ic_1 dX12_save_54 ?_
      refine j_iload_n E 1 rfl dX12_save_55 ?_
      refine j_ishl E dX12_save_56 ?_
      refine j_ior E dX12_save_57 ?_
      obtain ⟨M1, hM1, hf⟩ := bnd_e hf
      refine j_putM (f := 29) E cf_X12 fl_X12_486 (lt_ rfl) ⟨rfl, rfl⟩ (fit_i _) (lt_ rfl) peM_29 hM1 dX12_save_58 ?_
      refine j_aload_n E 0 rfl dX12_save_61 ?_
      refine j_getM (f := 1) E cf_X12 fl_X12_17 (lt_ rfl) rfl rfl dX12_save_62 ?_
      refine j_iconst E 2 ic_2 dX12_save_65 ?_
      refine j_ialdM E (lt_ rfl) entM1 (vi_2 (lt_ rfl)) (2) tn_2 dX12_save_66 ?_
      cases hf
      exact j_iret E rfl (le_ rfl) (le_ rfl) dX12_save_67
    · rw [if_neg c1] at hf
      refine j_aload_n E 0 rfl dX12_save_25 ?_
      refine j_getM (f := 28) E cf_X12 fl_X12_99 (lt_ rfl) rfl rfl dX12_save_26 ?_
      refine j_sipush E 264 sp_264 dX12_save_29 ?_
      refine j_iload_n E 1 rfl dX12_save_32 ?_
      refine j_imul E dX12_save_33 ?_
      refine j_iload_n E 2 rfl dX12_save_34 ?_
      refine j_iadd E dX12_save_35 ?_
      refine j_aload_n E 0 rfl dX12_save_36 ?_
      refine j_getM (f := 1) E cf_X12 fl_X12_17 (lt_ rfl) rfl rfl dX12_save_37 ?_
      refine j_iload_n E 2 rfl dX12_save_40 ?_
      obtain ⟨g1, hf⟩ := gd_e hf
      refine j_ialdM E (lt_ rfl) entM1 g1 (v2.toNatClampNeg) rfl dX12_save_41 ?_
      obtain ⟨g2, hf⟩ := gd_e hf
      obtain ⟨M2, hM2, hf⟩ := bnd_e hf
      refine j_iastM E (lt_ rfl) (fun _ => entM5) g2 (((264 * v1) + v2).toNatClampNeg) rfl hM2 dX12_save_42 ?_
      refine j_iinc (ls' := [(2, .int (v2 + 1)), (0, .ref (z + aM 0)), (1, .int v1)]) E 2 rfl (lt_ rfl) (v2 + 1) (congrArg (fun q => v2 + q) ic_1) rfl dX12_save_43 ?_
      refine j_goto E 18 (by decide) dX12_save_46 ?_
      refine j_sub [1, 2, 0] rfl ?_
      exact ih _ _ hf
set_option maxRecDepth 20000 in
theorem c_X12_save {l : Launch} {D : DD} {z : Nat} {X : XT} {o : Int64} {f1 : Nat} {M : MT} {v1 : Int32} {r : Int32} {M' : MT} (hf : f_X12_save M v1 = some (r, M')) : CC l yX12_save cX12_save 3 (some .int) (rmk 3 0 0) D z [.ref (z + aM 0), .int v1] (GG D z (X, (f1 + 1, M, o))) (some (.int r)) (GG D z (X, (f1 + 1, M', o))) := by
  unfold f_X12_save at hf
  refine cc_of pn_X12 (le_ rfl) (ls := [(0, .ref (z + aM 0)), (1, .int v1)]) rfl ?_
  intro p e s m args below meth c E
  refine j_aload_n E 0 rfl dX12_save_0 ?_
  refine j_iload_n E 1 rfl dX12_save_1 ?_
  refine j_i2l E dX12_save_2 ?_
  refine j_lconst E 0 rfl dX12_save_3 ?_
  refine j_lconst E 1 rfl dX12_save_4 ?_
  obtain ⟨r1, h1, hf⟩ := bn1_e hf
  refine j_invS [.ref (z + aM 0)] [.int r1, .ref (z + aM 0)] E (c_X12_in h1) ml_X12_282 ms_X12_in rfl ⟨le_ rfl, le_ rfl⟩ rfl rfl (le_ rfl) ⟨le_ rfl, le_ rfl⟩ dX12_save_5 ?_
  obtain ⟨r2, M1, h2, hf⟩ := bn2_e hf
  refine j_invV [] [.int r2] E (c_X12_passes1 h2) ml_X12_396 mv_X12_passes1 rfl ⟨le_ rfl, le_ rfl⟩ (rcM cf_X12) rfl rfl (le_ rfl) ⟨le_ rfl, le_ rfl⟩ dX12_save_8 ?_
  refine j_if_ne E 16 (by decide) dX12_save_11 (fun c1 => ?_) (fun c1 => ?_)
  · rw [if_neg c1] at hf
    refine j_iconst E 0 ic_0 dX12_save_16 ?_
    refine j_istore_n (ls' := [(2, .int 0), (0, .ref (z + aM 0)), (1, .int v1)]) E (lt_ rfl) rfl dX12_save_17 ?_
    refine j_sub [1, 2, 0] rfl ?_
    exact b_X12_save_18 E 2000 _ _ hf
  · rw [if_pos c1] at hf
    refine j_iconst E 0 ic_0 dX12_save_14 ?_
    cases hf
    exact j_iret E rfl (le_ rfl) (le_ rfl) dX12_save_15
def f_X12_restore_45 (v1 : Int32) : Nat → MT → Int32 → Option (Int32 × MT)
  | 0, _, _ => none
  | n + 1, M, v3 => if 264 ≤ v3 then (some ((M.1 1 2), M)) else (bnd ((264 * v1) + v3) (fun x1 => gd (¬ (x1 < 0 ∨ 528 ≤ x1.toNatClampNeg)) (gd (¬ (v3 < 0 ∨ 264 ≤ v3.toNatClampNeg)) (bnd (mi M 1 (v3.toNatClampNeg) (M.1 5 x1.toNatClampNeg)) (fun M1 => f_X12_restore_45 v1 n M1 (v3 + 1))))))
def f_X12_restore (M : MT) (v1 : Int32) : Option (Int32 × MT) :=
  bn1 (f_X12_in (v1.toInt64) 0 1) (fun r1 => if r1 = 0 then (bn2 (f_X12_passes2 M r1 0) (fun r2 M1 => if r2 = 0 then (some (0, M1)) else (bn1 (f_X12_remember M1) (fun M2 => f_X12_restore_45 v1 2000 M2 0)))) else (if (((M.1 0 29) >>> (v1 &&& 31)) &&& 1) = 1 then (bn2 (f_X12_passes2 M r1 1) (fun r4 M5 => if r4 = 0 then (some (0, M5)) else (bn1 (f_X12_remember M5) (fun M6 => f_X12_restore_45 v1 2000 M6 0)))) else (bn2 (f_X12_passes2 M r1 0) (fun r3 M3 => if r3 = 0 then (some (0, M3)) else (bn1 (f_X12_remember M3) (fun M4 => f_X12_restore_45 v1 2000 M4 0))))))
set_option maxRecDepth 20000 in
theorem b_X12_restore_45 {p : Program} {l : Launch} {e : Env} {s : State} {m : MethodId} {args : Array Value} {below : List Frame} {meth : Method} {c : Code} {D : DD} {z : Nat} {X : XT} {o : Int64} {f1 : Nat} {v1 : Int32} (E : Cx p s m args meth c D z RX12 cX12_restore 4 (some .int)) {r : Int32} {M' : MT} : ∀ (n : Nat) (M : MT) (v3 : Int32) (hf : f_X12_restore_45 v1 n M v3 = some (r, M')), J p l e (rmk 3 0 0) s m args below meth c D z (GG D z (X, (f1 + 1, M, o))) 0 0 (MQ below (QC z (some (.int r)) (GG D z (X, (f1 + 1, M', o)))) args s (rmk 3 0 0).cells (rmk 3 0 0).slots (Az z)) 4 45 [(0, .ref (z + aM 0)), (1, .int v1), (3, .int v3)] [] := by
  intro n
  induction n with
  | zero =>
    intro M v3 hf
    exact none_e hf
  | succ n ih =>
    intro M v3 hf
    rw [f_X12_restore_45] at hf
    refine j_iload_n E 2 rfl dX12_restore_45 ?_
    refine j_sipush E 264 sp_264 dX12_restore_46 ?_
    refine j_icmp_ge E 76 (by decide) dX12_restore_49 (fun c1 => ?_) (fun c1 => ?_)
    · rw [if_pos c1] at hf
      refine j_aload_n E 0 rfl dX12_restore_76 ?_
      refine j_getM (f := 1) E cf_X12 fl_X12_17 (lt_ rfl) rfl rfl dX12_restore_77 ?_
      refine j_iconst E 2 ic_2 dX12_restore_80 ?_
      refine j_ialdM E (lt_ rfl) entM1 (vi_2 (lt_ rfl)) (2) tn_2 dX12_restore_81 ?_
      cases hf
      exact j_iret E rfl (le_ rfl) (le_ rfl) dX12_restore_82
    · rw [if_neg c1] at hf
      refine j_aload_n E 0 rfl dX12_restore_52 ?_
      refine j_getM (f := 1) E cf_X12 fl_X12_17 (lt_ rfl) rfl rfl dX12_restore_53 ?_
      refine j_iload_n E 2 rfl dX12_restore_56 ?_
      refine j_aload_n E 0 rfl dX12_restore_57 ?_
      refine j_getM (f := 28) E cf_X12 fl_X12_99 (lt_ rfl) rfl rfl dX12_restore_58 ?_
      refine j_sipush E 264 sp_264 dX12_restore_61 ?_
      refine j_iload_n E 1 rfl dX12_restore_64 ?_
      refine j_imul E dX12_restore_65 ?_
      refine j_iload_n E 2 rfl dX12_restore_66 ?_
      refine j_iadd E dX12_restore_67 ?_
      obtain ⟨x1, hx1, hf⟩ := bnd_e hf
      refine j_name hx1 ?_
      obtain ⟨g1, hf⟩ := gd_e hf
      refine j_ialdM E (lt_ rfl) entM5 g1 (x1.toNatClampNeg) rfl dX12_restore_68 ?_
      obtain ⟨g2, hf⟩ := gd_e hf
      obtain ⟨M1, hM1, hf⟩ := bnd_e hf
      refine j_iastM E (lt_ rfl) (fun _ => entM1) g2 (v3.toNatClampNeg) rfl hM1 dX12_restore_69 ?_
      refine j_iinc (ls' := [(3, .int (v3 + 1)), (0, .ref (z + aM 0)), (1, .int v1)]) E 2 rfl (lt_ rfl) (v3 + 1) (congrArg (fun q => v3 + q) ic_1) rfl dX12_restore_70 ?_
      refine j_goto E 45 (by decide) dX12_restore_73 ?_
      refine j_sub [1, 2, 0] rfl ?_
      exact ih _ _ hf
set_option maxRecDepth 20000 in
theorem c_X12_restore {l : Launch} {D : DD} {z : Nat} {X : XT} {o : Int64} {f1 : Nat} {M : MT} {v1 : Int32} {r : Int32} {M' : MT} (hf : f_X12_restore M v1 = some (r, M')) : CC l yX12_restore cX12_restore 4 (some .int) (rmk 3 0 0) D z [.ref (z + aM 0), .int v1] (GG D z (X, (f1 + 1, M, o))) (some (.int r)) (GG D z (X, (f1 + 1, M', o))) := by
  unfold f_X12_restore at hf
  refine cc_of pn_X12 (le_ rfl) (ls := [(0, .ref (z + aM 0)), (1, .int v1)]) rfl ?_
  intro p e s m args below meth c E
  refine j_iload_n E 1 rfl dX12_restore_0 ?_
  refine j_i2l E dX12_restore_1 ?_
  refine j_lconst E 0 rfl dX12_restore_2 ?_
  refine j_lconst E 1 rfl dX12_restore_3 ?_
  obtain ⟨r1, h1, hf⟩ := bn1_e hf
  refine j_invS [] [.int r1] E (c_X12_in h1) ml_X12_282 ms_X12_in rfl ⟨le_ rfl, le_ rfl⟩ rfl rfl (le_ rfl) ⟨le_ rfl, le_ rfl⟩ dX12_restore_4 ?_
  refine j_istore_n (ls' := [(2, .int r1), (0, .ref (z + aM 0)), (1, .int v1)]) E (lt_ rfl) rfl dX12_restore_7 ?_
  refine j_aload_n E 1 rfl dX12_restore_8 ?_
  refine j_iload_n E 0 rfl dX12_restore_9 ?_
  refine j_iload_n E 0 rfl dX12_restore_10 ?_
  refine j_if_eq E 30 (by decide) dX12_restore_11 (fun c1 => ?_) (fun c1 => ?_)
  · rw [if_pos c1] at hf
    refine j_iconst E 0 ic_0 dX12_restore_30 ?_
    obtain ⟨r2, M1, h2, hf⟩ := bn2_e hf
    refine j_invV [] [.int r2] E (c_X12_passes2 h2) ml_X12_458 mv_X12_passes2 rfl ⟨le_ rfl, le_ rfl⟩ (rcM cf_X12) rfl rfl (le_ rfl) ⟨le_ rfl, le_ rfl⟩ dX12_restore_31 ?_
    refine j_if_ne E 39 (by decide) dX12_restore_34 (fun c2 => ?_) (fun c2 => ?_)
    · rw [if_neg c2] at hf
      refine j_aload_n E 1 rfl dX12_restore_39 ?_
      obtain ⟨M2, h3, hf⟩ := bn1_e hf
      refine j_invV [] [] E (c_X12_remember h3) ml_X12_409 mv_X12_remember rfl ⟨le_ rfl, le_ rfl⟩ (rcM cf_X12) rfl rfl (le_ rfl) ⟨le_ rfl, le_ rfl⟩ dX12_restore_40 ?_
      refine j_iconst E 0 ic_0 dX12_restore_43 ?_
      refine j_istore_n (ls' := [(3, .int 0), (2, .int r1), (0, .ref (z + aM 0)), (1, .int v1)]) E (lt_ rfl) rfl dX12_restore_44 ?_
      refine j_sub [2, 3, 0] rfl ?_
      exact b_X12_restore_45 E 2000 _ _ hf
    · rw [if_pos c2] at hf
      refine j_iconst E 0 ic_0 dX12_restore_37 ?_
      cases hf
      exact j_iret E rfl (le_ rfl) (le_ rfl) dX12_restore_38
  · rw [if_neg c1] at hf
    refine j_aload_n E 1 rfl dX12_restore_14 ?_
    refine j_getM (f := 29) E cf_X12 fl_X12_486 (lt_ rfl) rfl rfl dX12_restore_15 ?_
    refine j_iload_n E 2 rfl dX12_restore_18 ?_
    refine j_ishr E dX12_restore_19 ?_
    refine j_iconst E 1 ic_1 dX12_restore_20 ?_
    refine j_iand E dX12_restore_21 ?_
    refine j_iconst E 1 ic_1 dX12_restore_22 ?_
    refine j_icmp_ne E 30 (by decide) dX12_restore_23 (fun c3 => ?_) (fun c3 => ?_)
    · rw [if_neg c3] at hf
      refine j_iconst E 0 ic_0 dX12_restore_30 ?_
      obtain ⟨r3, M3, h4, hf⟩ := bn2_e hf
      refine j_invV [] [.int r3] E (c_X12_passes2 h4) ml_X12_458 mv_X12_passes2 rfl ⟨le_ rfl, le_ rfl⟩ (rcM cf_X12) rfl rfl (le_ rfl) ⟨le_ rfl, le_ rfl⟩ dX12_restore_31 ?_
      refine j_if_ne E 39 (by decide) dX12_restore_34 (fun c4 => ?_) (fun c4 => ?_)
      · rw [if_neg c4] at hf
        refine j_aload_n E 1 rfl dX12_restore_39 ?_
        obtain ⟨M4, h5, hf⟩ := bn1_e hf
        refine j_invV [] [] E (c_X12_remember h5) ml_X12_409 mv_X12_remember rfl ⟨le_ rfl, le_ rfl⟩ (rcM cf_X12) rfl rfl (le_ rfl) ⟨le_ rfl, le_ rfl⟩ dX12_restore_40 ?_
        refine j_iconst E 0 ic_0 dX12_restore_43 ?_
        refine j_istore_n (ls' := [(3, .int 0), (2, .int r1), (0, .ref (z + aM 0)), (1, .int v1)]) E (lt_ rfl) rfl dX12_restore_44 ?_
        refine j_sub [2, 3, 0] rfl ?_
        exact b_X12_restore_45 E 2000 _ _ hf
      · rw [if_pos c4] at hf
        refine j_iconst E 0 ic_0 dX12_restore_37 ?_
        cases hf
        exact j_iret E rfl (le_ rfl) (le_ rfl) dX12_restore_38
    · rw [if_pos c3] at hf
      refine j_iconst E 1 ic_1 dX12_restore_26 ?_
      refine j_goto E 31 (by decide) dX12_restore_27 ?_
      obtain ⟨r4, M5, h6, hf⟩ := bn2_e hf
      refine j_invV [] [.int r4] E (c_X12_passes2 h6) ml_X12_458 mv_X12_passes2 rfl ⟨le_ rfl, le_ rfl⟩ (rcM cf_X12) rfl rfl (le_ rfl) ⟨le_ rfl, le_ rfl⟩ dX12_restore_31 ?_
      refine j_if_ne E 39 (by decide) dX12_restore_34 (fun c5 => ?_) (fun c5 => ?_)
      · rw [if_neg c5] at hf
        refine j_aload_n E 1 rfl dX12_restore_39 ?_
        obtain ⟨M6, h7, hf⟩ := bn1_e hf
        refine j_invV [] [] E (c_X12_remember h7) ml_X12_409 mv_X12_remember rfl ⟨le_ rfl, le_ rfl⟩ (rcM cf_X12) rfl rfl (le_ rfl) ⟨le_ rfl, le_ rfl⟩ dX12_restore_40 ?_
        refine j_iconst E 0 ic_0 dX12_restore_43 ?_
        refine j_istore_n (ls' := [(3, .int 0), (2, .int r1), (0, .ref (z + aM 0)), (1, .int v1)]) E (lt_ rfl) rfl dX12_restore_44 ?_
        refine j_sub [2, 3, 0] rfl ?_
        exact b_X12_restore_45 E 2000 _ _ hf
      · rw [if_pos c5] at hf
        refine j_iconst E 0 ic_0 dX12_restore_37 ?_
        cases hf
        exact j_iret E rfl (le_ rfl) (le_ rfl) dX12_restore_38
def f_X12_undo_33 : Nat → MT → Int32 → Option (Int32 × MT)
  | 0, _, _ => none
  | n + 1, M, v1 => if 264 ≤ v1 then (some ((M.1 0 27), M)) else (bnd ((264 * (M.1 0 27)) + v1) (fun x1 => gd (¬ (x1 < 0 ∨ 1584 ≤ x1.toNatClampNeg)) (gd (¬ (v1 < 0 ∨ 264 ≤ v1.toNatClampNeg)) (bnd (mi M 1 (v1.toNatClampNeg) (M.1 4 x1.toNatClampNeg)) (fun M1 => f_X12_undo_33 n M1 (v1 + 1))))))
def f_X12_undo (M : MT) : Option (Int32 × MT) :=
  if (M.1 0 27) ≤ 0 then (bn2 (f_X12_passes1 M 0) (fun r1 M1 => if r1 = 0 then (some (0, M1)) else (bnd (mi M1 0 27 ((M1.1 0 27) - 1)) (fun M2 => f_X12_undo_33 2000 M2 0)))) else (bn2 (f_X12_passes1 M 1) (fun r2 M3 => if r2 = 0 then (some (0, M3)) else (bnd (mi M3 0 27 ((M3.1 0 27) - 1)) (fun M4 => f_X12_undo_33 2000 M4 0))))
set_option maxRecDepth 20000 in
theorem b_X12_undo_33 {p : Program} {l : Launch} {e : Env} {s : State} {m : MethodId} {args : Array Value} {below : List Frame} {meth : Method} {c : Code} {D : DD} {z : Nat} {X : XT} {o : Int64} {f1 : Nat} (E : Cx p s m args meth c D z RX12 cX12_undo 2 (some .int)) {r : Int32} {M' : MT} : ∀ (n : Nat) (M : MT) (v1 : Int32) (hf : f_X12_undo_33 n M v1 = some (r, M')), J p l e (rmk 3 0 0) s m args below meth c D z (GG D z (X, (f1 + 1, M, o))) 0 0 (MQ below (QC z (some (.int r)) (GG D z (X, (f1 + 1, M', o)))) args s (rmk 3 0 0).cells (rmk 3 0 0).slots (Az z)) 2 33 [(0, .ref (z + aM 0)), (1, .int v1)] [] := by
  intro n
  induction n with
  | zero =>
    intro M v1 hf
    exact none_e hf
  | succ n ih =>
    intro M v1 hf
    rw [f_X12_undo_33] at hf
    refine j_iload_n E 1 rfl dX12_undo_33 ?_
    refine j_sipush E 264 sp_264 dX12_undo_34 ?_
    refine j_icmp_ge E 67 (by decide) dX12_undo_37 (fun c1 => ?_) (fun c1 => ?_)
    · rw [if_pos c1] at hf
      refine j_aload_n E 0 rfl dX12_undo_67 ?_
      refine j_getM (f := 27) E cf_X12 fl_X12_393 (lt_ rfl) rfl rfl dX12_undo_68 ?_
      cases hf
      exact j_iret E rfl (le_ rfl) (le_ rfl) dX12_undo_71
    · rw [if_neg c1] at hf
      refine j_aload_n E 0 rfl dX12_undo_40 ?_
      refine j_getM (f := 1) E cf_X12 fl_X12_17 (lt_ rfl) rfl rfl dX12_undo_41 ?_
      refine j_iload_n E 1 rfl dX12_undo_44 ?_
      refine j_aload_n E 0 rfl dX12_undo_45 ?_
      refine j_getM (f := 26) E cf_X12 fl_X12_96 (lt_ rfl) rfl rfl dX12_undo_46 ?_
      refine j_sipush E 264 sp_264 dX12_undo_49 ?_
      refine j_aload_n E 0 rfl dX12_undo_52 ?_
      refine j_getM (f := 27) E cf_X12 fl_X12_393 (lt_ rfl) rfl rfl dX12_undo_53 ?_
      refine j_imul E dX12_undo_56 ?_
      refine j_iload_n E 1 rfl dX12_undo_57 ?_
      refine j_iadd E dX12_undo_58 ?_
      obtain ⟨x1, hx1, hf⟩ := bnd_e hf
      refine j_name hx1 ?_
      obtain ⟨g1, hf⟩ := gd_e hf
      refine j_ialdM E (lt_ rfl) entM4 g1 (x1.toNatClampNeg) rfl dX12_undo_59 ?_
      obtain ⟨g2, hf⟩ := gd_e hf
      obtain ⟨M1, hM1, hf⟩ := bnd_e hf
      refine j_iastM E (lt_ rfl) (fun _ => entM1) g2 (v1.toNatClampNeg) rfl hM1 dX12_undo_60 ?_
      refine j_iinc (ls' := [(1, .int (v1 + 1)), (0, .ref (z + aM 0))]) E 1 rfl (lt_ rfl) (v1 + 1) (congrArg (fun q => v1 + q) ic_1) rfl dX12_undo_61 ?_
      refine j_goto E 33 (by decide) dX12_undo_64 ?_
      refine j_sub [1, 0] rfl ?_
      exact ih _ _ hf
set_option maxRecDepth 20000 in
theorem c_X12_undo {l : Launch} {D : DD} {z : Nat} {X : XT} {o : Int64} {f1 : Nat} {M : MT} {r : Int32} {M' : MT} (hf : f_X12_undo M = some (r, M')) : CC l yX12_undo cX12_undo 2 (some .int) (rmk 3 0 0) D z [.ref (z + aM 0)] (GG D z (X, (f1 + 1, M, o))) (some (.int r)) (GG D z (X, (f1 + 1, M', o))) := by
  unfold f_X12_undo at hf
  refine cc_of pn_X12 (le_ rfl) (ls := [(0, .ref (z + aM 0))]) rfl ?_
  intro p e s m args below meth c E
  refine j_aload_n E 0 rfl dX12_undo_0 ?_
  refine j_aload_n E 0 rfl dX12_undo_1 ?_
  refine j_getM (f := 27) E cf_X12 fl_X12_393 (lt_ rfl) rfl rfl dX12_undo_2 ?_
  refine j_if_le E 12 (by decide) dX12_undo_5 (fun c1 => ?_) (fun c1 => ?_)
  · rw [if_pos c1] at hf
    refine j_iconst E 0 ic_0 dX12_undo_12 ?_
    obtain ⟨r1, M1, h1, hf⟩ := bn2_e hf
    refine j_invV [] [.int r1] E (c_X12_passes1 h1) ml_X12_396 mv_X12_passes1 rfl ⟨le_ rfl, le_ rfl⟩ (rcM cf_X12) rfl rfl (le_ rfl) ⟨le_ rfl, le_ rfl⟩ dX12_undo_13 ?_
    refine j_if_ne E 21 (by decide) dX12_undo_16 (fun c2 => ?_) (fun c2 => ?_)
    · rw [if_neg c2] at hf
      refine j_aload_n E 0 rfl dX12_undo_21 ?_
      refine j_dup E rfl dX12_undo_22 ?_
      refine j_getM (f := 27) E cf_X12 fl_X12_393 (lt_ rfl) rfl rfl dX12_undo_23 ?_
      refine j_iconst E 1 ic_1 dX12_undo_26 ?_
      refine j_isub E dX12_undo_27 ?_
      obtain ⟨M2, hM2, hf⟩ := bnd_e hf
      refine j_putM (f := 27) E cf_X12 fl_X12_393 (lt_ rfl) ⟨rfl, rfl⟩ (fit_i _) (lt_ rfl) peM_27 hM2 dX12_undo_28 ?_
      refine j_iconst E 0 ic_0 dX12_undo_31 ?_
      refine j_istore_n (ls' := [(1, .int 0), (0, .ref (z + aM 0))]) E (lt_ rfl) rfl dX12_undo_32 ?_
      refine j_sub [1, 0] rfl ?_
      exact b_X12_undo_33 E 2000 _ _ hf
    · rw [if_pos c2] at hf
      refine j_iconst E 0 ic_0 dX12_undo_19 ?_
      cases hf
      exact j_iret E rfl (le_ rfl) (le_ rfl) dX12_undo_20
  · rw [if_neg c1] at hf
    refine j_iconst E 1 ic_1 dX12_undo_8 ?_
    refine j_goto E 13 (by decide) dX12_undo_9 ?_
    obtain ⟨r2, M3, h2, hf⟩ := bn2_e hf
    refine j_invV [] [.int r2] E (c_X12_passes1 h2) ml_X12_396 mv_X12_passes1 rfl ⟨le_ rfl, le_ rfl⟩ (rcM cf_X12) rfl rfl (le_ rfl) ⟨le_ rfl, le_ rfl⟩ dX12_undo_13 ?_
    refine j_if_ne E 21 (by decide) dX12_undo_16 (fun c3 => ?_) (fun c3 => ?_)
    · rw [if_neg c3] at hf
      refine j_aload_n E 0 rfl dX12_undo_21 ?_
      refine j_dup E rfl dX12_undo_22 ?_
      refine j_getM (f := 27) E cf_X12 fl_X12_393 (lt_ rfl) rfl rfl dX12_undo_23 ?_
      refine j_iconst E 1 ic_1 dX12_undo_26 ?_
      refine j_isub E dX12_undo_27 ?_
      obtain ⟨M4, hM4, hf⟩ := bnd_e hf
      refine j_putM (f := 27) E cf_X12 fl_X12_393 (lt_ rfl) ⟨rfl, rfl⟩ (fit_i _) (lt_ rfl) peM_27 hM4 dX12_undo_28 ?_
      refine j_iconst E 0 ic_0 dX12_undo_31 ?_
      refine j_istore_n (ls' := [(1, .int 0), (0, .ref (z + aM 0))]) E (lt_ rfl) rfl dX12_undo_32 ?_
      refine j_sub [1, 0] rfl ?_
      exact b_X12_undo_33 E 2000 _ _ hf
    · rw [if_pos c3] at hf
      refine j_iconst E 0 ic_0 dX12_undo_19 ?_
      cases hf
      exact j_iret E rfl (le_ rfl) (le_ rfl) dX12_undo_20
def f_X12_put (M : MT) (v1 : Int32) : Option MT :=
  gd (¬ ((M.1 0 33) < 0 ∨ 200 ≤ (M.1 0 33).toNatClampNeg)) (bnd (mi M 6 ((M.1 0 33).toNatClampNeg) v1) (fun M1 => bnd (mi M1 0 33 ((M1.1 0 33) + 1)) (fun M2 => some M2)))
set_option maxRecDepth 20000 in
theorem c_X12_put {l : Launch} {D : DD} {z : Nat} {X : XT} {o : Int64} {f1 : Nat} {M : MT} {v1 : Int32} {M' : MT} (hf : f_X12_put M v1 = some M') : CC l yX12_put cX12_put 2 none (rmk 1 0 0) D z [.ref (z + aM 0), .int v1] (GG D z (X, (f1 + 1, M, o))) none (GG D z (X, (f1 + 1, M', o))) := by
  unfold f_X12_put at hf
  refine cc_of pn_X12 (le_ rfl) (ls := [(0, .ref (z + aM 0)), (1, .int v1)]) rfl ?_
  intro p e s m args below meth c E
  refine j_aload_n E 0 rfl dX12_put_0 ?_
  refine j_getM (f := 32) E cf_X12 fl_X12_105 (lt_ rfl) rfl rfl dX12_put_1 ?_
  refine j_aload_n E 0 rfl dX12_put_4 ?_
  refine j_getM (f := 33) E cf_X12 fl_X12_489 (lt_ rfl) rfl rfl dX12_put_5 ?_
  refine j_iload_n E 1 rfl dX12_put_8 ?_
  obtain ⟨g1, hf⟩ := gd_e hf
  obtain ⟨M1, hM1, hf⟩ := bnd_e hf
  refine j_iastM E (lt_ rfl) (fun _ => entM6) g1 ((M.1 0 33).toNatClampNeg) rfl hM1 dX12_put_9 ?_
  refine j_aload_n E 0 rfl dX12_put_10 ?_
  refine j_dup E rfl dX12_put_11 ?_
  refine j_getM (f := 33) E cf_X12 fl_X12_489 (lt_ rfl) rfl rfl dX12_put_12 ?_
  refine j_iconst E 1 ic_1 dX12_put_15 ?_
  refine j_iadd E dX12_put_16 ?_
  obtain ⟨M2, hM2, hf⟩ := bnd_e hf
  refine j_putM (f := 33) E cf_X12 fl_X12_489 (lt_ rfl) ⟨rfl, rfl⟩ (fit_i _) (lt_ rfl) peM_33 hM2 dX12_put_17 ?_
  cases hf
  exact j_vret E (le_ rfl) (le_ rfl) dX12_put_20
def f_X12_putNumber_18 (v1 : Int32) : Nat → MT → Int32 → Option MT
  | 0, _, _ => none
  | n + 1, M, v2 => if v2 ≤ 0 then (some M) else (gd (¬ v2 = 0) (bn1 (f_X12_put M (48 + ((v1 / v2) - (v1 / v2) / 10 * 10))) (fun M1 => bnd (v2 / 10) (fun x1 => f_X12_putNumber_18 v1 n M1 x1))))
def f_X12_putNumber_2 (v1 : Int32) : Nat → MT → Int32 → Option MT
  | 0, _, _ => none
  | n + 1, M, v2 => if (v1 / 10) < v2 then (f_X12_putNumber_18 v1 2000 M v2) else (bnd (v2 * 10) (fun x1 => f_X12_putNumber_2 v1 n M x1))
def f_X12_putNumber (M : MT) (v1 : Int32) : Option MT :=
  f_X12_putNumber_2 v1 2000 M 1
set_option maxRecDepth 20000 in
theorem b_X12_putNumber_18 {p : Program} {l : Launch} {e : Env} {s : State} {m : MethodId} {args : Array Value} {below : List Frame} {meth : Method} {c : Code} {D : DD} {z : Nat} {X : XT} {o : Int64} {f1 : Nat} {v1 : Int32} (E : Cx p s m args meth c D z RX12 cX12_putNumber 3 none) {M' : MT} : ∀ (n : Nat) (M : MT) (v2 : Int32) (hf : f_X12_putNumber_18 v1 n M v2 = some M'), J p l e (rmk 2 0 0) s m args below meth c D z (GG D z (X, (f1 + 1, M, o))) 0 0 (MQ below (QC z none (GG D z (X, (f1 + 1, M', o)))) args s (rmk 2 0 0).cells (rmk 2 0 0).slots (Az z)) 3 18 [(0, .ref (z + aM 0)), (1, .int v1), (2, .int v2)] [] := by
  intro n
  induction n with
  | zero =>
    intro M v2 hf
    exact none_e hf
  | succ n ih =>
    intro M v2 hf
    rw [f_X12_putNumber_18] at hf
    refine j_iload_n E 2 rfl dX12_putNumber_18 ?_
    refine j_if_le E 43 (by decide) dX12_putNumber_19 (fun c1 => ?_) (fun c1 => ?_)
    · rw [if_pos c1] at hf
      cases hf
      exact j_vret E (le_ rfl) (le_ rfl) dX12_putNumber_43
    · rw [if_neg c1] at hf
      refine j_aload_n E 0 rfl dX12_putNumber_22 ?_
      refine j_bipush E 48 bp_48 dX12_putNumber_23 ?_
      refine j_iload_n E 1 rfl dX12_putNumber_25 ?_
      refine j_iload_n E 2 rfl dX12_putNumber_26 ?_
      obtain ⟨g1, hf⟩ := gd_e hf
      refine j_idiv E g1 dX12_putNumber_27 ?_
      refine j_bipush E 10 bp_10 dX12_putNumber_28 ?_
      refine j_irem E (by decide) dX12_putNumber_30 ?_
      refine j_iadd E dX12_putNumber_31 ?_
      obtain ⟨M1, h1, hf⟩ := bn1_e hf
      refine j_invV [] [] E (c_X12_put h1) ml_X12_492 mv_X12_put rfl ⟨le_ rfl, le_ rfl⟩ (rcM cf_X12) rfl rfl (le_ rfl) ⟨le_ rfl, le_ rfl⟩ dX12_putNumber_32 ?_
      refine j_iload_n E 2 rfl dX12_putNumber_35 ?_
      refine j_bipush E 10 bp_10 dX12_putNumber_36 ?_
      refine j_idiv E (by decide) dX12_putNumber_38 ?_
      obtain ⟨x1, hx1, hf⟩ := bnd_e hf
      refine j_name hx1 ?_
      refine j_istore_n (ls' := [(2, .int x1), (0, .ref (z + aM 0)), (1, .int v1)]) E (lt_ rfl) rfl dX12_putNumber_39 ?_
      refine j_goto E 18 (by decide) dX12_putNumber_40 ?_
      refine j_sub [1, 2, 0] rfl ?_
      exact ih _ _ hf
set_option maxRecDepth 20000 in
theorem b_X12_putNumber_2 {p : Program} {l : Launch} {e : Env} {s : State} {m : MethodId} {args : Array Value} {below : List Frame} {meth : Method} {c : Code} {D : DD} {z : Nat} {X : XT} {o : Int64} {f1 : Nat} {v1 : Int32} (E : Cx p s m args meth c D z RX12 cX12_putNumber 3 none) {M' : MT} : ∀ (n : Nat) (M : MT) (v2 : Int32) (hf : f_X12_putNumber_2 v1 n M v2 = some M'), J p l e (rmk 2 0 0) s m args below meth c D z (GG D z (X, (f1 + 1, M, o))) 0 0 (MQ below (QC z none (GG D z (X, (f1 + 1, M', o)))) args s (rmk 2 0 0).cells (rmk 2 0 0).slots (Az z)) 3 2 [(0, .ref (z + aM 0)), (1, .int v1), (2, .int v2)] [] := by
  intro n
  induction n with
  | zero =>
    intro M v2 hf
    exact none_e hf
  | succ n ih =>
    intro M v2 hf
    rw [f_X12_putNumber_2] at hf
    refine j_iload_n E 2 rfl dX12_putNumber_2 ?_
    refine j_iload_n E 1 rfl dX12_putNumber_3 ?_
    refine j_bipush E 10 bp_10 dX12_putNumber_4 ?_
    refine j_idiv E (by decide) dX12_putNumber_6 ?_
    refine j_icmp_gt E 18 (by decide) dX12_putNumber_7 (fun c1 => ?_) (fun c1 => ?_)
    · rw [if_pos c1] at hf
      exact b_X12_putNumber_18 E 2000 _ _ hf
    · rw [if_neg c1] at hf
      refine j_iload_n E 2 rfl dX12_putNumber_10 ?_
      refine j_bipush E 10 bp_10 dX12_putNumber_11 ?_
      refine j_imul E dX12_putNumber_13 ?_
      obtain ⟨x1, hx1, hf⟩ := bnd_e hf
      refine j_name hx1 ?_
      refine j_istore_n (ls' := [(2, .int x1), (0, .ref (z + aM 0)), (1, .int v1)]) E (lt_ rfl) rfl dX12_putNumber_14 ?_
      refine j_goto E 2 (by decide) dX12_putNumber_15 ?_
      refine j_sub [1, 2, 0] rfl ?_
      exact ih _ _ hf
set_option maxRecDepth 20000 in
theorem c_X12_putNumber {l : Launch} {D : DD} {z : Nat} {X : XT} {o : Int64} {f1 : Nat} {M : MT} {v1 : Int32} {M' : MT} (hf : f_X12_putNumber M v1 = some M') : CC l yX12_putNumber cX12_putNumber 3 none (rmk 2 0 0) D z [.ref (z + aM 0), .int v1] (GG D z (X, (f1 + 1, M, o))) none (GG D z (X, (f1 + 1, M', o))) := by
  unfold f_X12_putNumber at hf
  refine cc_of pn_X12 (le_ rfl) (ls := [(0, .ref (z + aM 0)), (1, .int v1)]) rfl ?_
  intro p e s m args below meth c E
  refine j_iconst E 1 ic_1 dX12_putNumber_0 ?_
  refine j_istore_n (ls' := [(2, .int 1), (0, .ref (z + aM 0)), (1, .int v1)]) E (lt_ rfl) rfl dX12_putNumber_1 ?_
  refine j_sub [1, 2, 0] rfl ?_
  exact b_X12_putNumber_2 E 2000 _ _ hf
def f_X12_putGap (M : MT) (v1 : Int32) : Option MT :=
  if v1 = 0 then (bn1 (f_X12_put M 32) (fun M1 => some M1)) else (some M)
set_option maxRecDepth 20000 in
theorem c_X12_putGap {l : Launch} {D : DD} {z : Nat} {X : XT} {o : Int64} {f1 : Nat} {M : MT} {v1 : Int32} {M' : MT} (hf : f_X12_putGap M v1 = some M') : CC l yX12_putGap cX12_putGap 2 none (rmk 2 0 0) D z [.ref (z + aM 0), .int v1] (GG D z (X, (f1 + 1, M, o))) none (GG D z (X, (f1 + 1, M', o))) := by
  unfold f_X12_putGap at hf
  refine cc_of pn_X12 (le_ rfl) (ls := [(0, .ref (z + aM 0)), (1, .int v1)]) rfl ?_
  intro p e s m args below meth c E
  refine j_iload_n E 1 rfl dX12_putGap_0 ?_
  refine j_if_ne E 10 (by decide) dX12_putGap_1 (fun c1 => ?_) (fun c1 => ?_)
  · rw [if_neg c1] at hf
    cases hf
    exact j_vret E (le_ rfl) (le_ rfl) dX12_putGap_10
  · rw [if_pos c1] at hf
    refine j_aload_n E 0 rfl dX12_putGap_4 ?_
    refine j_bipush E 32 bp_32 dX12_putGap_5 ?_
    obtain ⟨M1, h1, hf⟩ := bn1_e hf
    refine j_invV [] [] E (c_X12_put h1) ml_X12_492 mv_X12_put rfl ⟨le_ rfl, le_ rfl⟩ (rcM cf_X12) rfl rfl (le_ rfl) ⟨le_ rfl, le_ rfl⟩ dX12_putGap_7 ?_
    cases hf
    exact j_vret E (le_ rfl) (le_ rfl) dX12_putGap_10
def f_X12_letterOf_7 (v2 : Int32) : Nat → Int32 → Int32 → Option Int32
  | 0, _, _ => none
  | n + 1, v3, v4 => if v4 ≤ v2 then (some ((97 + (v3 - v3 / 27 * 27)) - 1)) else (bnd (v3 / 27) (fun x1 => f_X12_letterOf_7 v2 n x1 (v4 + (-1))))
def f_X12_letterOf (v0 : Int32) (v1 : Int32) (v2 : Int32) : Option Int32 :=
  bnd (v1 - 1) (fun x1 => f_X12_letterOf_7 v2 2000 v0 x1)
set_option maxRecDepth 20000 in
theorem b_X12_letterOf_7 {p : Program} {l : Launch} {e : Env} {s : State} {m : MethodId} {args : Array Value} {below : List Frame} {meth : Method} {c : Code} {D : DD} {z : Nat} {P0 : Heap → Prop} {v2 : Int32} (E : Cx p s m args meth c D z RX12 cX12_letterOf 5 (some .int)) {r : Int32} : ∀ (n : Nat) (v3 : Int32) (v4 : Int32) (hf : f_X12_letterOf_7 v2 n v3 v4 = some r), J p l e (rmk 1 0 0) s m args below meth c D z P0 0 0 (MQ below (QC z (some (.int r)) P0) args s (rmk 1 0 0).cells (rmk 1 0 0).slots (Az z)) 5 7 [(2, .int v2), (3, .int v3), (4, .int v4)] [] := by
  intro n
  induction n with
  | zero =>
    intro v3 v4 hf
    exact none_e hf
  | succ n ih =>
    intro v3 v4 hf
    rw [f_X12_letterOf_7] at hf
    refine j_iload E 2 rfl dX12_letterOf_7 ?_
    refine j_iload_n E 0 rfl dX12_letterOf_9 ?_
    refine j_icmp_le E 24 (by decide) dX12_letterOf_10 (fun c1 => ?_) (fun c1 => ?_)
    · rw [if_pos c1] at hf
      refine j_bipush E 97 bp_97 dX12_letterOf_24 ?_
      refine j_iload_n E 1 rfl dX12_letterOf_26 ?_
      refine j_bipush E 27 bp_27 dX12_letterOf_27 ?_
      refine j_irem E (by decide) dX12_letterOf_29 ?_
      refine j_iadd E dX12_letterOf_30 ?_
      refine j_iconst E 1 ic_1 dX12_letterOf_31 ?_
      refine j_isub E dX12_letterOf_32 ?_
      cases hf
      exact j_iret E rfl (le_ rfl) (le_ rfl) dX12_letterOf_33
    · rw [if_neg c1] at hf
      refine j_iload_n E 1 rfl dX12_letterOf_13 ?_
      refine j_bipush E 27 bp_27 dX12_letterOf_14 ?_
      refine j_idiv E (by decide) dX12_letterOf_16 ?_
      obtain ⟨x1, hx1, hf⟩ := bnd_e hf
      refine j_name hx1 ?_
      refine j_istore_n (ls' := [(3, .int x1), (2, .int v2), (4, .int v4)]) E (lt_ rfl) rfl dX12_letterOf_17 ?_
      refine j_iinc (ls' := [(4, .int (v4 + (-1))), (3, .int x1), (2, .int v2)]) E 2 rfl (lt_ rfl) (v4 + (-1)) (congrArg (fun q => v4 + q) ic_m1) rfl dX12_letterOf_18 ?_
      refine j_goto E 7 (by decide) dX12_letterOf_21 ?_
      refine j_sub [2, 1, 0] rfl ?_
      exact ih _ _ hf
set_option maxRecDepth 20000 in
theorem c_X12_letterOf {l : Launch} {D : DD} {z : Nat} {P0 : Heap → Prop} {v0 : Int32} {v1 : Int32} {v2 : Int32} {r : Int32} (hf : f_X12_letterOf v0 v1 v2 = some r) : CC l yX12_letterOf cX12_letterOf 5 (some .int) (rmk 1 0 0) D z [.int v0, .int v1, .int v2] P0 (some (.int r)) P0 := by
  unfold f_X12_letterOf at hf
  refine cc_of pn_X12 (le_ rfl) (ls := [(0, .int v0), (1, .int v1), (2, .int v2)]) rfl ?_
  intro p e s m args below meth c E
  refine j_iload_n E 0 rfl dX12_letterOf_0 ?_
  refine j_istore_n (ls' := [(3, .int v0), (0, .int v0), (1, .int v1), (2, .int v2)]) E (lt_ rfl) rfl dX12_letterOf_1 ?_
  refine j_iload_n E 2 rfl dX12_letterOf_2 ?_
  refine j_iconst E 1 ic_1 dX12_letterOf_3 ?_
  refine j_isub E dX12_letterOf_4 ?_
  obtain ⟨x1, hx1, hf⟩ := bnd_e hf
  refine j_name hx1 ?_
  refine j_istore (ls' := [(4, .int x1), (3, .int v0), (0, .int v0), (1, .int v1), (2, .int v2)]) E (lt_ rfl) rfl dX12_letterOf_5 ?_
  refine j_sub [4, 1, 0] rfl ?_
  exact b_X12_letterOf_7 E 2000 _ _ hf
def f_X12_putVariety_16 (v2 : Int32) : Nat → MT → Int32 → Option MT
  | 0, _, _ => none
  | n + 1, M, v3 => bnd (v2 + 1) (fun x1 => gd (¬ (x1 < 0 ∨ 264 ≤ x1.toNatClampNeg)) (if (M.1 1 x1.toNatClampNeg) ≤ v3 then (some M) else (bnd (v2 + 0) (fun x2 => gd (¬ (x2 < 0 ∨ 264 ≤ x2.toNatClampNeg)) (bnd (v2 + 1) (fun x3 => gd (¬ (x3 < 0 ∨ 264 ≤ x3.toNatClampNeg)) (bn1 (f_X12_letterOf (M.1 1 x2.toNatClampNeg) (M.1 1 x3.toNatClampNeg) v3) (fun r1 => bn1 (f_X12_put M r1) (fun M1 => f_X12_putVariety_16 v2 n M1 (v3 + 1))))))))))
def f_X12_putVariety (M : MT) (v1 : Int32) : Option MT :=
  bnd (16 + (6 * v1)) (fun x1 => bn1 (f_X12_put M 58) (fun M1 => f_X12_putVariety_16 x1 2000 M1 0))
set_option maxRecDepth 20000 in
theorem b_X12_putVariety_16 {p : Program} {l : Launch} {e : Env} {s : State} {m : MethodId} {args : Array Value} {below : List Frame} {meth : Method} {c : Code} {D : DD} {z : Nat} {X : XT} {o : Int64} {f1 : Nat} {v2 : Int32} (E : Cx p s m args meth c D z RX12 cX12_putVariety 4 none) {M' : MT} : ∀ (n : Nat) (M : MT) (v3 : Int32) (hf : f_X12_putVariety_16 v2 n M v3 = some M'), J p l e (rmk 2 0 0) s m args below meth c D z (GG D z (X, (f1 + 1, M, o))) 0 0 (MQ below (QC z none (GG D z (X, (f1 + 1, M', o)))) args s (rmk 2 0 0).cells (rmk 2 0 0).slots (Az z)) 4 16 [(0, .ref (z + aM 0)), (2, .int v2), (3, .int v3)] [] := by
  intro n
  induction n with
  | zero =>
    intro M v3 hf
    exact none_e hf
  | succ n ih =>
    intro M v3 hf
    rw [f_X12_putVariety_16] at hf
    refine j_iload_n E 2 rfl dX12_putVariety_16 ?_
    refine j_aload_n E 0 rfl dX12_putVariety_17 ?_
    refine j_getM (f := 1) E cf_X12 fl_X12_17 (lt_ rfl) rfl rfl dX12_putVariety_18 ?_
    refine j_iload_n E 1 rfl dX12_putVariety_21 ?_
    refine j_iconst E 1 ic_1 dX12_putVariety_22 ?_
    refine j_iadd E dX12_putVariety_23 ?_
    obtain ⟨x1, hx1, hf⟩ := bnd_e hf
    refine j_name hx1 ?_
    obtain ⟨g1, hf⟩ := gd_e hf
    refine j_ialdM E (lt_ rfl) entM1 g1 (x1.toNatClampNeg) rfl dX12_putVariety_24 ?_
    refine j_icmp_ge E 58 (by decide) dX12_putVariety_25 (fun c1 => ?_) (fun c1 => ?_)
    · rw [if_pos c1] at hf
      cases hf
      exact j_vret E (le_ rfl) (le_ rfl) dX12_putVariety_58
    · rw [if_neg c1] at hf
      refine j_aload_n E 0 rfl dX12_putVariety_28 ?_
      refine j_aload_n E 0 rfl dX12_putVariety_29 ?_
      refine j_getM (f := 1) E cf_X12 fl_X12_17 (lt_ rfl) rfl rfl dX12_putVariety_30 ?_
      refine j_iload_n E 1 rfl dX12_putVariety_33 ?_
      refine j_iconst E 0 ic_0 dX12_putVariety_34 ?_
      refine j_iadd E dX12_putVariety_35 ?_
      obtain ⟨x2, hx2, hf⟩ := bnd_e hf
      refine j_name hx2 ?_
      obtain ⟨g2, hf⟩ := gd_e hf
      refine j_ialdM E (lt_ rfl) entM1 g2 (x2.toNatClampNeg) rfl dX12_putVariety_36 ?_
      refine j_aload_n E 0 rfl dX12_putVariety_37 ?_
      refine j_getM (f := 1) E cf_X12 fl_X12_17 (lt_ rfl) rfl rfl dX12_putVariety_38 ?_
      refine j_iload_n E 1 rfl dX12_putVariety_41 ?_
      refine j_iconst E 1 ic_1 dX12_putVariety_42 ?_
      refine j_iadd E dX12_putVariety_43 ?_
      obtain ⟨x3, hx3, hf⟩ := bnd_e hf
      refine j_name hx3 ?_
      obtain ⟨g3, hf⟩ := gd_e hf
      refine j_ialdM E (lt_ rfl) entM1 g3 (x3.toNatClampNeg) rfl dX12_putVariety_44 ?_
      refine j_iload_n E 2 rfl dX12_putVariety_45 ?_
      obtain ⟨r1, h1, hf⟩ := bn1_e hf
      refine j_invS [.ref (z + aM 0)] [.int r1, .ref (z + aM 0)] E (c_X12_letterOf h1) ml_X12_495 ms_X12_letterOf rfl ⟨le_ rfl, le_ rfl⟩ rfl rfl (le_ rfl) ⟨le_ rfl, le_ rfl⟩ dX12_putVariety_46 ?_
      obtain ⟨M1, h2, hf⟩ := bn1_e hf
      refine j_invV [] [] E (c_X12_put h2) ml_X12_492 mv_X12_put rfl ⟨le_ rfl, le_ rfl⟩ (rcM cf_X12) rfl rfl (le_ rfl) ⟨le_ rfl, le_ rfl⟩ dX12_putVariety_49 ?_
      refine j_iinc (ls' := [(3, .int (v3 + 1)), (0, .ref (z + aM 0)), (2, .int v2)]) E 2 rfl (lt_ rfl) (v3 + 1) (congrArg (fun q => v3 + q) ic_1) rfl dX12_putVariety_52 ?_
      refine j_goto E 16 (by decide) dX12_putVariety_55 ?_
      refine j_sub [1, 2, 0] rfl ?_
      exact ih _ _ hf
set_option maxRecDepth 20000 in
theorem c_X12_putVariety {l : Launch} {D : DD} {z : Nat} {X : XT} {o : Int64} {f1 : Nat} {M : MT} {v1 : Int32} {M' : MT} (hf : f_X12_putVariety M v1 = some M') : CC l yX12_putVariety cX12_putVariety 4 none (rmk 2 0 0) D z [.ref (z + aM 0), .int v1] (GG D z (X, (f1 + 1, M, o))) none (GG D z (X, (f1 + 1, M', o))) := by
  unfold f_X12_putVariety at hf
  refine cc_of pn_X12 (le_ rfl) (ls := [(0, .ref (z + aM 0)), (1, .int v1)]) rfl ?_
  intro p e s m args below meth c E
  refine j_bipush E 16 bp_16 dX12_putVariety_0 ?_
  refine j_bipush E 6 bp_6 dX12_putVariety_2 ?_
  refine j_iload_n E 1 rfl dX12_putVariety_4 ?_
  refine j_imul E dX12_putVariety_5 ?_
  refine j_iadd E dX12_putVariety_6 ?_
  obtain ⟨x1, hx1, hf⟩ := bnd_e hf
  refine j_name hx1 ?_
  refine j_istore_n (ls' := [(2, .int x1), (0, .ref (z + aM 0)), (1, .int v1)]) E (lt_ rfl) rfl dX12_putVariety_7 ?_
  refine j_aload_n E 1 rfl dX12_putVariety_8 ?_
  refine j_bipush E 58 bp_58 dX12_putVariety_9 ?_
  obtain ⟨M1, h1, hf⟩ := bn1_e hf
  refine j_invV [] [] E (c_X12_put h1) ml_X12_492 mv_X12_put rfl ⟨le_ rfl, le_ rfl⟩ (rcM cf_X12) rfl rfl (le_ rfl) ⟨le_ rfl, le_ rfl⟩ dX12_putVariety_11 ?_
  refine j_iconst E 0 ic_0 dX12_putVariety_14 ?_
  refine j_istore_n (ls' := [(3, .int 0), (2, .int x1), (0, .ref (z + aM 0)), (1, .int v1)]) E (lt_ rfl) rfl dX12_putVariety_15 ?_
  refine j_sub [2, 1, 0] rfl ?_
  exact b_X12_putVariety_16 E 2000 _ _ hf
def f_X12_printTanks_12 : Nat → MT → Int32 → Option (Int32 × MT)
  | 0, _, _ => none
  | n + 1, M, v1 => if (M.1 1 8) ≤ v1 then (some ((M.1 0 33), M)) else (if v1 = 0 then (bn1 (f_X12_putGap M 1) (fun M4 => bn1 (f_X12_ofTank M4 v1 1) (fun r4 => bn1 (f_X12_putNumber M4 r4) (fun M5 => bn1 (f_X12_ofTank M5 v1 1) (fun r5 => if r5 ≤ 0 then (f_X12_printTanks_12 n M5 (v1 + 1)) else (bn1 (f_X12_ofTank M5 v1 2) (fun r6 => bn1 (f_X12_putVariety M5 r6) (fun M6 => f_X12_printTanks_12 n M6 (v1 + 1))))))))) else (bn1 (f_X12_putGap M 0) (fun M1 => bn1 (f_X12_ofTank M1 v1 1) (fun r1 => bn1 (f_X12_putNumber M1 r1) (fun M2 => bn1 (f_X12_ofTank M2 v1 1) (fun r2 => if r2 ≤ 0 then (f_X12_printTanks_12 n M2 (v1 + 1)) else (bn1 (f_X12_ofTank M2 v1 2) (fun r3 => bn1 (f_X12_putVariety M2 r3) (fun M3 => f_X12_printTanks_12 n M3 (v1 + 1))))))))))
def f_X12_printTanks (M : MT) : Option (Int32 × MT) :=
  bnd (mi M 0 0 0) (fun M1 => bnd (mi M1 0 33 0) (fun M2 => f_X12_printTanks_12 2000 M2 0))
set_option maxRecDepth 20000 in
theorem b_X12_printTanks_12 {p : Program} {l : Launch} {e : Env} {s : State} {m : MethodId} {args : Array Value} {below : List Frame} {meth : Method} {c : Code} {D : DD} {z : Nat} {X : XT} {o : Int64} {f1 : Nat} (E : Cx p s m args meth c D z RX12 cX12_printTanks 2 (some .int)) {r : Int32} {M' : MT} : ∀ (n : Nat) (M : MT) (v1 : Int32) (hf : f_X12_printTanks_12 n M v1 = some (r, M')), J p l e (rmk 3 0 0) s m args below meth c D z (GG D z (X, (f1 + 1, M, o))) 0 0 (MQ below (QC z (some (.int r)) (GG D z (X, (f1 + 1, M', o)))) args s (rmk 3 0 0).cells (rmk 3 0 0).slots (Az z)) 2 12 [(0, .ref (z + aM 0)), (1, .int v1)] [] := by
  intro n
  induction n with
  | zero =>
    intro M v1 hf
    exact none_e hf
  | succ n ih =>
    intro M v1 hf
    rw [f_X12_printTanks_12] at hf
    refine j_iload_n E 1 rfl dX12_printTanks_12 ?_
    refine j_aload_n E 0 rfl dX12_printTanks_13 ?_
    refine j_getM (f := 1) E cf_X12 fl_X12_17 (lt_ rfl) rfl rfl dX12_printTanks_14 ?_
    refine j_bipush E 8 bp_8 dX12_printTanks_17 ?_
    refine j_ialdM E (lt_ rfl) entM1 (vi_8 (lt_ rfl)) (8) tn_8 dX12_printTanks_19 ?_
    refine j_icmp_ge E 71 (by decide) dX12_printTanks_20 (fun c1 => ?_) (fun c1 => ?_)
    · rw [if_pos c1] at hf
      refine j_aload_n E 0 rfl dX12_printTanks_71 ?_
      refine j_getM (f := 33) E cf_X12 fl_X12_489 (lt_ rfl) rfl rfl dX12_printTanks_72 ?_
      cases hf
      exact j_iret E rfl (le_ rfl) (le_ rfl) dX12_printTanks_75
    · rw [if_neg c1] at hf
      refine j_aload_n E 0 rfl dX12_printTanks_23 ?_
      refine j_iload_n E 1 rfl dX12_printTanks_24 ?_
      refine j_if_ne E 32 (by decide) dX12_printTanks_25 (fun c2 => ?_) (fun c2 => ?_)
      · rw [if_neg c2] at hf
        refine j_iconst E 0 ic_0 dX12_printTanks_32 ?_
        obtain ⟨M1, h1, hf⟩ := bn1_e hf
        refine j_invV [] [] E (c_X12_putGap h1) ml_X12_498 mv_X12_putGap rfl ⟨le_ rfl, le_ rfl⟩ (rcM cf_X12) rfl rfl (le_ rfl) ⟨le_ rfl, le_ rfl⟩ dX12_printTanks_33 ?_
        refine j_aload_n E 0 rfl dX12_printTanks_36 ?_
        refine j_aload_n E 0 rfl dX12_printTanks_37 ?_
        refine j_iload_n E 1 rfl dX12_printTanks_38 ?_
        refine j_iconst E 1 ic_1 dX12_printTanks_39 ?_
        obtain ⟨r1, h2, hf⟩ := bn1_e hf
        refine j_invV [.ref (z + aM 0)] [.int r1, .ref (z + aM 0)] E (c_X12_ofTank h2) ml_X12_151 mv_X12_ofTank rfl ⟨le_ rfl, le_ rfl⟩ (rcM cf_X12) rfl rfl (le_ rfl) ⟨le_ rfl, le_ rfl⟩ dX12_printTanks_40 ?_
        obtain ⟨M2, h3, hf⟩ := bn1_e hf
        refine j_invV [] [] E (c_X12_putNumber h3) ml_X12_501 mv_X12_putNumber rfl ⟨le_ rfl, le_ rfl⟩ (rcM cf_X12) rfl rfl (le_ rfl) ⟨le_ rfl, le_ rfl⟩ dX12_printTanks_43 ?_
        refine j_aload_n E 0 rfl dX12_printTanks_46 ?_
        refine j_iload_n E 1 rfl dX12_printTanks_47 ?_
        refine j_iconst E 1 ic_1 dX12_printTanks_48 ?_
        obtain ⟨r2, h4, hf⟩ := bn1_e hf
        refine j_invV [] [.int r2] E (c_X12_ofTank h4) ml_X12_151 mv_X12_ofTank rfl ⟨le_ rfl, le_ rfl⟩ (rcM cf_X12) rfl rfl (le_ rfl) ⟨le_ rfl, le_ rfl⟩ dX12_printTanks_49 ?_
        refine j_if_le E 65 (by decide) dX12_printTanks_52 (fun c3 => ?_) (fun c3 => ?_)
        · rw [if_pos c3] at hf
          refine j_iinc (ls' := [(1, .int (v1 + 1)), (0, .ref (z + aM 0))]) E 1 rfl (lt_ rfl) (v1 + 1) (congrArg (fun q => v1 + q) ic_1) rfl dX12_printTanks_65 ?_
          refine j_goto E 12 (by decide) dX12_printTanks_68 ?_
          refine j_sub [1, 0] rfl ?_
          exact ih _ _ hf
        · rw [if_neg c3] at hf
          refine j_aload_n E 0 rfl dX12_printTanks_55 ?_
          refine j_aload_n E 0 rfl dX12_printTanks_56 ?_
          refine j_iload_n E 1 rfl dX12_printTanks_57 ?_
          refine j_iconst E 2 ic_2 dX12_printTanks_58 ?_
          obtain ⟨r3, h5, hf⟩ := bn1_e hf
          refine j_invV [.ref (z + aM 0)] [.int r3, .ref (z + aM 0)] E (c_X12_ofTank h5) ml_X12_151 mv_X12_ofTank rfl ⟨le_ rfl, le_ rfl⟩ (rcM cf_X12) rfl rfl (le_ rfl) ⟨le_ rfl, le_ rfl⟩ dX12_printTanks_59 ?_
          obtain ⟨M3, h6, hf⟩ := bn1_e hf
          refine j_invV [] [] E (c_X12_putVariety h6) ml_X12_504 mv_X12_putVariety rfl ⟨le_ rfl, le_ rfl⟩ (rcM cf_X12) rfl rfl (le_ rfl) ⟨le_ rfl, le_ rfl⟩ dX12_printTanks_62 ?_
          refine j_iinc (ls' := [(1, .int (v1 + 1)), (0, .ref (z + aM 0))]) E 1 rfl (lt_ rfl) (v1 + 1) (congrArg (fun q => v1 + q) ic_1) rfl dX12_printTanks_65 ?_
          refine j_goto E 12 (by decide) dX12_printTanks_68 ?_
          refine j_sub [1, 0] rfl ?_
          exact ih _ _ hf
      · rw [if_pos c2] at hf
        refine j_iconst E 1 ic_1 dX12_printTanks_28 ?_
        refine j_goto E 33 (by decide) dX12_printTanks_29 ?_
        obtain ⟨M4, h7, hf⟩ := bn1_e hf
        refine j_invV [] [] E (c_X12_putGap h7) ml_X12_498 mv_X12_putGap rfl ⟨le_ rfl, le_ rfl⟩ (rcM cf_X12) rfl rfl (le_ rfl) ⟨le_ rfl, le_ rfl⟩ dX12_printTanks_33 ?_
        refine j_aload_n E 0 rfl dX12_printTanks_36 ?_
        refine j_aload_n E 0 rfl dX12_printTanks_37 ?_
        refine j_iload_n E 1 rfl dX12_printTanks_38 ?_
        refine j_iconst E 1 ic_1 dX12_printTanks_39 ?_
        obtain ⟨r4, h8, hf⟩ := bn1_e hf
        refine j_invV [.ref (z + aM 0)] [.int r4, .ref (z + aM 0)] E (c_X12_ofTank h8) ml_X12_151 mv_X12_ofTank rfl ⟨le_ rfl, le_ rfl⟩ (rcM cf_X12) rfl rfl (le_ rfl) ⟨le_ rfl, le_ rfl⟩ dX12_printTanks_40 ?_
        obtain ⟨M5, h9, hf⟩ := bn1_e hf
        refine j_invV [] [] E (c_X12_putNumber h9) ml_X12_501 mv_X12_putNumber rfl ⟨le_ rfl, le_ rfl⟩ (rcM cf_X12) rfl rfl (le_ rfl) ⟨le_ rfl, le_ rfl⟩ dX12_printTanks_43 ?_
        refine j_aload_n E 0 rfl dX12_printTanks_46 ?_
        refine j_iload_n E 1 rfl dX12_printTanks_47 ?_
        refine j_iconst E 1 ic_1 dX12_printTanks_48 ?_
        obtain ⟨r5, h10, hf⟩ := bn1_e hf
        refine j_invV [] [.int r5] E (c_X12_ofTank h10) ml_X12_151 mv_X12_ofTank rfl ⟨le_ rfl, le_ rfl⟩ (rcM cf_X12) rfl rfl (le_ rfl) ⟨le_ rfl, le_ rfl⟩ dX12_printTanks_49 ?_
        refine j_if_le E 65 (by decide) dX12_printTanks_52 (fun c4 => ?_) (fun c4 => ?_)
        · rw [if_pos c4] at hf
          refine j_iinc (ls' := [(1, .int (v1 + 1)), (0, .ref (z + aM 0))]) E 1 rfl (lt_ rfl) (v1 + 1) (congrArg (fun q => v1 + q) ic_1) rfl dX12_printTanks_65 ?_
          refine j_goto E 12 (by decide) dX12_printTanks_68 ?_
          refine j_sub [1, 0] rfl ?_
          exact ih _ _ hf
        · rw [if_neg c4] at hf
          refine j_aload_n E 0 rfl dX12_printTanks_55 ?_
          refine j_aload_n E 0 rfl dX12_printTanks_56 ?_
          refine j_iload_n E 1 rfl dX12_printTanks_57 ?_
          refine j_iconst E 2 ic_2 dX12_printTanks_58 ?_
          obtain ⟨r6, h11, hf⟩ := bn1_e hf
          refine j_invV [.ref (z + aM 0)] [.int r6, .ref (z + aM 0)] E (c_X12_ofTank h11) ml_X12_151 mv_X12_ofTank rfl ⟨le_ rfl, le_ rfl⟩ (rcM cf_X12) rfl rfl (le_ rfl) ⟨le_ rfl, le_ rfl⟩ dX12_printTanks_59 ?_
          obtain ⟨M6, h12, hf⟩ := bn1_e hf
          refine j_invV [] [] E (c_X12_putVariety h12) ml_X12_504 mv_X12_putVariety rfl ⟨le_ rfl, le_ rfl⟩ (rcM cf_X12) rfl rfl (le_ rfl) ⟨le_ rfl, le_ rfl⟩ dX12_printTanks_62 ?_
          refine j_iinc (ls' := [(1, .int (v1 + 1)), (0, .ref (z + aM 0))]) E 1 rfl (lt_ rfl) (v1 + 1) (congrArg (fun q => v1 + q) ic_1) rfl dX12_printTanks_65 ?_
          refine j_goto E 12 (by decide) dX12_printTanks_68 ?_
          refine j_sub [1, 0] rfl ?_
          exact ih _ _ hf
set_option maxRecDepth 20000 in
theorem c_X12_printTanks {l : Launch} {D : DD} {z : Nat} {X : XT} {o : Int64} {f1 : Nat} {M : MT} {r : Int32} {M' : MT} (hf : f_X12_printTanks M = some (r, M')) : CC l yX12_printTanks cX12_printTanks 2 (some .int) (rmk 3 0 0) D z [.ref (z + aM 0)] (GG D z (X, (f1 + 1, M, o))) (some (.int r)) (GG D z (X, (f1 + 1, M', o))) := by
  unfold f_X12_printTanks at hf
  refine cc_of pn_X12 (le_ rfl) (ls := [(0, .ref (z + aM 0))]) rfl ?_
  intro p e s m args below meth c E
  refine j_aload_n E 0 rfl dX12_printTanks_0 ?_
  refine j_iconst E 0 ic_0 dX12_printTanks_1 ?_
  obtain ⟨M1, hM1, hf⟩ := bnd_e hf
  refine j_putM (f := 0) E cf_X12 fl_X12_3 (lt_ rfl) ⟨rfl, rfl⟩ (fit_i _) (lt_ rfl) peM_0 hM1 dX12_printTanks_2 ?_
  refine j_aload_n E 0 rfl dX12_printTanks_5 ?_
  refine j_iconst E 0 ic_0 dX12_printTanks_6 ?_
  obtain ⟨M2, hM2, hf⟩ := bnd_e hf
  refine j_putM (f := 33) E cf_X12 fl_X12_489 (lt_ rfl) ⟨rfl, rfl⟩ (fit_i _) (lt_ rfl) peM_33 hM2 dX12_printTanks_7 ?_
  refine j_iconst E 0 ic_0 dX12_printTanks_10 ?_
  refine j_istore_n (ls' := [(1, .int 0), (0, .ref (z + aM 0))]) E (lt_ rfl) rfl dX12_printTanks_11 ?_
  refine j_sub [1, 0] rfl ?_
  exact b_X12_printTanks_12 E 2000 _ _ hf
def f_X12_outputByte (M : MT) (v1 : Int32) : Option (Int32 × MT) :=
  bn1 (f_X12_in (v1.toInt64) 0 (((M.1 0 33) - 1).toInt64)) (fun r1 => bn2 (f_X12_passes1 M r1) (fun r2 M1 => if r2 = 0 then (some (0, M1)) else (gd (¬ (v1 < 0 ∨ 200 ≤ v1.toNatClampNeg)) (some ((M1.1 6 v1.toNatClampNeg), M1)))))
set_option maxRecDepth 20000 in
theorem c_X12_outputByte {l : Launch} {D : DD} {z : Nat} {X : XT} {o : Int64} {f1 : Nat} {M : MT} {v1 : Int32} {r : Int32} {M' : MT} (hf : f_X12_outputByte M v1 = some (r, M')) : CC l yX12_outputByte cX12_outputByte 2 (some .int) (rmk 3 0 0) D z [.ref (z + aM 0), .int v1] (GG D z (X, (f1 + 1, M, o))) (some (.int r)) (GG D z (X, (f1 + 1, M', o))) := by
  unfold f_X12_outputByte at hf
  refine cc_of pn_X12 (le_ rfl) (ls := [(0, .ref (z + aM 0)), (1, .int v1)]) rfl ?_
  intro p e s m args below meth c E
  refine j_aload_n E 0 rfl dX12_outputByte_0 ?_
  refine j_iload_n E 1 rfl dX12_outputByte_1 ?_
  refine j_i2l E dX12_outputByte_2 ?_
  refine j_lconst E 0 rfl dX12_outputByte_3 ?_
  refine j_aload_n E 0 rfl dX12_outputByte_4 ?_
  refine j_getM (f := 33) E cf_X12 fl_X12_489 (lt_ rfl) rfl rfl dX12_outputByte_5 ?_
  refine j_iconst E 1 ic_1 dX12_outputByte_8 ?_
  refine j_isub E dX12_outputByte_9 ?_
  refine j_i2l E dX12_outputByte_10 ?_
  obtain ⟨r1, h1, hf⟩ := bn1_e hf
  refine j_invS [.ref (z + aM 0)] [.int r1, .ref (z + aM 0)] E (c_X12_in h1) ml_X12_282 ms_X12_in rfl ⟨le_ rfl, le_ rfl⟩ rfl rfl (le_ rfl) ⟨le_ rfl, le_ rfl⟩ dX12_outputByte_11 ?_
  obtain ⟨r2, M1, h2, hf⟩ := bn2_e hf
  refine j_invV [] [.int r2] E (c_X12_passes1 h2) ml_X12_396 mv_X12_passes1 rfl ⟨le_ rfl, le_ rfl⟩ (rcM cf_X12) rfl rfl (le_ rfl) ⟨le_ rfl, le_ rfl⟩ dX12_outputByte_14 ?_
  refine j_if_eq E 29 (by decide) dX12_outputByte_17 (fun c1 => ?_) (fun c1 => ?_)
  · rw [if_pos c1] at hf
    refine j_iconst E 0 ic_0 dX12_outputByte_29 ?_
    cases hf
    exact j_iret E rfl (le_ rfl) (le_ rfl) dX12_outputByte_30
  · rw [if_neg c1] at hf
    refine j_aload_n E 0 rfl dX12_outputByte_20 ?_
    refine j_getM (f := 32) E cf_X12 fl_X12_105 (lt_ rfl) rfl rfl dX12_outputByte_21 ?_
    refine j_iload_n E 1 rfl dX12_outputByte_24 ?_
    obtain ⟨g1, hf⟩ := gd_e hf
    refine j_ialdM E (lt_ rfl) entM6 g1 (v1.toNatClampNeg) rfl dX12_outputByte_25 ?_
    refine j_goto E 30 (by decide) dX12_outputByte_26 ?_
    cases hf
    exact j_iret E rfl (le_ rfl) (le_ rfl) dX12_outputByte_30
