def f_L_act (X : XT) (sc : Nat × (Nat → Int32)) (v2 : Int32) : Option (Int32 × XT) :=
  bn1 (f_L_draw sc (v2 + 1) 100000) (fun r1 => bn1 (f_L_draw sc (v2 + 2) 100000) (fun r2 => bn1 (f_L_tanks sc) (fun r3 => bn1 (f_L_draw sc v2 20) (fun r4 => if 9 ≤ r4 then (if r4 = 9 then (bn1 (f_X11_varietyCount X) (fun r16 => if r16 = 0 then (some ((-99), X)) else (bn1 (f_X11_varietyCount X) (fun r17 => gd (¬ r17 = 0) (bn1 (f_X11_classCount X) (fun r18 => gd (¬ r18 = 0) (bn2 (f_X11_setPrice X (r1 - r1 / r17 * r17) (r2 - r2 / r18 * r18) (r1 - r1 / 40 * 40)) (fun r19 X6 => some (r19, X6))))))))) else (if 13 ≤ r4 then (if 15 ≤ r4 then (if r4 = 15 then (bn1 (f_X11_loadCount X) (fun r9 => if r9 = 0 then (some ((-99), X)) else (bn1 (f_X11_loadCount X) (fun r10 => gd (¬ r10 = 0) (bn2 (f_L_paid X (r1 - r1 / r10 * r10)) (fun r11 X3 => some (r11, X3))))))) else (if 18 ≤ r4 then (if 2 ≤ r3 then (gd (¬ r3 = 0) (gd (¬ r3 = 0) (gd (¬ (r3 - 1) = 0) (gd (¬ r3 = 0) (bn2 (f_L_pumped X (r1 - r1 / r3 * r3) ((((r1 - r1 / r3 * r3) + 1) + (r2 - r2 / (r3 - 1) * (r3 - 1))) - (((r1 - r1 / r3 * r3) + 1) + (r2 - r2 / (r3 - 1) * (r3 - 1))) / r3 * r3)) (fun r5 X1 => some (r5, X1))))))) else (some ((-99), X))) else (bn1 (f_X11_growerCount X) (fun r6 => if r6 = 0 then (some ((-99), X)) else (bn1 (f_X11_growerCount X) (fun r7 => gd (¬ r7 = 0) (bn2 (f_L_settled X (r1 - r1 / r7 * r7)) (fun r8 X2 => some (r8, X2))))))))) else (bn1 (f_X11_lotCount X) (fun r12 => if r12 = 0 then (some ((-99), X)) else (bn1 (f_X11_lotCount X) (fun r13 => gd (¬ r13 = 0) (bn2 (f_L_sold X (r1 - r1 / r13 * r13) (1 + (r2 - r2 / 90 * 90)) (1 + (r1 - r1 / 300 * 300))) (fun r14 X4 => some (r14, X4)))))))) else (if r3 = 0 then (some ((-99), X)) else (gd (¬ r3 = 0) (bn2 (f_L_bottled X (r1 - r1 / r3 * r3) (1 + (r2 - r2 / 400 * 400))) (fun r15 X5 => some (r15, X5))))))) else (bn1 (f_X11_plotCount X) (fun r20 => if r20 = 0 then (some ((-99), X)) else (bn1 (f_X11_plotCount X) (fun r21 => gd (¬ r21 = 0) (bn1 (f_L_weight sc v2) (fun r22 => bn1 (f_L_sugar sc v2) (fun r23 => bn2 (f_L_delivered X (r1 - r1 / r21 * r21) r22 r23) (fun r24 X7 => some (r24, X7)))))))))))))
set_option maxRecDepth 20000 in
theorem c_L_act {l : Launch} (hl : l.stackTraces = false) {D : DD} {z : Nat} {Y : YT} {X : XT} {v2 : Int32} {r : Int32} {X' : XT} (hf : f_L_act X D.2.2.2.2.2.2.2 v2 = some (r, X')) : CC l yL_act cL_act 7 (some .int) (rmk 9 1 6) D z [.ref (z + aX 0 0 0), .ref D.2.2.2.2.2.2.1, .int v2] (GG D z (X, Y)) (some (.int r)) (GG D z (X', Y)) := by
  unfold f_L_act at hf
  refine cc_of pn_L (le_ rfl) (ls := [(0, .ref (z + aX 0 0 0)), (1, .ref D.2.2.2.2.2.2.1), (2, .int v2)]) rfl ?_
  intro p e s m args below meth c E
  refine j_aload_n E 1 rfl dL_act_0 ?_
  refine j_iload_n E 2 rfl dL_act_1 ?_
  refine j_iconst E 1 ic_1 dL_act_2 ?_
  refine j_iadd E dL_act_3 ?_
  refine j_ldc E ct_L_244 dL_act_4 ?_
  obtain ⟨r1, h1, hf⟩ := bn1_e hf
  refine j_invS [] [.int r1] E (c_L_draw h1) ml_L_40 ms_L_draw rfl ⟨le_ rfl, le_ rfl⟩ rfl rfl (le_ rfl) ⟨le_ rfl, le_ rfl⟩ dL_act_6 ?_
  refine j_istore_n (ls' := [(3, .int r1), (0, .ref (z + aX 0 0 0)), (1, .ref D.2.2.2.2.2.2.1), (2, .int v2)]) E (lt_ rfl) rfl dL_act_9 ?_
  refine j_aload_n E 2 rfl dL_act_10 ?_
  refine j_iload_n E 3 rfl dL_act_11 ?_
  refine j_iconst E 2 ic_2 dL_act_12 ?_
  refine j_iadd E dL_act_13 ?_
  refine j_ldc E ct_L_244 dL_act_14 ?_
  obtain ⟨r2, h2, hf⟩ := bn1_e hf
  refine j_invS [] [.int r2] E (c_L_draw h2) ml_L_40 ms_L_draw rfl ⟨le_ rfl, le_ rfl⟩ rfl rfl (le_ rfl) ⟨le_ rfl, le_ rfl⟩ dL_act_16 ?_
  refine j_istore (ls' := [(4, .int r2), (3, .int r1), (0, .ref (z + aX 0 0 0)), (1, .ref D.2.2.2.2.2.2.1), (2, .int v2)]) E (lt_ rfl) rfl dL_act_19 ?_
  refine j_aload_n E 3 rfl dL_act_21 ?_
  obtain ⟨r3, h3, hf⟩ := bn1_e hf
  refine j_invS [] [.int r3] E (c_L_tanks h3) ml_L_118 ms_L_tanks rfl ⟨le_ rfl, le_ rfl⟩ rfl rfl (le_ rfl) ⟨le_ rfl, le_ rfl⟩ dL_act_22 ?_
  refine j_istore (ls' := [(5, .int r3), (4, .int r2), (3, .int r1), (0, .ref (z + aX 0 0 0)), (1, .ref D.2.2.2.2.2.2.1), (2, .int v2)]) E (lt_ rfl) rfl dL_act_25 ?_
  refine j_aload_n E 4 rfl dL_act_27 ?_
  refine j_iload_n E 5 rfl dL_act_28 ?_
  refine j_bipush E 20 bp_20 dL_act_29 ?_
  obtain ⟨r4, h4, hf⟩ := bn1_e hf
  refine j_invS [] [.int r4] E (c_L_draw h4) ml_L_40 ms_L_draw rfl ⟨le_ rfl, le_ rfl⟩ rfl rfl (le_ rfl) ⟨le_ rfl, le_ rfl⟩ dL_act_31 ?_
  refine j_istore (ls' := [(6, .int r4), (5, .int r3), (4, .int r2), (3, .int r1), (0, .ref (z + aX 0 0 0)), (1, .ref D.2.2.2.2.2.2.1), (2, .int v2)]) E (lt_ rfl) rfl dL_act_34 ?_
  refine j_iload E 0 rfl dL_act_36 ?_
  refine j_bipush E 9 bp_9 dL_act_38 ?_
  refine j_icmp_ge E 76 (by decide) dL_act_40 (fun c1 => ?_) (fun c1 => ?_)
  · rw [if_pos c1] at hf
    refine j_iload E 0 rfl dL_act_76 ?_
    refine j_bipush E 9 bp_9 dL_act_78 ?_
    refine j_icmp_ne E 117 (by decide) dL_act_80 (fun c2 => ?_) (fun c2 => ?_)
    · rw [if_neg c2] at hf
      refine j_iload E 0 rfl dL_act_117 ?_
      refine j_bipush E 13 bp_13 dL_act_119 ?_
      refine j_icmp_ge E 151 (by decide) dL_act_121 (fun c3 => ?_) (fun c3 => ?_)
      · rw [if_pos c3] at hf
        refine j_iload E 0 rfl dL_act_151 ?_
        refine j_bipush E 15 bp_15 dL_act_153 ?_
        refine j_icmp_ge E 195 (by decide) dL_act_155 (fun c4 => ?_) (fun c4 => ?_)
        · rw [if_pos c4] at hf
          refine j_iload E 0 rfl dL_act_195 ?_
          refine j_bipush E 15 bp_15 dL_act_197 ?_
          refine j_icmp_ne E 225 (by decide) dL_act_199 (fun c5 => ?_) (fun c5 => ?_)
          · rw [if_neg c5] at hf
            refine j_iload E 0 rfl dL_act_225 ?_
            refine j_bipush E 18 bp_18 dL_act_227 ?_
            refine j_icmp_ge E 255 (by decide) dL_act_229 (fun c6 => ?_) (fun c6 => ?_)
            · rw [if_pos c6] at hf
              refine j_iload E 1 rfl dL_act_255 ?_
              refine j_iconst E 2 ic_2 dL_act_257 ?_
              refine j_icmp_ge E 266 (by decide) dL_act_258 (fun c7 => ?_) (fun c7 => ?_)
              · rw [if_pos c7] at hf
                refine j_aload_n E 4 rfl dL_act_266 ?_
                refine j_iload_n E 3 rfl dL_act_267 ?_
                refine j_iload E 1 rfl dL_act_268 ?_
                obtain ⟨g1, hf⟩ := gd_e hf
                refine j_irem E g1 dL_act_270 ?_
                refine j_iload_n E 3 rfl dL_act_271 ?_
                refine j_iload E 1 rfl dL_act_272 ?_
                obtain ⟨g2, hf⟩ := gd_e hf
                refine j_irem E g2 dL_act_274 ?_
                refine j_iconst E 1 ic_1 dL_act_275 ?_
                refine j_iadd E dL_act_276 ?_
                refine j_iload E 2 rfl dL_act_277 ?_
                refine j_iload E 1 rfl dL_act_279 ?_
                refine j_iconst E 1 ic_1 dL_act_281 ?_
                refine j_isub E dL_act_282 ?_
                obtain ⟨g3, hf⟩ := gd_e hf
                refine j_irem E g3 dL_act_283 ?_
                refine j_iadd E dL_act_284 ?_
                refine j_iload E 1 rfl dL_act_285 ?_
                obtain ⟨g4, hf⟩ := gd_e hf
                refine j_irem E g4 dL_act_287 ?_
                obtain ⟨r5, X1, h5, hf⟩ := bn2_e hf
                refine j_invW (n0 := 3) [] [.int r5] E (c_L_pumped hl h5) ml_L_272 st_L_pumped in_L cd_L_pumped rfl ⟨by decide +kernel, by decide +kernel, by decide +kernel⟩ rfl ⟨le_ rfl, le_ rfl⟩ rfl rfl (le_ rfl) ⟨le_ rfl, le_ rfl⟩ dL_act_288 ?_
                cases hf
                exact j_iret E rfl (le_ rfl) (le_ rfl) dL_act_291
              · rw [if_neg c7] at hf
                refine j_bipush E (-99) bp_m99 dL_act_261 ?_
                refine j_goto E 291 (by decide) dL_act_263 ?_
                cases hf
                exact j_iret E rfl (le_ rfl) (le_ rfl) dL_act_291
            · rw [if_neg c6] at hf
              refine j_aload_n E 4 rfl dL_act_232 ?_
              obtain ⟨r6, h6, hf⟩ := bn1_e hf
              refine j_invV [] [.int r6] E (c_X11_growerCount h6) ml_L_145 mv_X11_growerCount rfl ⟨le_ rfl, le_ rfl⟩ (rcX ok0 cf_X11 ent0) rfl rfl (le_ rfl) ⟨le_ rfl, le_ rfl⟩ dL_act_233 ?_
              refine j_if_ne E 244 (by decide) dL_act_236 (fun c8 => ?_) (fun c8 => ?_)
              · rw [if_neg c8] at hf
                refine j_aload_n E 4 rfl dL_act_244 ?_
                refine j_iload_n E 3 rfl dL_act_245 ?_
                refine j_aload_n E 4 rfl dL_act_246 ?_
                obtain ⟨r7, h7, hf⟩ := bn1_e hf
                refine j_invV [.int r1, .ref (z + aX 0 0 0)] [.int r7, .int r1, .ref (z + aX 0 0 0)] E (c_X11_growerCount h7) ml_L_145 mv_X11_growerCount rfl ⟨le_ rfl, le_ rfl⟩ (rcX ok0 cf_X11 ent0) rfl rfl (le_ rfl) ⟨le_ rfl, le_ rfl⟩ dL_act_247 ?_
                obtain ⟨g5, hf⟩ := gd_e hf
                refine j_irem E g5 dL_act_250 ?_
                obtain ⟨r8, X2, h8, hf⟩ := bn2_e hf
                refine j_invW (n0 := 2) [] [.int r8] E (c_L_settled hl h8) ml_L_269 st_L_settled in_L cd_L_settled rfl ⟨by decide +kernel, by decide +kernel, by decide +kernel⟩ rfl ⟨le_ rfl, le_ rfl⟩ rfl rfl (le_ rfl) ⟨le_ rfl, le_ rfl⟩ dL_act_251 ?_
                cases hf
                exact j_iret E rfl (le_ rfl) (le_ rfl) dL_act_254
              · rw [if_pos c8] at hf
                refine j_bipush E (-99) bp_m99 dL_act_239 ?_
                refine j_goto E 254 (by decide) dL_act_241 ?_
                cases hf
                exact j_iret E rfl (le_ rfl) (le_ rfl) dL_act_254
          · rw [if_pos c5] at hf
            refine j_aload_n E 4 rfl dL_act_202 ?_
            obtain ⟨r9, h9, hf⟩ := bn1_e hf
            refine j_invV [] [.int r9] E (c_X11_loadCount h9) ml_L_151 mv_X11_loadCount rfl ⟨le_ rfl, le_ rfl⟩ (rcX ok0 cf_X11 ent0) rfl rfl (le_ rfl) ⟨le_ rfl, le_ rfl⟩ dL_act_203 ?_
            refine j_if_ne E 214 (by decide) dL_act_206 (fun c9 => ?_) (fun c9 => ?_)
            · rw [if_neg c9] at hf
              refine j_aload_n E 4 rfl dL_act_214 ?_
              refine j_iload_n E 3 rfl dL_act_215 ?_
              refine j_aload_n E 4 rfl dL_act_216 ?_
              obtain ⟨r10, h10, hf⟩ := bn1_e hf
              refine j_invV [.int r1, .ref (z + aX 0 0 0)] [.int r10, .int r1, .ref (z + aX 0 0 0)] E (c_X11_loadCount h10) ml_L_151 mv_X11_loadCount rfl ⟨le_ rfl, le_ rfl⟩ (rcX ok0 cf_X11 ent0) rfl rfl (le_ rfl) ⟨le_ rfl, le_ rfl⟩ dL_act_217 ?_
              obtain ⟨g6, hf⟩ := gd_e hf
              refine j_irem E g6 dL_act_220 ?_
              obtain ⟨r11, X3, h11, hf⟩ := bn2_e hf
              refine j_invW (n0 := 2) [] [.int r11] E (c_L_paid hl h11) ml_L_265 st_L_paid in_L cd_L_paid rfl ⟨by decide +kernel, by decide +kernel, by decide +kernel⟩ rfl ⟨le_ rfl, le_ rfl⟩ rfl rfl (le_ rfl) ⟨le_ rfl, le_ rfl⟩ dL_act_221 ?_
              cases hf
              exact j_iret E rfl (le_ rfl) (le_ rfl) dL_act_224
            · rw [if_pos c9] at hf
              refine j_bipush E (-99) bp_m99 dL_act_209 ?_
              refine j_goto E 224 (by decide) dL_act_211 ?_
              cases hf
              exact j_iret E rfl (le_ rfl) (le_ rfl) dL_act_224
        · rw [if_neg c4] at hf
          refine j_aload_n E 4 rfl dL_act_158 ?_
          obtain ⟨r12, h12, hf⟩ := bn1_e hf
          refine j_invV [] [.int r12] E (c_X11_lotCount h12) ml_L_154 mv_X11_lotCount rfl ⟨le_ rfl, le_ rfl⟩ (rcX ok0 cf_X11 ent0) rfl rfl (le_ rfl) ⟨le_ rfl, le_ rfl⟩ dL_act_159 ?_
          refine j_if_ne E 170 (by decide) dL_act_162 (fun c10 => ?_) (fun c10 => ?_)
          · rw [if_neg c10] at hf
            refine j_aload_n E 4 rfl dL_act_170 ?_
            refine j_iload_n E 3 rfl dL_act_171 ?_
            refine j_aload_n E 4 rfl dL_act_172 ?_
            obtain ⟨r13, h13, hf⟩ := bn1_e hf
            refine j_invV [.int r1, .ref (z + aX 0 0 0)] [.int r13, .int r1, .ref (z + aX 0 0 0)] E (c_X11_lotCount h13) ml_L_154 mv_X11_lotCount rfl ⟨le_ rfl, le_ rfl⟩ (rcX ok0 cf_X11 ent0) rfl rfl (le_ rfl) ⟨le_ rfl, le_ rfl⟩ dL_act_173 ?_
            obtain ⟨g7, hf⟩ := gd_e hf
            refine j_irem E g7 dL_act_176 ?_
            refine j_iconst E 1 ic_1 dL_act_177 ?_
            refine j_iload E 2 rfl dL_act_178 ?_
            refine j_bipush E 90 bp_90 dL_act_180 ?_
            refine j_irem E (by decide) dL_act_182 ?_
            refine j_iadd E dL_act_183 ?_
            refine j_iconst E 1 ic_1 dL_act_184 ?_
            refine j_iload_n E 3 rfl dL_act_185 ?_
            refine j_sipush E 300 sp_300 dL_act_186 ?_
            refine j_irem E (by decide) dL_act_189 ?_
            refine j_iadd E dL_act_190 ?_
            obtain ⟨r14, X4, h14, hf⟩ := bn2_e hf
            refine j_invW (n0 := 4) [] [.int r14] E (c_L_sold hl h14) ml_L_262 st_L_sold in_L cd_L_sold rfl ⟨by decide +kernel, by decide +kernel, by decide +kernel⟩ rfl ⟨le_ rfl, le_ rfl⟩ rfl rfl (le_ rfl) ⟨le_ rfl, le_ rfl⟩ dL_act_191 ?_
            cases hf
            exact j_iret E rfl (le_ rfl) (le_ rfl) dL_act_194
          · rw [if_pos c10] at hf
            refine j_bipush E (-99) bp_m99 dL_act_165 ?_
            refine j_goto E 194 (by decide) dL_act_167 ?_
            cases hf
            exact j_iret E rfl (le_ rfl) (le_ rfl) dL_act_194
      · rw [if_neg c3] at hf
        refine j_iload E 1 rfl dL_act_124 ?_
        refine j_if_ne E 134 (by decide) dL_act_126 (fun c11 => ?_) (fun c11 => ?_)
        · rw [if_neg c11] at hf
          refine j_aload_n E 4 rfl dL_act_134 ?_
          refine j_iload_n E 3 rfl dL_act_135 ?_
          refine j_iload E 1 rfl dL_act_136 ?_
          obtain ⟨g8, hf⟩ := gd_e hf
          refine j_irem E g8 dL_act_138 ?_
          refine j_iconst E 1 ic_1 dL_act_139 ?_
          refine j_iload E 2 rfl dL_act_140 ?_
          refine j_sipush E 400 sp_400 dL_act_142 ?_
          refine j_irem E (by decide) dL_act_145 ?_
          refine j_iadd E dL_act_146 ?_
          obtain ⟨r15, X5, h15, hf⟩ := bn2_e hf
          refine j_invW (n0 := 3) [] [.int r15] E (c_L_bottled hl h15) ml_L_258 st_L_bottled in_L cd_L_bottled rfl ⟨by decide +kernel, by decide +kernel, by decide +kernel⟩ rfl ⟨le_ rfl, le_ rfl⟩ rfl rfl (le_ rfl) ⟨le_ rfl, le_ rfl⟩ dL_act_147 ?_
          cases hf
          exact j_iret E rfl (le_ rfl) (le_ rfl) dL_act_150
        · rw [if_pos c11] at hf
          refine j_bipush E (-99) bp_m99 dL_act_129 ?_
          refine j_goto E 150 (by decide) dL_act_131 ?_
          cases hf
          exact j_iret E rfl (le_ rfl) (le_ rfl) dL_act_150
    · rw [if_pos c2] at hf
      refine j_aload_n E 4 rfl dL_act_83 ?_
      obtain ⟨r16, h16, hf⟩ := bn1_e hf
      refine j_invV [] [.int r16] E (c_X11_varietyCount h16) ml_L_139 mv_X11_varietyCount rfl ⟨le_ rfl, le_ rfl⟩ (rcX ok0 cf_X11 ent0) rfl rfl (le_ rfl) ⟨le_ rfl, le_ rfl⟩ dL_act_84 ?_
      refine j_if_ne E 95 (by decide) dL_act_87 (fun c12 => ?_) (fun c12 => ?_)
      · rw [if_neg c12] at hf
        refine j_aload_n E 4 rfl dL_act_95 ?_
        refine j_iload_n E 3 rfl dL_act_96 ?_
        refine j_aload_n E 4 rfl dL_act_97 ?_
        obtain ⟨r17, h17, hf⟩ := bn1_e hf
        refine j_invV [.int r1, .ref (z + aX 0 0 0)] [.int r17, .int r1, .ref (z + aX 0 0 0)] E (c_X11_varietyCount h17) ml_L_139 mv_X11_varietyCount rfl ⟨le_ rfl, le_ rfl⟩ (rcX ok0 cf_X11 ent0) rfl rfl (le_ rfl) ⟨le_ rfl, le_ rfl⟩ dL_act_98 ?_
        obtain ⟨g9, hf⟩ := gd_e hf
        refine j_irem E g9 dL_act_101 ?_
        refine j_iload E 2 rfl dL_act_102 ?_
        refine j_aload_n E 4 rfl dL_act_104 ?_
        obtain ⟨r18, h18, hf⟩ := bn1_e hf
        refine j_invV [.int r2, .int (r1 - r1 / r17 * r17), .ref (z + aX 0 0 0)] [.int r18, .int r2, .int (r1 - r1 / r17 * r17), .ref (z + aX 0 0 0)] E (c_X11_classCount h18) ml_L_142 mv_X11_classCount rfl ⟨le_ rfl, le_ rfl⟩ (rcX ok0 cf_X11 ent0) rfl rfl (le_ rfl) ⟨le_ rfl, le_ rfl⟩ dL_act_105 ?_
        obtain ⟨g10, hf⟩ := gd_e hf
        refine j_irem E g10 dL_act_108 ?_
        refine j_iload_n E 3 rfl dL_act_109 ?_
        refine j_bipush E 40 bp_40 dL_act_110 ?_
        refine j_irem E (by decide) dL_act_112 ?_
        obtain ⟨r19, X6, h19, hf⟩ := bn2_e hf
        refine j_invV [] [.int r19] E (c_X11_setPrice h19) ml_L_255 mv_X11_setPrice rfl ⟨le_ rfl, le_ rfl⟩ (rcX ok0 cf_X11 ent0) rfl rfl (le_ rfl) ⟨le_ rfl, le_ rfl⟩ dL_act_113 ?_
        cases hf
        exact j_iret E rfl (le_ rfl) (le_ rfl) dL_act_116
      · rw [if_pos c12] at hf
        refine j_bipush E (-99) bp_m99 dL_act_90 ?_
        refine j_goto E 116 (by decide) dL_act_92 ?_
        cases hf
        exact j_iret E rfl (le_ rfl) (le_ rfl) dL_act_116
  · rw [if_neg c1] at hf
    refine j_aload_n E 4 rfl dL_act_43 ?_
    obtain ⟨r20, h20, hf⟩ := bn1_e hf
    refine j_invV [] [.int r20] E (c_X11_plotCount h20) ml_L_148 mv_X11_plotCount rfl ⟨le_ rfl, le_ rfl⟩ (rcX ok0 cf_X11 ent0) rfl rfl (le_ rfl) ⟨le_ rfl, le_ rfl⟩ dL_act_44 ?_
    refine j_if_ne E 55 (by decide) dL_act_47 (fun c13 => ?_) (fun c13 => ?_)
    · rw [if_neg c13] at hf
      refine j_aload_n E 4 rfl dL_act_55 ?_
      refine j_iload_n E 3 rfl dL_act_56 ?_
      refine j_aload_n E 4 rfl dL_act_57 ?_
      obtain ⟨r21, h21, hf⟩ := bn1_e hf
      refine j_invV [.int r1, .ref (z + aX 0 0 0)] [.int r21, .int r1, .ref (z + aX 0 0 0)] E (c_X11_plotCount h21) ml_L_148 mv_X11_plotCount rfl ⟨le_ rfl, le_ rfl⟩ (rcX ok0 cf_X11 ent0) rfl rfl (le_ rfl) ⟨le_ rfl, le_ rfl⟩ dL_act_58 ?_
      obtain ⟨g11, hf⟩ := gd_e hf
      refine j_irem E g11 dL_act_61 ?_
      refine j_aload_n E 5 rfl dL_act_62 ?_
      refine j_iload_n E 6 rfl dL_act_63 ?_
      obtain ⟨r22, h22, hf⟩ := bn1_e hf
      refine j_invS [.int (r1 - r1 / r21 * r21), .ref (z + aX 0 0 0)] [.int r22, .int (r1 - r1 / r21 * r21), .ref (z + aX 0 0 0)] E (c_L_weight h22) ml_L_245 ms_L_weight rfl ⟨le_ rfl, le_ rfl⟩ rfl rfl (le_ rfl) ⟨le_ rfl, le_ rfl⟩ dL_act_64 ?_
      refine j_aload_n E 5 rfl dL_act_67 ?_
      refine j_iload_n E 6 rfl dL_act_68 ?_
      obtain ⟨r23, h23, hf⟩ := bn1_e hf
      refine j_invS [.int r22, .int (r1 - r1 / r21 * r21), .ref (z + aX 0 0 0)] [.int r23, .int r22, .int (r1 - r1 / r21 * r21), .ref (z + aX 0 0 0)] E (c_L_sugar h23) ml_L_248 ms_L_sugar rfl ⟨le_ rfl, le_ rfl⟩ rfl rfl (le_ rfl) ⟨le_ rfl, le_ rfl⟩ dL_act_69 ?_
      obtain ⟨r24, X7, h24, hf⟩ := bn2_e hf
      refine j_invW (n0 := 4) [] [.int r24] E (c_L_delivered hl h24) ml_L_251 st_L_delivered in_L cd_L_delivered rfl ⟨by decide +kernel, by decide +kernel, by decide +kernel⟩ rfl ⟨le_ rfl, le_ rfl⟩ rfl rfl (le_ rfl) ⟨le_ rfl, le_ rfl⟩ dL_act_72 ?_
      cases hf
      exact j_iret E rfl (le_ rfl) (le_ rfl) dL_act_75
    · rw [if_pos c13] at hf
      refine j_bipush E (-99) bp_m99 dL_act_50 ?_
      refine j_goto E 75 (by decide) dL_act_52 ?_
      cases hf
      exact j_iret E rfl (le_ rfl) (le_ rfl) dL_act_75
