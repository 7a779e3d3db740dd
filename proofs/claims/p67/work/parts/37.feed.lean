def f_L_four_4 (T : List Int32) (v1 : Int32) : Nat → Int32 → Int32 → Option Int32
  | 0, _, _ => none
  | n + 1, v2, v3 => if 4 ≤ v3 then (some v2) else (if (nI T.length) ≤ (v1 + v3) then (bnd ((v2 <<< (8 &&& 31)) ||| 0) (fun x1 => f_L_four_4 T v1 n x1 (v3 + 1))) else (bnd (v1 + v3) (fun x2 => gd (¬ (x2 < 0 ∨ T.length ≤ x2.toNatClampNeg)) (bnd ((v2 <<< (8 &&& 31)) ||| (T.getD x2.toNatClampNeg 0)) (fun x3 => f_L_four_4 T v1 n x3 (v3 + 1))))))
def f_L_four (T : List Int32) (v1 : Int32) : Option Int32 :=
  f_L_four_4 T v1 2000 0 0
set_option maxRecDepth 20000 in
theorem b_L_four_4 {p : Program} {l : Launch} {e : Env} {s : State} {m : MethodId} {args : Array Value} {below : List Frame} {meth : Method} {c : Code} {D : DD} {z : Nat} {P0 : Heap → Prop} {wd vd : Nat} {fd : Nat → Int32} {T : List Int32} {v1 : Int32} (hk : OKS T fd) (hT : ∀ H, P0 H → SO D wd vd T fd H) (E : Cx p s m args meth c D z RL cL_four 4 (some .int)) {r : Int32} : ∀ (n : Nat) (v2 : Int32) (v3 : Int32) (hf : f_L_four_4 T v1 n v2 v3 = some r), J p l e (rmk 5 0 0) s m args below meth c D z P0 0 0 (MQ below (QC z (some (.int r)) P0) args s (rmk 5 0 0).cells (rmk 5 0 0).slots (Az z)) 4 4 [(0, .ref wd), (1, .int v1), (2, .int v2), (3, .int v3)] [] := by
  intro n
  induction n with
  | zero =>
    intro v2 v3 hf
    exact none_e hf
  | succ n ih =>
    intro v2 v3 hf
    rw [f_L_four_4] at hf
    refine j_iload_n E 3 rfl dL_four_4 ?_
    refine j_iconst E 4 ic_4 dL_four_5 ?_
    refine j_icmp_ge E 42 (by decide) dL_four_6 (fun c1 => ?_) (fun c1 => ?_)
    · rw [if_pos c1] at hf
      refine j_iload_n E 2 rfl dL_four_42 ?_
      cases hf
      exact j_iret E rfl (le_ rfl) (le_ rfl) dL_four_43
    · rw [if_neg c1] at hf
      refine j_iload_n E 2 rfl dL_four_9 ?_
      refine j_bipush E 8 bp_8 dL_four_10 ?_
      refine j_ishl E dL_four_12 ?_
      refine j_iload_n E 1 rfl dL_four_13 ?_
      refine j_iload_n E 3 rfl dL_four_14 ?_
      refine j_iadd E dL_four_15 ?_
      refine j_aload_n E 0 rfl dL_four_16 ?_
      refine j_invV [.int (v1 + v3), .int (v2 <<< (8 &&& 31))] [.int (nI T.length), .int (v1 + v3), .int (v2 <<< (8 &&& 31))] E (c_hlen hk hT) ml_L_8 mv_J0_length_8abf5 rfl ⟨le_ rfl, le_ rfl⟩ (rcH hT) rfl rfl (le_ rfl) ⟨le_ rfl, le_ rfl⟩ dL_four_17 ?_
      refine j_icmp_ge E 33 (by decide) dL_four_20 (fun c2 => ?_) (fun c2 => ?_)
      · rw [if_pos c2] at hf
        refine j_iconst E 0 ic_0 dL_four_33 ?_
        refine j_ior E dL_four_34 ?_
        obtain ⟨x1, hx1, hf⟩ := bnd_e hf
        refine j_name hx1 ?_
        refine j_istore_n (ls' := [(2, .int x1), (0, .ref wd), (1, .int v1), (3, .int v3)]) E (lt_ rfl) rfl dL_four_35 ?_
        refine j_iinc (ls' := [(3, .int (v3 + 1)), (2, .int x1), (0, .ref wd), (1, .int v1)]) E 3 rfl (lt_ rfl) (v3 + 1) (congrArg (fun q => v3 + q) ic_1) rfl dL_four_36 ?_
        refine j_goto E 4 (by decide) dL_four_39 ?_
        refine j_sub [2, 3, 1, 0] rfl ?_
        exact ih _ _ hf
      · rw [if_neg c2] at hf
        refine j_aload_n E 0 rfl dL_four_23 ?_
        refine j_iload_n E 1 rfl dL_four_24 ?_
        refine j_iload_n E 3 rfl dL_four_25 ?_
        refine j_iadd E dL_four_26 ?_
        obtain ⟨x2, hx2, hf⟩ := bnd_e hf
        refine j_name hx2 ?_
        obtain ⟨g1, hf⟩ := gd_e hf
        refine j_invV [.int (v2 <<< (8 &&& 31))] [.int (T.getD x2.toNatClampNeg 0), .int (v2 <<< (8 &&& 31))] E (c_hchar hk hT g1) ml_L_14 mv_J0_charAt_5068e rfl ⟨le_ rfl, le_ rfl⟩ (rcH hT) rfl rfl (le_ rfl) ⟨le_ rfl, le_ rfl⟩ dL_four_27 ?_
        refine j_goto E 34 (by decide) dL_four_30 ?_
        refine j_ior E dL_four_34 ?_
        obtain ⟨x3, hx3, hf⟩ := bnd_e hf
        refine j_name hx3 ?_
        refine j_istore_n (ls' := [(2, .int x3), (0, .ref wd), (1, .int v1), (3, .int v3)]) E (lt_ rfl) rfl dL_four_35 ?_
        refine j_iinc (ls' := [(3, .int (v3 + 1)), (2, .int x3), (0, .ref wd), (1, .int v1)]) E 3 rfl (lt_ rfl) (v3 + 1) (congrArg (fun q => v3 + q) ic_1) rfl dL_four_36 ?_
        refine j_goto E 4 (by decide) dL_four_39 ?_
        refine j_sub [2, 3, 1, 0] rfl ?_
        exact ih _ _ hf
set_option maxRecDepth 20000 in
theorem c_L_four {l : Launch} {D : DD} {z : Nat} {P0 : Heap → Prop} {wd vd : Nat} {fd : Nat → Int32} {T : List Int32} (hk : OKS T fd) (hT : ∀ H, P0 H → SO D wd vd T fd H) {v1 : Int32} {r : Int32} (hf : f_L_four T v1 = some r) : CC l yL_four cL_four 4 (some .int) (rmk 5 0 0) D z [.ref wd, .int v1] P0 (some (.int r)) P0 := by
  unfold f_L_four at hf
  refine cc_of pn_L (le_ rfl) (ls := [(0, .ref wd), (1, .int v1)]) rfl ?_
  intro p e s m args below meth c E
  refine j_iconst E 0 ic_0 dL_four_0 ?_
  refine j_istore_n (ls' := [(2, .int 0), (0, .ref wd), (1, .int v1)]) E (lt_ rfl) rfl dL_four_1 ?_
  refine j_iconst E 0 ic_0 dL_four_2 ?_
  refine j_istore_n (ls' := [(3, .int 0), (2, .int 0), (0, .ref wd), (1, .int v1)]) E (lt_ rfl) rfl dL_four_3 ?_
  refine j_sub [2, 3, 1, 0] rfl ?_
  exact b_L_four_4 hk hT E 2000 _ _ hf
def f_L_feed_4 (T : List Int32) : Nat → XT → Int32 → Int32 → Option XT
  | 0, _, _, _ => none
  | n + 1, X, v2, v3 => if v3 < (nI T.length) then (bn1 (f_L_four T v3) (fun r1 => bn1 (f_L_four T (v3 + 4)) (fun r2 => bn1 (f_L_four T (v3 + 8)) (fun r3 => bn1 (f_L_four T (v3 + 12)) (fun r4 => bn1 (f_L_four T (v3 + 16)) (fun r5 => bn2 (f_X11_append X r1 r2 r3 r4 r5) (fun r6 X1 => f_L_feed_4 T n X1 r6 (v3 + 20)))))))) else (if v3 = 0 then (bn1 (f_L_four T v3) (fun r8 => bn1 (f_L_four T (v3 + 4)) (fun r9 => bn1 (f_L_four T (v3 + 8)) (fun r10 => bn1 (f_L_four T (v3 + 12)) (fun r11 => bn1 (f_L_four T (v3 + 16)) (fun r12 => bn2 (f_X11_append X r8 r9 r10 r11 r12) (fun r13 X3 => f_L_feed_4 T n X3 r13 (v3 + 20)))))))) else (bn2 (f_X11_truncate X (if (nI T.length) < v2 then (nI T.length) else v2)) (fun r7 X2 => some X2)))
def f_L_feed (X : XT) (T : List Int32) : Option XT :=
  f_L_feed_4 T 2000 X 0 0
set_option maxRecDepth 20000 in
theorem b_L_feed_4 {p : Program} {l : Launch} {e : Env} {s : State} {m : MethodId} {args : Array Value} {below : List Frame} {meth : Method} {c : Code} {D : DD} {z : Nat} {Y : YT} {wd vd : Nat} {fd : Nat → Int32} {T : List Int32} (hk : OKS T fd) (hT : ∀ H, Y H → SO D wd vd T fd H) (E : Cx p s m args meth c D z RL cL_feed 4 none) {X' : XT} : ∀ (n : Nat) (X : XT) (v2 : Int32) (v3 : Int32) (hf : f_L_feed_4 T n X v2 v3 = some X'), J p l e (rmk 6 0 0) s m args below meth c D z (GG D z (X, Y)) 0 0 (MQ below (QC z none (GG D z (X', Y))) args s (rmk 6 0 0).cells (rmk 6 0 0).slots (Az z)) 4 4 [(0, .ref (z + aX 0 0 0)), (1, .ref wd), (2, .int v2), (3, .int v3)] [] := by
  intro n
  induction n with
  | zero =>
    intro X v2 v3 hf
    exact none_e hf
  | succ n ih =>
    intro X v2 v3 hf
    rw [f_L_feed_4] at hf
    refine j_iload_n E 3 rfl dL_feed_4 ?_
    refine j_aload_n E 1 rfl dL_feed_5 ?_
    refine j_invV [.int v3] [.int (nI T.length), .int v3] E (c_hlen hk (fun H h => hT H h.2.1.now)) ml_L_8 mv_J0_length_8abf5 rfl ⟨le_ rfl, le_ rfl⟩ (rcH (fun H h => hT H h.2.1.now)) rfl rfl (le_ rfl) ⟨le_ rfl, le_ rfl⟩ dL_feed_6 ?_
    refine j_icmp_lt E 16 (by decide) dL_feed_9 (fun c1 => ?_) (fun c1 => ?_)
    · rw [if_pos c1] at hf
      refine j_aload_n E 0 rfl dL_feed_16 ?_
      refine j_aload_n E 1 rfl dL_feed_17 ?_
      refine j_iload_n E 3 rfl dL_feed_18 ?_
      obtain ⟨r1, h1, hf⟩ := bn1_e hf
      refine j_invS [.ref (z + aX 0 0 0)] [.int r1, .ref (z + aX 0 0 0)] E (c_L_four hk (fun H h => hT H h.2.1.now) h1) ml_L_18 ms_L_four rfl ⟨le_ rfl, le_ rfl⟩ rfl rfl (le_ rfl) ⟨le_ rfl, le_ rfl⟩ dL_feed_19 ?_
      refine j_aload_n E 1 rfl dL_feed_22 ?_
      refine j_iload_n E 3 rfl dL_feed_23 ?_
      refine j_iconst E 4 ic_4 dL_feed_24 ?_
      refine j_iadd E dL_feed_25 ?_
      obtain ⟨r2, h2, hf⟩ := bn1_e hf
      refine j_invS [.int r1, .ref (z + aX 0 0 0)] [.int r2, .int r1, .ref (z + aX 0 0 0)] E (c_L_four hk (fun H h => hT H h.2.1.now) h2) ml_L_18 ms_L_four rfl ⟨le_ rfl, le_ rfl⟩ rfl rfl (le_ rfl) ⟨le_ rfl, le_ rfl⟩ dL_feed_26 ?_
      refine j_aload_n E 1 rfl dL_feed_29 ?_
      refine j_iload_n E 3 rfl dL_feed_30 ?_
      refine j_bipush E 8 bp_8 dL_feed_31 ?_
      refine j_iadd E dL_feed_33 ?_
      obtain ⟨r3, h3, hf⟩ := bn1_e hf
      refine j_invS [.int r2, .int r1, .ref (z + aX 0 0 0)] [.int r3, .int r2, .int r1, .ref (z + aX 0 0 0)] E (c_L_four hk (fun H h => hT H h.2.1.now) h3) ml_L_18 ms_L_four rfl ⟨le_ rfl, le_ rfl⟩ rfl rfl (le_ rfl) ⟨le_ rfl, le_ rfl⟩ dL_feed_34 ?_
      refine j_aload_n E 1 rfl dL_feed_37 ?_
      refine j_iload_n E 3 rfl dL_feed_38 ?_
      refine j_bipush E 12 bp_12 dL_feed_39 ?_
      refine j_iadd E dL_feed_41 ?_
      obtain ⟨r4, h4, hf⟩ := bn1_e hf
      refine j_invS [.int r3, .int r2, .int r1, .ref (z + aX 0 0 0)] [.int r4, .int r3, .int r2, .int r1, .ref (z + aX 0 0 0)] E (c_L_four hk (fun H h => hT H h.2.1.now) h4) ml_L_18 ms_L_four rfl ⟨le_ rfl, le_ rfl⟩ rfl rfl (le_ rfl) ⟨le_ rfl, le_ rfl⟩ dL_feed_42 ?_
      refine j_aload_n E 1 rfl dL_feed_45 ?_
      refine j_iload_n E 3 rfl dL_feed_46 ?_
      refine j_bipush E 16 bp_16 dL_feed_47 ?_
      refine j_iadd E dL_feed_49 ?_
      obtain ⟨r5, h5, hf⟩ := bn1_e hf
      refine j_invS [.int r4, .int r3, .int r2, .int r1, .ref (z + aX 0 0 0)] [.int r5, .int r4, .int r3, .int r2, .int r1, .ref (z + aX 0 0 0)] E (c_L_four hk (fun H h => hT H h.2.1.now) h5) ml_L_18 ms_L_four rfl ⟨le_ rfl, le_ rfl⟩ rfl rfl (le_ rfl) ⟨le_ rfl, le_ rfl⟩ dL_feed_50 ?_
      obtain ⟨r6, X1, h6, hf⟩ := bn2_e hf
      refine j_invV [] [.int r6] E (c_X11_append h6) ml_L_24 mv_X11_append rfl ⟨le_ rfl, le_ rfl⟩ (rcX ok0 cf_X11 ent0) rfl rfl (le_ rfl) ⟨le_ rfl, le_ rfl⟩ dL_feed_53 ?_
      refine j_istore_n (ls' := [(2, .int r6), (0, .ref (z + aX 0 0 0)), (1, .ref wd), (3, .int v3)]) E (lt_ rfl) rfl dL_feed_56 ?_
      refine j_iinc (ls' := [(3, .int (v3 + 20)), (2, .int r6), (0, .ref (z + aX 0 0 0)), (1, .ref wd)]) E 3 rfl (lt_ rfl) (v3 + 20) (congrArg (fun q => v3 + q) ic_20) rfl dL_feed_57 ?_
      refine j_goto E 4 (by decide) dL_feed_60 ?_
      refine j_sub [2, 3, 1, 0] rfl ?_
      exact ih _ _ _ hf
    · rw [if_neg c1] at hf
      refine j_iload_n E 3 rfl dL_feed_12 ?_
      refine j_if_ne E 63 (by decide) dL_feed_13 (fun c2 => ?_) (fun c2 => ?_)
      · rw [if_neg c2] at hf
        refine j_aload_n E 0 rfl dL_feed_63 ?_
        refine j_iload_n E 2 rfl dL_feed_64 ?_
        refine j_aload_n E 1 rfl dL_feed_65 ?_
        refine j_invV [.int v2, .ref (z + aX 0 0 0)] [.int (nI T.length), .int v2, .ref (z + aX 0 0 0)] E (c_hlen hk (fun H h => hT H h.2.1.now)) ml_L_8 mv_J0_length_8abf5 rfl ⟨le_ rfl, le_ rfl⟩ (rcH (fun H h => hT H h.2.1.now)) rfl rfl (le_ rfl) ⟨le_ rfl, le_ rfl⟩ dL_feed_66 ?_
        refine j_min [.ref (z + aX 0 0 0)] E ml_L_30 st_Lib_Math_min_name in_J9 cd_Lib_Math_min_name (le_ rfl) (le_ rfl) (le_ rfl) (le_ rfl) dL_feed_69 ?_
        obtain ⟨r7, X2, h7, hf⟩ := bn2_e hf
        refine j_invV [] [.int r7] E (c_X11_truncate h7) ml_L_36 mv_X11_truncate rfl ⟨le_ rfl, le_ rfl⟩ (rcX ok0 cf_X11 ent0) rfl rfl (le_ rfl) ⟨le_ rfl, le_ rfl⟩ dL_feed_72 ?_
        refine j_pop E rfl dL_feed_75 ?_
        cases hf
        exact j_vret E (le_ rfl) (le_ rfl) dL_feed_76
      · rw [if_pos c2] at hf
        refine j_aload_n E 0 rfl dL_feed_16 ?_
        refine j_aload_n E 1 rfl dL_feed_17 ?_
        refine j_iload_n E 3 rfl dL_feed_18 ?_
        obtain ⟨r8, h8, hf⟩ := bn1_e hf
        refine j_invS [.ref (z + aX 0 0 0)] [.int r8, .ref (z + aX 0 0 0)] E (c_L_four hk (fun H h => hT H h.2.1.now) h8) ml_L_18 ms_L_four rfl ⟨le_ rfl, le_ rfl⟩ rfl rfl (le_ rfl) ⟨le_ rfl, le_ rfl⟩ dL_feed_19 ?_
        refine j_aload_n E 1 rfl dL_feed_22 ?_
        refine j_iload_n E 3 rfl dL_feed_23 ?_
        refine j_iconst E 4 ic_4 dL_feed_24 ?_
        refine j_iadd E dL_feed_25 ?_
        obtain ⟨r9, h9, hf⟩ := bn1_e hf
        refine j_invS [.int r8, .ref (z + aX 0 0 0)] [.int r9, .int r8, .ref (z + aX 0 0 0)] E (c_L_four hk (fun H h => hT H h.2.1.now) h9) ml_L_18 ms_L_four rfl ⟨le_ rfl, le_ rfl⟩ rfl rfl (le_ rfl) ⟨le_ rfl, le_ rfl⟩ dL_feed_26 ?_
        refine j_aload_n E 1 rfl dL_feed_29 ?_
        refine j_iload_n E 3 rfl dL_feed_30 ?_
        refine j_bipush E 8 bp_8 dL_feed_31 ?_
        refine j_iadd E dL_feed_33 ?_
        obtain ⟨r10, h10, hf⟩ := bn1_e hf
        refine j_invS [.int r9, .int r8, .ref (z + aX 0 0 0)] [.int r10, .int r9, .int r8, .ref (z + aX 0 0 0)] E (c_L_four hk (fun H h => hT H h.2.1.now) h10) ml_L_18 ms_L_four rfl ⟨le_ rfl, le_ rfl⟩ rfl rfl (le_ rfl) ⟨le_ rfl, le_ rfl⟩ dL_feed_34 ?_
        refine j_aload_n E 1 rfl dL_feed_37 ?_
        refine j_iload_n E 3 rfl dL_feed_38 ?_
        refine j_bipush E 12 bp_12 dL_feed_39 ?_
        refine j_iadd E dL_feed_41 ?_
        obtain ⟨r11, h11, hf⟩ := bn1_e hf
        refine j_invS [.int r10, .int r9, .int r8, .ref (z + aX 0 0 0)] [.int r11, .int r10, .int r9, .int r8, .ref (z + aX 0 0 0)] E (c_L_four hk (fun H h => hT H h.2.1.now) h11) ml_L_18 ms_L_four rfl ⟨le_ rfl, le_ rfl⟩ rfl rfl (le_ rfl) ⟨le_ rfl, le_ rfl⟩ dL_feed_42 ?_
        refine j_aload_n E 1 rfl dL_feed_45 ?_
        refine j_iload_n E 3 rfl dL_feed_46 ?_
        refine j_bipush E 16 bp_16 dL_feed_47 ?_
        refine j_iadd E dL_feed_49 ?_
        obtain ⟨r12, h12, hf⟩ := bn1_e hf
        refine j_invS [.int r11, .int r10, .int r9, .int r8, .ref (z + aX 0 0 0)] [.int r12, .int r11, .int r10, .int r9, .int r8, .ref (z + aX 0 0 0)] E (c_L_four hk (fun H h => hT H h.2.1.now) h12) ml_L_18 ms_L_four rfl ⟨le_ rfl, le_ rfl⟩ rfl rfl (le_ rfl) ⟨le_ rfl, le_ rfl⟩ dL_feed_50 ?_
        obtain ⟨r13, X3, h13, hf⟩ := bn2_e hf
        refine j_invV [] [.int r13] E (c_X11_append h13) ml_L_24 mv_X11_append rfl ⟨le_ rfl, le_ rfl⟩ (rcX ok0 cf_X11 ent0) rfl rfl (le_ rfl) ⟨le_ rfl, le_ rfl⟩ dL_feed_53 ?_
        refine j_istore_n (ls' := [(2, .int r13), (0, .ref (z + aX 0 0 0)), (1, .ref wd), (3, .int v3)]) E (lt_ rfl) rfl dL_feed_56 ?_
        refine j_iinc (ls' := [(3, .int (v3 + 20)), (2, .int r13), (0, .ref (z + aX 0 0 0)), (1, .ref wd)]) E 3 rfl (lt_ rfl) (v3 + 20) (congrArg (fun q => v3 + q) ic_20) rfl dL_feed_57 ?_
        refine j_goto E 4 (by decide) dL_feed_60 ?_
        refine j_sub [2, 3, 1, 0] rfl ?_
        exact ih _ _ _ hf
set_option maxRecDepth 20000 in
theorem c_L_feed {l : Launch} {D : DD} {z : Nat} {Y : YT} {wd vd : Nat} {fd : Nat → Int32} {T : List Int32} {X : XT} (hk : OKS T fd) (hT : ∀ H, Y H → SO D wd vd T fd H) {X' : XT} (hf : f_L_feed X T = some X') : CC l yL_feed cL_feed 4 none (rmk 6 0 0) D z [.ref (z + aX 0 0 0), .ref wd] (GG D z (X, Y)) none (GG D z (X', Y)) := by
  unfold f_L_feed at hf
  refine cc_of pn_L (le_ rfl) (ls := [(0, .ref (z + aX 0 0 0)), (1, .ref wd)]) rfl ?_
  intro p e s m args below meth c E
  refine j_iconst E 0 ic_0 dL_feed_0 ?_
  refine j_istore_n (ls' := [(2, .int 0), (0, .ref (z + aX 0 0 0)), (1, .ref wd)]) E (lt_ rfl) rfl dL_feed_1 ?_
  refine j_iconst E 0 ic_0 dL_feed_2 ?_
  refine j_istore_n (ls' := [(3, .int 0), (2, .int 0), (0, .ref (z + aX 0 0 0)), (1, .ref wd)]) E (lt_ rfl) rfl dL_feed_3 ?_
  refine j_sub [2, 3, 1, 0] rfl ?_
  exact b_L_feed_4 hk hT E 2000 _ _ _ hf
