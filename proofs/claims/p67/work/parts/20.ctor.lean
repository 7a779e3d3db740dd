/-! the class's constructors: what cells they make -/
def xI : XT := fun k _ _ f => if k = 26 ∧ f = 2 then -1 else if k = 1 ∧ f = 4 then -1 else 0
abbrev kw (D : DD) (z : Nat) (X : XT) (L : List (Nat × Nat × Nat)) : va_W := L.map (fun q => (z + aX q.1 q.2.1 q.2.2, entX D z q.1 q.2.1 (X q.1 q.2.1 q.2.2)))
def fam (F : Nat → Nat × va_E) (i : Nat) : va_W := (List.range i).map F
theorem fam_succ (F : Nat → Nat × va_E) (i : Nat) : fam F i ++ [F i] = fam F (i + 1) := by simp [fam, List.range_succ]
def afn (f : Nat → Nat) (i : Nat) : Nat → Option Nat := fun q => if q < i then some (f q) else none
theorem afn_up (f : Nat → Nat) (i : Nat) : va_up (afn f i) i (some (f i)) = afn f (i + 1) := by
  funext q
  unfold va_up afn
  by_cases h : q = i
  · subst h
    simp
  · rw [if_neg h]
    by_cases h2 : q < i
    · rw [if_pos h2, if_pos (by omega)]
    · rw [if_neg h2, if_neg (by omega)]
theorem afn_0 (f : Nat → Nat) : afn f 0 = fun _ => none := by
  funext q
  simp [afn]
theorem afn_end {D : DD} {t N a : Nat} {f : Nat → Nat} {H : Heap} (h : va_at (gD D) cls (a, .inl (D.2.2.1 t, N, .inr (.inr (.inr (.inr (afn f N)))))) H) : va_at (gD D) cls (a, aref D t N f) H := by
  have h : H[a]? = some (vp_cell (D.2.2.1 t) (N, .inr (.inr (.inr (.inr (afn f N)))))) := h
  show H[a]? = some (vp_cell (D.2.2.1 t) (N, .inr (.inr (.inr (.inr (fun q => some (f q)))))))
  rw [h, vp_cell_q, vp_cell_q]
  unfold arrV
  congr 3
  funext j
  have hj := j.isLt
  simp [afn, hj]
theorem PL.chg {D : DD} {A t : Nat} {ws : va_W} {H0 H : Heap} {a : Nat} {e0 e : va_E} (h : PL D A ws H0 t H) (i : Nat) (hi : ws[i]? = some (a, e0)) (he : va_at (gD D) cls (a, e0) H → va_at (gD D) cls (a, e) H) : PL D A (ws.set i (a, e)) H0 t H := h.put i hi rfl (fun _ _ => rfl) (he (h.at i hi))
theorem PL.atm {D : DD} {A t : Nat} {ws : va_W} {H0 H : Heap} {q : Nat × va_E} (h : PL D A ws H0 t H) (hm : q ∈ ws) : va_at (gD D) cls q H := by
  obtain ⟨i, hi⟩ := List.getElem?_of_mem hm
  exact h.2.2.1 i q hi
theorem PL.to {D : DD} {A t : Nat} {ws ws' : va_W} {H0 H : Heap} (h : PL D A ws H0 t H) (e : ws = ws') : PL D A ws' H0 t H := e ▸ h
theorem mi_X0 : MI yX0_init cX0_init 1 0 := ⟨im_X0_init, in_X0, cd_X0_init, rfl, by decide +kernel, by decide +kernel, by decide +kernel⟩
theorem mi_X1 : MI yX1_init cX1_init 1 0 := ⟨im_X1_init, in_X1, cd_X1_init, rfl, by decide +kernel, by decide +kernel, by decide +kernel⟩
theorem mi_X2 : MI yX2_init cX2_init 2 0 := ⟨im_X2_init, in_X2, cd_X2_init, rfl, by decide +kernel, by decide +kernel, by decide +kernel⟩
theorem mi_X3 : MI yX3_init cX3_init 2 0 := ⟨im_X3_init, in_X3, cd_X3_init, rfl, by decide +kernel, by decide +kernel, by decide +kernel⟩
theorem mi_X4 : MI yX4_init cX4_init 2 0 := ⟨im_X4_init, in_X4, cd_X4_init, rfl, by decide +kernel, by decide +kernel, by decide +kernel⟩
theorem mi_X5 : MI yX5_init cX5_init 1 0 := ⟨im_X5_init, in_X5, cd_X5_init, rfl, by decide +kernel, by decide +kernel, by decide +kernel⟩
theorem mi_X6 : MI yX6_init cX6_init 1 0 := ⟨im_X6_init, in_X6, cd_X6_init, rfl, by decide +kernel, by decide +kernel, by decide +kernel⟩
theorem mi_X7 : MI yX7_init cX7_init 1 0 := ⟨im_X7_init, in_X7, cd_X7_init, rfl, by decide +kernel, by decide +kernel, by decide +kernel⟩
theorem mi_X8 : MI yX8_init cX8_init 1 0 := ⟨im_X8_init, in_X8, cd_X8_init, rfl, by decide +kernel, by decide +kernel, by decide +kernel⟩
theorem mi_X9 : MI yX9_init cX9_init 1 0 := ⟨im_X9_init, in_X9, cd_X9_init, rfl, by decide +kernel, by decide +kernel, by decide +kernel⟩
theorem mi_X10 : MI yX10_init cX10_init 1 0 := ⟨im_X10_init, in_X10, cd_X10_init, rfl, by decide +kernel, by decide +kernel, by decide +kernel⟩
theorem mi_X11 : MI yX11_init cX11_init 2 0 := ⟨im_X11_init, in_X11, cd_X11_init, rfl, by decide +kernel, by decide +kernel, by decide +kernel⟩
theorem df_X0 : ∀ j, j < 7 → defaultValue (tyX0 j) = vp_V [.null, .null, .null, .null, .int 0, .int 0, .int 0] j := by
  intro j hj
  match j, hj with
  | 0, _ => rfl
  | 1, _ => rfl
  | 2, _ => rfl
  | 3, _ => rfl
  | 4, _ => rfl
  | 5, _ => rfl
  | 6, _ => rfl
  | q + 7, h => omega
theorem df_X1 : ∀ j, j < 5 → defaultValue (tyX1 j) = vp_V [.null, .null, .null, .int 0, .int 0] j := by
  intro j hj
  match j, hj with
  | 0, _ => rfl
  | 1, _ => rfl
  | 2, _ => rfl
  | 3, _ => rfl
  | 4, _ => rfl
  | q + 5, h => omega
theorem df_X2 : ∀ j, j < 4 → defaultValue (tyX2 j) = vp_V [.null, .null, .int 0, .int 0] j := by
  intro j hj
  match j, hj with
  | 0, _ => rfl
  | 1, _ => rfl
  | 2, _ => rfl
  | 3, _ => rfl
  | q + 4, h => omega
theorem df_X3 : ∀ j, j < 2 → defaultValue (tyX3 j) = vp_V [.null, .int 0] j := by
  intro j hj
  match j, hj with
  | 0, _ => rfl
  | 1, _ => rfl
  | q + 2, h => omega
theorem df_X4 : ∀ j, j < 3 → defaultValue (tyX4 j) = vp_V [.null, .int 0, .int 0] j := by
  intro j hj
  match j, hj with
  | 0, _ => rfl
  | 1, _ => rfl
  | 2, _ => rfl
  | q + 3, h => omega
theorem df_X5 : ∀ j, j < 6 → defaultValue (tyX5 j) = vp_V [.null, .null, .null, .null, .int 0, .int 0] j := by
  intro j hj
  match j, hj with
  | 0, _ => rfl
  | 1, _ => rfl
  | 2, _ => rfl
  | 3, _ => rfl
  | 4, _ => rfl
  | 5, _ => rfl
  | q + 6, h => omega
theorem df_X6 : ∀ j, j < 9 → defaultValue (tyX6 j) = vp_V [.int 0, .int 0, .int 0, .int 0, .int 0, .int 0, .int 0, .int 0, .int 0] j := by
  intro j hj
  match j, hj with
  | 0, _ => rfl
  | 1, _ => rfl
  | 2, _ => rfl
  | 3, _ => rfl
  | 4, _ => rfl
  | 5, _ => rfl
  | 6, _ => rfl
  | 7, _ => rfl
  | 8, _ => rfl
  | q + 9, h => omega
theorem df_X7 : ∀ j, j < 4 → defaultValue (tyX7 j) = vp_V [.int 0, .int 0, .int 0, .int 0] j := by
  intro j hj
  match j, hj with
  | 0, _ => rfl
  | 1, _ => rfl
  | 2, _ => rfl
  | 3, _ => rfl
  | q + 4, h => omega
theorem df_X8 : ∀ j, j < 5 → defaultValue (tyX8 j) = vp_V [.null, .null, .int 0, .int 0, .int 0] j := by
  intro j hj
  match j, hj with
  | 0, _ => rfl
  | 1, _ => rfl
  | 2, _ => rfl
  | 3, _ => rfl
  | 4, _ => rfl
  | q + 5, h => omega
theorem df_X9 : ∀ j, j < 4 → defaultValue (tyX9 j) = vp_V [.int 0, .int 0, .int 0, .int 0] j := by
  intro j hj
  match j, hj with
  | 0, _ => rfl
  | 1, _ => rfl
  | 2, _ => rfl
  | 3, _ => rfl
  | q + 4, h => omega
theorem df_X10 : ∀ j, j < 7 → defaultValue (tyX10 j) = vp_V [.null, .int 0, .int 0, .int 0, .int 0, .int 0, .int 0] j := by
  intro j hj
  match j, hj with
  | 0, _ => rfl
  | 1, _ => rfl
  | 2, _ => rfl
  | 3, _ => rfl
  | 4, _ => rfl
  | 5, _ => rfl
  | 6, _ => rfl
  | q + 7, h => omega
theorem df_X11 : ∀ j, j < 6 → defaultValue (tyX11 j) = vp_V [.null, .null, .null, .null, .null, .null] j := by
  intro j hj
  match j, hj with
  | 0, _ => rfl
  | 1, _ => rfl
  | 2, _ => rfl
  | 3, _ => rfl
  | 4, _ => rfl
  | 5, _ => rfl
  | q + 6, h => omega
set_option maxRecDepth 20000 in
theorem ci_X1 {l : Launch} {D : DD} {z : Nat} {j : Nat} {H0 : Heap} (hsz : H0.size = (z + (bsX j + 2))) (h0 : va_at (gD D) cls ((z + aX 11 j 0), .inr (5, [.null, .null, .null, .int 0, .int 0])) H0) : CC l yX1_init cX1_init 1 none (rmk 2 3 24) D z [.ref (z + aX 11 j 0)] (fun H => H = H0) none (PL D (z + (bsX j + 5)) (kw D z xI [(11, j, 0), (12, j, 0), (13, j, 0), (14, j, 0)]) H0 (z + aX 11 j 0)) := by
  refine ci_of pn_X1 rfl (le_ rfl) (ls := [(0, .ref (z + aX 11 j 0))]) rfl ?_
  intro p e s m args below meth c E hi2
  refine j_wk (P' := (PL D (z + (bsX j + 2)) [((z + aX 11 j 0), .inr (5, [.null, .null, .null, .int 0, .int 0]))] H0 (z + aX 11 j 0))) (fun H h => by subst h; exact PL.start hsz h0) ?_
  refine j_aload_n E 0 rfl dX1_init_0 ?_
  refine jp_objInit E ml_X1_3 im_Lib_objectInit cd_Lib_objectInit (le_ rfl) (le_ rfl) dX1_init_1 ?_
  refine j_aload_n E 0 rfl dX1_init_4 ?_
  refine j_iconst E 4 ic_4 dX1_init_5 ?_
  refine jp_newa (A := (z + (bsX j + 2))) (t := 0) (a0 := (4, .inl (fun _ => 0))) (P' := (PL D (z + (bsX j + 3)) [((z + aX 11 j 0), .inr (5, [.null, .null, .null, .int 0, .int 0])), ((z + aX 12 j 0), .inl (D.2.2.1 0, 4, .inl (fun _ => 0)))] H0 (z + aX 11 j 0))) E ar_int rfl rfl (fun _ h => h) (fun _ => rfl) (fun H h => h.1) (by decide) tn_4 (le_ rfl) (le_ rfl) (le_ rfl) (fun H H1 h e1 e2 e3 => h.new e1 e2 e3) dX1_init_6 ?_
  refine jp_putF (f := 0) (P' := (PL D (z + (bsX j + 3)) [((z + aX 11 j 0), .inr (5, [.ref (z + aX 12 j 0), .null, .null, .int 0, .int 0])), ((z + aX 12 j 0), .inl (D.2.2.1 0, 4, .inl (fun _ => 0)))] H0 (z + aX 11 j 0))) E hi2 z_ge (fun H h => h.at 0 rfl) cf_X1 fl_X1_9 (lt_ rfl) ⟨rfl, rfl, rfl⟩ ⟨rfl, rfl⟩ (lt_ rfl) (fun H H1 h e1 e2 e3 => h.put 0 rfl e1 e2 e3) dX1_init_8 ?_
  refine j_aload_n E 0 rfl dX1_init_11 ?_
  refine j_iconst E 4 ic_4 dX1_init_12 ?_
  refine jp_newa (A := (z + (bsX j + 3))) (t := 0) (a0 := (4, .inl (fun _ => 0))) (P' := (PL D (z + (bsX j + 4)) [((z + aX 11 j 0), .inr (5, [.ref (z + aX 12 j 0), .null, .null, .int 0, .int 0])), ((z + aX 12 j 0), .inl (D.2.2.1 0, 4, .inl (fun _ => 0))), ((z + aX 13 j 0), .inl (D.2.2.1 0, 4, .inl (fun _ => 0)))] H0 (z + aX 11 j 0))) E ar_int rfl rfl (fun _ h => h) (fun _ => rfl) (fun H h => h.1) (by decide) tn_4 (le_ rfl) (le_ rfl) (le_ rfl) (fun H H1 h e1 e2 e3 => h.new e1 e2 e3) dX1_init_13 ?_
  refine jp_putF (f := 1) (P' := (PL D (z + (bsX j + 4)) [((z + aX 11 j 0), .inr (5, [.ref (z + aX 12 j 0), .ref (z + aX 13 j 0), .null, .int 0, .int 0])), ((z + aX 12 j 0), .inl (D.2.2.1 0, 4, .inl (fun _ => 0))), ((z + aX 13 j 0), .inl (D.2.2.1 0, 4, .inl (fun _ => 0)))] H0 (z + aX 11 j 0))) E hi2 z_ge (fun H h => h.at 0 rfl) cf_X1 fl_X1_15 (lt_ rfl) ⟨rfl, rfl, rfl⟩ ⟨rfl, rfl⟩ (lt_ rfl) (fun H H1 h e1 e2 e3 => h.put 0 rfl e1 e2 e3) dX1_init_15 ?_
  refine j_aload_n E 0 rfl dX1_init_18 ?_
  refine j_bipush E 16 bp_16 dX1_init_19 ?_
  refine jp_newa (A := (z + (bsX j + 4))) (t := 0) (a0 := (16, .inl (fun _ => 0))) (P' := (PL D (z + (bsX j + 5)) [((z + aX 11 j 0), .inr (5, [.ref (z + aX 12 j 0), .ref (z + aX 13 j 0), .null, .int 0, .int 0])), ((z + aX 12 j 0), .inl (D.2.2.1 0, 4, .inl (fun _ => 0))), ((z + aX 13 j 0), .inl (D.2.2.1 0, 4, .inl (fun _ => 0))), ((z + aX 14 j 0), .inl (D.2.2.1 0, 16, .inl (fun _ => 0)))] H0 (z + aX 11 j 0))) E ar_int rfl rfl (fun _ h => h) (fun _ => rfl) (fun H h => h.1) (by decide) tn_16 (le_ rfl) (le_ rfl) (le_ rfl) (fun H H1 h e1 e2 e3 => h.new e1 e2 e3) dX1_init_21 ?_
  refine jp_putF (f := 2) (P' := (PL D (z + (bsX j + 5)) [((z + aX 11 j 0), .inr (5, [.ref (z + aX 12 j 0), .ref (z + aX 13 j 0), .ref (z + aX 14 j 0), .int 0, .int 0])), ((z + aX 12 j 0), .inl (D.2.2.1 0, 4, .inl (fun _ => 0))), ((z + aX 13 j 0), .inl (D.2.2.1 0, 4, .inl (fun _ => 0))), ((z + aX 14 j 0), .inl (D.2.2.1 0, 16, .inl (fun _ => 0)))] H0 (z + aX 11 j 0))) E hi2 z_ge (fun H h => h.at 0 rfl) cf_X1 fl_X1_18 (lt_ rfl) ⟨rfl, rfl, rfl⟩ ⟨rfl, rfl⟩ (lt_ rfl) (fun H H1 h e1 e2 e3 => h.put 0 rfl e1 e2 e3) dX1_init_23 ?_
  refine j_wk (P' := (PL D (z + (bsX j + 5)) (kw D z xI [(11, j, 0), (12, j, 0), (13, j, 0), (14, j, 0)]) H0 (z + aX 11 j 0))) (fun H h => h) ?_
  exact j_vret E (le_ rfl) (le_ rfl) dX1_init_26
set_option maxRecDepth 20000 in
theorem ci_X5 {l : Launch} {D : DD} {z : Nat} {j : Nat} {H0 : Heap} (hsz : H0.size = (z + (bsX j + 6))) (h0 : va_at (gD D) cls ((z + aX 15 j 0), .inr (6, [.null, .null, .null, .null, .int 0, .int 0])) H0) : CC l yX5_init cX5_init 1 none (rmk 2 4 30) D z [.ref (z + aX 15 j 0)] (fun H => H = H0) none (PL D (z + (bsX j + 10)) (kw D z xI [(15, j, 0), (16, j, 0), (17, j, 0), (18, j, 0), (19, j, 0)]) H0 (z + aX 15 j 0)) := by
  refine ci_of pn_X5 rfl (le_ rfl) (ls := [(0, .ref (z + aX 15 j 0))]) rfl ?_
  intro p e s m args below meth c E hi2
  refine j_wk (P' := (PL D (z + (bsX j + 6)) [((z + aX 15 j 0), .inr (6, [.null, .null, .null, .null, .int 0, .int 0]))] H0 (z + aX 15 j 0))) (fun H h => by subst h; exact PL.start hsz h0) ?_
  refine j_aload_n E 0 rfl dX5_init_0 ?_
  refine jp_objInit E ml_X5_3 im_Lib_objectInit cd_Lib_objectInit (le_ rfl) (le_ rfl) dX5_init_1 ?_
  refine j_aload_n E 0 rfl dX5_init_4 ?_
  refine j_bipush E 6 bp_6 dX5_init_5 ?_
  refine jp_newa (A := (z + (bsX j + 6))) (t := 0) (a0 := (6, .inl (fun _ => 0))) (P' := (PL D (z + (bsX j + 7)) [((z + aX 15 j 0), .inr (6, [.null, .null, .null, .null, .int 0, .int 0])), ((z + aX 16 j 0), .inl (D.2.2.1 0, 6, .inl (fun _ => 0)))] H0 (z + aX 15 j 0))) E ar_int rfl rfl (fun _ h => h) (fun _ => rfl) (fun H h => h.1) (by decide) tn_6 (le_ rfl) (le_ rfl) (le_ rfl) (fun H H1 h e1 e2 e3 => h.new e1 e2 e3) dX5_init_7 ?_
  refine jp_putF (f := 0) (P' := (PL D (z + (bsX j + 7)) [((z + aX 15 j 0), .inr (6, [.ref (z + aX 16 j 0), .null, .null, .null, .int 0, .int 0])), ((z + aX 16 j 0), .inl (D.2.2.1 0, 6, .inl (fun _ => 0)))] H0 (z + aX 15 j 0))) E hi2 z_ge (fun H h => h.at 0 rfl) cf_X5 fl_X5_9 (lt_ rfl) ⟨rfl, rfl, rfl⟩ ⟨rfl, rfl⟩ (lt_ rfl) (fun H H1 h e1 e2 e3 => h.put 0 rfl e1 e2 e3) dX5_init_9 ?_
  refine j_aload_n E 0 rfl dX5_init_12 ?_
  refine j_bipush E 8 bp_8 dX5_init_13 ?_
  refine jp_newa (A := (z + (bsX j + 7))) (t := 0) (a0 := (8, .inl (fun _ => 0))) (P' := (PL D (z + (bsX j + 8)) [((z + aX 15 j 0), .inr (6, [.ref (z + aX 16 j 0), .null, .null, .null, .int 0, .int 0])), ((z + aX 16 j 0), .inl (D.2.2.1 0, 6, .inl (fun _ => 0))), ((z + aX 17 j 0), .inl (D.2.2.1 0, 8, .inl (fun _ => 0)))] H0 (z + aX 15 j 0))) E ar_int rfl rfl (fun _ h => h) (fun _ => rfl) (fun H h => h.1) (by decide) tn_8 (le_ rfl) (le_ rfl) (le_ rfl) (fun H H1 h e1 e2 e3 => h.new e1 e2 e3) dX5_init_15 ?_
  refine jp_putF (f := 1) (P' := (PL D (z + (bsX j + 8)) [((z + aX 15 j 0), .inr (6, [.ref (z + aX 16 j 0), .ref (z + aX 17 j 0), .null, .null, .int 0, .int 0])), ((z + aX 16 j 0), .inl (D.2.2.1 0, 6, .inl (fun _ => 0))), ((z + aX 17 j 0), .inl (D.2.2.1 0, 8, .inl (fun _ => 0)))] H0 (z + aX 15 j 0))) E hi2 z_ge (fun H h => h.at 0 rfl) cf_X5 fl_X5_15 (lt_ rfl) ⟨rfl, rfl, rfl⟩ ⟨rfl, rfl⟩ (lt_ rfl) (fun H H1 h e1 e2 e3 => h.put 0 rfl e1 e2 e3) dX5_init_17 ?_
  refine j_aload_n E 0 rfl dX5_init_20 ?_
  refine j_bipush E 8 bp_8 dX5_init_21 ?_
  refine jp_newa (A := (z + (bsX j + 8))) (t := 0) (a0 := (8, .inl (fun _ => 0))) (P' := (PL D (z + (bsX j + 9)) [((z + aX 15 j 0), .inr (6, [.ref (z + aX 16 j 0), .ref (z + aX 17 j 0), .null, .null, .int 0, .int 0])), ((z + aX 16 j 0), .inl (D.2.2.1 0, 6, .inl (fun _ => 0))), ((z + aX 17 j 0), .inl (D.2.2.1 0, 8, .inl (fun _ => 0))), ((z + aX 18 j 0), .inl (D.2.2.1 0, 8, .inl (fun _ => 0)))] H0 (z + aX 15 j 0))) E ar_int rfl rfl (fun _ h => h) (fun _ => rfl) (fun H h => h.1) (by decide) tn_8 (le_ rfl) (le_ rfl) (le_ rfl) (fun H H1 h e1 e2 e3 => h.new e1 e2 e3) dX5_init_23 ?_
  refine jp_putF (f := 2) (P' := (PL D (z + (bsX j + 9)) [((z + aX 15 j 0), .inr (6, [.ref (z + aX 16 j 0), .ref (z + aX 17 j 0), .ref (z + aX 18 j 0), .null, .int 0, .int 0])), ((z + aX 16 j 0), .inl (D.2.2.1 0, 6, .inl (fun _ => 0))), ((z + aX 17 j 0), .inl (D.2.2.1 0, 8, .inl (fun _ => 0))), ((z + aX 18 j 0), .inl (D.2.2.1 0, 8, .inl (fun _ => 0)))] H0 (z + aX 15 j 0))) E hi2 z_ge (fun H h => h.at 0 rfl) cf_X5 fl_X5_18 (lt_ rfl) ⟨rfl, rfl, rfl⟩ ⟨rfl, rfl⟩ (lt_ rfl) (fun H H1 h e1 e2 e3 => h.put 0 rfl e1 e2 e3) dX5_init_25 ?_
  refine j_aload_n E 0 rfl dX5_init_28 ?_
  refine j_bipush E 8 bp_8 dX5_init_29 ?_
  refine jp_newa (A := (z + (bsX j + 9))) (t := 0) (a0 := (8, .inl (fun _ => 0))) (P' := (PL D (z + (bsX j + 10)) [((z + aX 15 j 0), .inr (6, [.ref (z + aX 16 j 0), .ref (z + aX 17 j 0), .ref (z + aX 18 j 0), .null, .int 0, .int 0])), ((z + aX 16 j 0), .inl (D.2.2.1 0, 6, .inl (fun _ => 0))), ((z + aX 17 j 0), .inl (D.2.2.1 0, 8, .inl (fun _ => 0))), ((z + aX 18 j 0), .inl (D.2.2.1 0, 8, .inl (fun _ => 0))), ((z + aX 19 j 0), .inl (D.2.2.1 0, 8, .inl (fun _ => 0)))] H0 (z + aX 15 j 0))) E ar_int rfl rfl (fun _ h => h) (fun _ => rfl) (fun H h => h.1) (by decide) tn_8 (le_ rfl) (le_ rfl) (le_ rfl) (fun H H1 h e1 e2 e3 => h.new e1 e2 e3) dX5_init_31 ?_
  refine jp_putF (f := 3) (P' := (PL D (z + (bsX j + 10)) [((z + aX 15 j 0), .inr (6, [.ref (z + aX 16 j 0), .ref (z + aX 17 j 0), .ref (z + aX 18 j 0), .ref (z + aX 19 j 0), .int 0, .int 0])), ((z + aX 16 j 0), .inl (D.2.2.1 0, 6, .inl (fun _ => 0))), ((z + aX 17 j 0), .inl (D.2.2.1 0, 8, .inl (fun _ => 0))), ((z + aX 18 j 0), .inl (D.2.2.1 0, 8, .inl (fun _ => 0))), ((z + aX 19 j 0), .inl (D.2.2.1 0, 8, .inl (fun _ => 0)))] H0 (z + aX 15 j 0))) E hi2 z_ge (fun H h => h.at 0 rfl) cf_X5 fl_X5_21 (lt_ rfl) ⟨rfl, rfl, rfl⟩ ⟨rfl, rfl⟩ (lt_ rfl) (fun H H1 h e1 e2 e3 => h.put 0 rfl e1 e2 e3) dX5_init_33 ?_
  refine j_wk (P' := (PL D (z + (bsX j + 10)) (kw D z xI [(15, j, 0), (16, j, 0), (17, j, 0), (18, j, 0), (19, j, 0)]) H0 (z + aX 15 j 0))) (fun H h => h) ?_
  exact j_vret E (le_ rfl) (le_ rfl) dX5_init_36
theorem ci_X6 {l : Launch} {D : DD} {z a : Nat} {P0 : Heap → Prop} : CC l yX6_init cX6_init 1 none (rmk 2 0 0) D z [.ref a] P0 none P0 := by
  refine ci_of pn_X6 rfl (le_ rfl) (ls := [(0, .ref a)]) rfl ?_
  intro p e s m args below meth c E hi2
  refine j_aload_n E 0 rfl dX6_init_0 ?_
  refine jp_objInit E ml_X6_1 im_Lib_objectInit cd_Lib_objectInit (le_ rfl) (le_ rfl) dX6_init_1 ?_
  exact j_vret E (le_ rfl) (le_ rfl) dX6_init_4
theorem ci_X7 {l : Launch} {D : DD} {z a : Nat} {P0 : Heap → Prop} : CC l yX7_init cX7_init 1 none (rmk 2 0 0) D z [.ref a] P0 none P0 := by
  refine ci_of pn_X7 rfl (le_ rfl) (ls := [(0, .ref a)]) rfl ?_
  intro p e s m args below meth c E hi2
  refine j_aload_n E 0 rfl dX7_init_0 ?_
  refine jp_objInit E ml_X7_1 im_Lib_objectInit cd_Lib_objectInit (le_ rfl) (le_ rfl) dX7_init_1 ?_
  exact j_vret E (le_ rfl) (le_ rfl) dX7_init_4
theorem ci_X9 {l : Launch} {D : DD} {z a A : Nat} {H0 : Heap} (hz : z ≤ a) (hsz : H0.size = A) (h0 : va_at (gD D) cls (a, .inr (10, [.int 0, .int 0, .int 0, .int 0])) H0) : CC l yX9_init cX9_init 1 none (rmk 2 0 0) D z [.ref a] (fun H => H = H0) none (PL D A [(a, .inr (10, [.int 0, .int 0, .int (-1), .int 0]))] H0 a) := by
  refine ci_of pn_X9 rfl (le_ rfl) (ls := [(0, .ref a)]) rfl ?_
  intro p e s m args below meth c E hi2
  refine j_wk (P' := PL D A [(a, .inr (10, [.int 0, .int 0, .int 0, .int 0]))] H0 a) (fun H h => by subst h; exact PL.start hsz h0) ?_
  refine j_aload_n E 0 rfl dX9_init_0 ?_
  refine jp_objInit E ml_X9_3 im_Lib_objectInit cd_Lib_objectInit (le_ rfl) (le_ rfl) dX9_init_1 ?_
  refine j_aload_n E 0 rfl dX9_init_4 ?_
  refine j_iconst E (-1) ic_m1 dX9_init_5 ?_
  refine jp_put (f := 2) (P' := PL D A [(a, .inr (10, [.int 0, .int 0, .int (-1), .int 0]))] H0 a) E hz (fun H h => h.at 0 rfl) cf_X9 fl_X9_9 (lt_ rfl) ⟨rfl, rfl⟩ (fit_i _) (lt_ rfl) (fun H H1 h e1 e2 e3 => h.put 0 rfl e1 e2 e3) dX9_init_6 ?_
  exact j_vret E (le_ rfl) (le_ rfl) dX9_init_9
