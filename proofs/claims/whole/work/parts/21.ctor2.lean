def famL (G : Nat → va_W) (i : Nat) : va_W := (List.range i).flatMap G
theorem famL_succ (G : Nat → va_W) (i : Nat) : famL G i ++ G i = famL G (i + 1) := by simp [famL, List.range_succ]
theorem iv_step {D : DD} {A t : Nat} {x : Nat × va_E} {pre mid : va_W} {a : Nat} {mk : (Nat → Option Nat) → va_E} {f : Nat → Nat} {G : Nat → va_W} {i : Nat} {H0 H : Heap} (h : PL D A (pre ++ (a, mk (va_up (afn f i) i (some (f i)))) :: (mid ++ famL G i ++ G i)) H0 t H) : PL D A (pre ++ (a, mk (afn f (i + 1))) :: (mid ++ famL G (i + 1))) H0 t H := by
  rw [afn_up, List.append_assoc, famL_succ] at h
  exact h
theorem iv_put {D : DD} {A t : Nat} {pre tl : va_W} {a : Nat} {e0 e : va_E} {H0 H H1 : Heap} (h : PL D A (pre ++ (a, e0) :: tl) H0 t H) (e1 : H1.size = H.size) (e2 : ∀ q : Nat, q ≠ a → H1[q]? = H[q]?) (e3 : va_at (gD D) cls (a, e) H1) : PL D A (pre ++ (a, e) :: tl) H0 t H1 := by
  have := h.put (e := e) pre.length (by rw [List.getElem?_append_right (Nat.le_refl _), Nat.sub_self]; rfl) e1 e2 e3
  rw [List.set_append_right _ _ (Nat.le_refl _), Nat.sub_self] at this
  exact this
theorem iv_chg {D : DD} {A t : Nat} {pre tl : va_W} {a : Nat} {e0 e : va_E} {H0 H : Heap} (h : PL D A (pre ++ (a, e0) :: tl) H0 t H) (he : va_at (gD D) cls (a, e0) H → va_at (gD D) cls (a, e) H) : PL D A (pre ++ (a, e) :: tl) H0 t H := by
  refine iv_put h rfl (fun _ _ => rfl) (he (h.at pre.length ?_))
  rw [List.getElem?_append_right (Nat.le_refl _), Nat.sub_self]
  rfl
theorem PL.sz {D : DD} {A A' t : Nat} {ws : va_W} {H0 H : Heap} (h : PL D A ws H0 t H) (e : A = A') : PL D A' ws H0 t H := e ▸ h
def bk (j : Nat) : List (Nat × Nat × Nat) := [(10, j, 0), (11, j, 0), (12, j, 0), (13, j, 0), (14, j, 0), (15, j, 0), (16, j, 0), (17, j, 0), (18, j, 0), (19, j, 0), (20, j, 0), (21, j, 0)] ++ (List.range 20).map (fun i => (22, j, i)) ++ [(23, j, 0), (24, j, 0), (25, j, 0)] ++ (List.range 5).map (fun i => (26, j, i)) ++ (List.range 12).map (fun i => (27, j, i))
theorem ad_up (k j i : Nat) (h : 10 ≤ k) : aX k j (i + 1) = aX k j i + 1 := by rw [aX_b h, aX_b h]; rfl
set_option maxRecDepth 20000 in
theorem lp_X3_15 {p : Program} {l : Launch} {e : Env} {s : State} {m : MethodId} {args : Array Value} {below : List Frame} {meth : Method} {c : Code} {D : DD} {z : Nat} {j : Nat} {H0 : Heap} {Q : State → Prop} (E : Cx p s m args meth c D z RX3 cX3_init 2 none) (hx : J p l e (rmk 3 21 200) s m args below meth c D z (PL D (z + aX 22 j 20) ([((z + aX 20 j 0), .inr (7, [.ref (z + aX 21 j 0), .int 0]))] ++ ((z + aX 21 j 0), .inl (D.2.2.1 4, 20, .inr (.inr (.inr (.inr (afn (fun q => z + aX 22 j q) 20)))))) :: ([] ++ famL (fun q => [(z + aX 22 j q, .inr (8, fs22 (fun _ => 0)))]) 20)) H0 (z + aX 20 j 0)) (1 + 1 * 20) (20 + 9 * 20) Q 2 40 [(0, .ref (z + aX 20 j 0)), (1, .int (nI 20))] []) : ∀ r i : Nat, i + r = 20 → J p l e (rmk 3 21 200) s m args below meth c D z (PL D (z + aX 22 j i) ([((z + aX 20 j 0), .inr (7, [.ref (z + aX 21 j 0), .int 0]))] ++ ((z + aX 21 j 0), .inl (D.2.2.1 4, 20, .inr (.inr (.inr (.inr (afn (fun q => z + aX 22 j q) i)))))) :: ([] ++ famL (fun q => [(z + aX 22 j q, .inr (8, fs22 (fun _ => 0)))]) i)) H0 (z + aX 20 j 0)) (1 + 1 * i) (20 + 9 * i) Q 2 15 [(0, .ref (z + aX 20 j 0)), (1, .int (nI i))] [] := by
  intro r
  induction r with
  | zero =>
    intro i hi
    have hi : i = 20 := by omega
    subst hi
    refine j_iload_n E 1 rfl dX3_init_15 ?_
    refine j_bipush E 20 bp_20 dX3_init_16 ?_
    exact j_icmp_ge E 40 (by decide) dX3_init_18 (fun _ => hx) (fun q => absurd (by decide) q)
  | succ r ih =>
    intro i hi
    have hlt : i < 20 := by omega
    refine j_iload_n E 1 rfl dX3_init_15 ?_
    refine j_bipush E 20 bp_20 dX3_init_16 ?_
    refine j_icmp_ge E 40 (by decide) dX3_init_18 (fun q => absurd q (nI_ge (b := 20) hlt (by decide))) (fun _ => ?_)
    refine j_aload_n E 0 rfl dX3_init_21 ?_
    refine jp_get (f := 0) E (fun H h => h.at 0 rfl) cf_X3 fl_X3_11 (lt_ rfl) rfl rfl dX3_init_22 ?_
    refine j_iload_n E 1 rfl dX3_init_25 ?_
    refine jp_new (A := (z + aX 22 j i)) (P' := PL D ((z + aX 22 j i) + 1) (([((z + aX 20 j 0), .inr (7, [.ref (z + aX 21 j 0), .int 0]))] ++ ((z + aX 21 j 0), .inl (D.2.2.1 4, 20, .inr (.inr (.inr (.inr (afn (fun q => z + aX 22 j q) i)))))) :: ([] ++ famL (fun q => [(z + aX 22 j q, .inr (8, fs22 (fun _ => 0)))]) i)) ++ [((z + aX 22 j i), .inr (8, [.int 0, .int 0, .int 0, .int 0, .int 0, .int 0, .int 0, .int 0, .int 0]))]) H0 (z + aX 20 j 0)) E cf_X6 cl_X3_9 is_X6 in_X6 (fun H h => h.1) df_X6 (by show (1 + 1 * i) + 1 ≤ 21; omega) (by show (20 + 9 * i) + 9 ≤ 200; omega) (fun H H1 h e1 e2 e3 => h.new e1 e2 e3) dX3_init_26 ?_
    refine j_dup E rfl dX3_init_29 ?_
    refine j_invIN (P' := (PL D ((z + aX 22 j i) + 1) (([((z + aX 20 j 0), .inr (7, [.ref (z + aX 21 j 0), .int 0]))] ++ ((z + aX 21 j 0), .inl (D.2.2.1 4, 20, .inr (.inr (.inr (.inr (afn (fun q => z + aX 22 j q) i)))))) :: ([] ++ famL (fun q => [(z + aX 22 j q, .inr (8, fs22 (fun _ => 0)))]) i)) ++ (fun q => [(z + aX 22 j q, .inr (8, fs22 (fun _ => 0)))]) i) H0 (z + aX 20 j 0))) [.ref (z + aX 22 j i), .int (nI i), .ref (z + aX 21 j 0)] E (fun H h => ci_X6) (fun H H1 h h2 => h2 ▸ h) ml_X3_17 mi_X6 rfl ⟨le_ rfl, le_ rfl⟩ rfl (le_ rfl) ⟨by show (1 + 1 * i) + 1 + 0 ≤ 21; omega, by show (20 + 9 * i) + 9 + 0 ≤ 200; omega⟩ dX3_init_30 ?_
    refine jp_aast (t := 4) (ci := 8) (vs := (fs22 (fun _ => 0))) (f := afn (fun q => z + aX 22 j q) i) (P' := (PL D (z + aX 22 j (i + 1)) ([((z + aX 20 j 0), .inr (7, [.ref (z + aX 21 j 0), .int 0]))] ++ ((z + aX 21 j 0), .inl (D.2.2.1 4, 20, .inr (.inr (.inr (.inr (afn (fun q => z + aX 22 j q) (i + 1))))))) :: ([] ++ famL (fun q => [(z + aX 22 j q, .inr (8, fs22 (fun _ => 0)))]) (i + 1))) H0 (z + aX 20 j 0))) E z_ge (fun H h => h.at 1 rfl) rfl (fun H h => h.atm (by simp [kw, bk, List.range_succ, entX, xI])) rfl (by have := aX_b (k := 21) (j := j) (i := 0) (by decide); have := aX_b (k := 22) (j := j) (i := i) (by decide); simp [offX] at *; omega) (vp_in_nI hlt (by decide)) i (nI_clamp (by omega)) (fun H H1 h e1 e2 e3 => PL.sz (iv_step (x := (0, .inl (0, 0, .inl (fun _ => 0)))) (pre := [((z + aX 20 j 0), .inr (7, [.ref (z + aX 21 j 0), .int 0]))]) (mid := []) (mk := fun f => .inl (D.2.2.1 4, 20, .inr (.inr (.inr (.inr f))))) (f := (fun q => z + aX 22 j q)) (G := (fun q => [(z + aX 22 j q, .inr (8, fs22 (fun _ => 0)))])) (iv_put (by simpa only [List.append_assoc, List.cons_append] using h) e1 e2 e3)) (by rw [ad_up _ _ _ (by decide)]; rfl)) dX3_init_33 ?_
    refine j_iinc (ls' := [(1, .int (nI (i + 1))), (0, .ref (z + aX 20 j 0))]) E 1 rfl (lt_ rfl) (nI (i + 1)) ((congrArg (fun q => nI i + q) ic_1).trans (nI_succ i).symm) rfl dX3_init_34 ?_
    refine j_goto E 15 (by decide) dX3_init_37 ?_
    refine j_sub [1, 0] rfl ?_
    exact j_widen (by show (1 + 1 * i) + 1 + 0 ≤ (1 + 1 * (i + 1)); omega) (by show (20 + 9 * i) + 9 + 0 ≤ (20 + 9 * (i + 1)); omega) (ih (i + 1) (by omega))
set_option maxRecDepth 20000 in
theorem ci_X3 {l : Launch} {D : DD} {z : Nat} {j : Nat} {H0 : Heap} (hsz : H0.size = (z + (bsX j + 11))) (h0 : va_at (gD D) cls ((z + aX 20 j 0), .inr (7, [.null, .int 0])) H0) : CC l yX3_init cX3_init 2 none (rmk 3 21 200) D z [.ref (z + aX 20 j 0)] (fun H => H = H0) none (PL D (z + (bsX j + 32)) (kw D z xI ([(20, j, 0), (21, j, 0)] ++ (List.range 20).map (fun i => (22, j, i)))) H0 (z + aX 20 j 0)) := by
  refine ci_of pn_X3 rfl (le_ rfl) (ls := [(0, .ref (z + aX 20 j 0))]) rfl ?_
  intro p e s m args below meth c E hi2
  refine j_wk (P' := (PL D (z + (bsX j + 11)) [((z + aX 20 j 0), .inr (7, [.null, .int 0]))] H0 (z + aX 20 j 0))) (fun H h => by subst h; exact PL.start hsz h0) ?_
  refine j_aload_n E 0 rfl dX3_init_0 ?_
  refine jp_objInit E ml_X3_3 im_Lib_objectInit cd_Lib_objectInit (le_ rfl) (le_ rfl) dX3_init_1 ?_
  refine j_aload_n E 0 rfl dX3_init_4 ?_
  refine j_bipush E 20 bp_20 dX3_init_5 ?_
  refine jp_anew (A := (z + (bsX j + 11))) (t := 4) (P' := (PL D (z + (bsX j + 12)) [((z + aX 20 j 0), .inr (7, [.null, .int 0])), ((z + aX 21 j 0), .inl (D.2.2.1 4, 20, .inr (.inr (.inr (.inr (fun _ => none))))))] H0 (z + aX 20 j 0))) E cl_X3_9 (by decide) rfl (fun H h => h.1) (by decide) tn_20 (le_ rfl) (le_ rfl) (le_ rfl) (fun H H1 h e1 e2 e3 => h.new e1 e2 e3) dX3_init_7 ?_
  refine jp_putF (f := 0) (P' := (PL D (z + (bsX j + 12)) [((z + aX 20 j 0), .inr (7, [.ref (z + aX 21 j 0), .int 0])), ((z + aX 21 j 0), .inl (D.2.2.1 4, 20, .inr (.inr (.inr (.inr (fun _ => none))))))] H0 (z + aX 20 j 0))) E hi2 z_ge (fun H h => h.at 0 rfl) cf_X3 fl_X3_11 (lt_ rfl) ⟨rfl, rfl, rfl⟩ ⟨rfl, rfl⟩ (lt_ rfl) (fun H H1 h e1 e2 e3 => h.put 0 rfl e1 e2 e3) dX3_init_10 ?_
  refine j_iconst E 0 ic_0 dX3_init_13 ?_
  refine j_istore_n (ls' := [(1, .int (nI 0)), (0, .ref (z + aX 20 j 0))]) E (i := 1) (lt_ rfl) rfl dX3_init_14 ?_
  refine j_sub [1, 0] rfl ?_
  refine j_wk (P' := (PL D (z + aX 22 j 0) ([((z + aX 20 j 0), .inr (7, [.ref (z + aX 21 j 0), .int 0]))] ++ ((z + aX 21 j 0), .inl (D.2.2.1 4, 20, .inr (.inr (.inr (.inr (afn (fun q => z + aX 22 j q) 0)))))) :: ([] ++ famL (fun q => [(z + aX 22 j q, .inr (8, fs22 (fun _ => 0)))]) 0)) H0 (z + aX 20 j 0))) (fun H h => PL.sz (h.to (by simp [famL, afn_0])) rfl) ?_
  refine lp_X3_15 E ?_ 20 0 rfl
  refine j_wk (P' := (PL D (z + (bsX j + 32)) ([((z + aX 20 j 0), .inr (7, [.ref (z + aX 21 j 0), .int 0])), ((z + aX 21 j 0), aref D 4 20 (fun q => z + aX 22 j q))] ++ famL (fun q => [(z + aX 22 j q, .inr (8, fs22 (fun _ => 0)))]) 20) H0 (z + aX 20 j 0))) (fun H h => PL.sz ((iv_chg (pre := [((z + aX 20 j 0), .inr (7, [.ref (z + aX 21 j 0), .int 0]))]) h afn_end).to (by simp)) (rfl)) ?_
  refine j_sub [0] rfl ?_
  refine j_wk (P' := (PL D (z + (bsX j + 32)) (kw D z xI ([(20, j, 0), (21, j, 0)] ++ (List.range 20).map (fun i => (22, j, i)))) H0 (z + aX 20 j 0))) (fun H h => h.to rfl) ?_
  exact j_vret E (le_ rfl) (le_ rfl) dX3_init_40
set_option maxRecDepth 20000 in
theorem lp_X2_23 {p : Program} {l : Launch} {e : Env} {s : State} {m : MethodId} {args : Array Value} {below : List Frame} {meth : Method} {c : Code} {D : DD} {z : Nat} {j : Nat} {H0 : Heap} {Q : State → Prop} (E : Cx p s m args meth c D z RX2 cX2_init 2 none) (hx : J p l e (rmk 3 19 85) s m args below meth c D z (PL D (z + aX 26 j 5) ([((z + aX 23 j 0), .inr (9, [.ref (z + aX 24 j 0), .ref (z + aX 25 j 0), .int 0, .int 0]))] ++ ((z + aX 24 j 0), .inl (D.2.2.1 5, 5, .inr (.inr (.inr (.inr (afn (fun q => z + aX 26 j q) 5)))))) :: ([((z + aX 25 j 0), .inl (D.2.2.1 6, 12, .inr (.inr (.inr (.inr (fun _ => none))))))] ++ famL (fun q => [(z + aX 26 j q, .inr (10, fs26 (xI 26 j q)))]) 5)) H0 (z + aX 23 j 0)) (2 + 1 * 5) (17 + 4 * 5) Q 2 47 [(0, .ref (z + aX 23 j 0)), (1, .int (nI 5))] []) : ∀ r i : Nat, i + r = 5 → J p l e (rmk 3 19 85) s m args below meth c D z (PL D (z + aX 26 j i) ([((z + aX 23 j 0), .inr (9, [.ref (z + aX 24 j 0), .ref (z + aX 25 j 0), .int 0, .int 0]))] ++ ((z + aX 24 j 0), .inl (D.2.2.1 5, 5, .inr (.inr (.inr (.inr (afn (fun q => z + aX 26 j q) i)))))) :: ([((z + aX 25 j 0), .inl (D.2.2.1 6, 12, .inr (.inr (.inr (.inr (fun _ => none))))))] ++ famL (fun q => [(z + aX 26 j q, .inr (10, fs26 (xI 26 j q)))]) i)) H0 (z + aX 23 j 0)) (2 + 1 * i) (17 + 4 * i) Q 2 23 [(0, .ref (z + aX 23 j 0)), (1, .int (nI i))] [] := by
  intro r
  induction r with
  | zero =>
    intro i hi
    have hi : i = 5 := by omega
    subst hi
    refine j_iload_n E 1 rfl dX2_init_23 ?_
    refine j_iconst E 5 ic_5 dX2_init_24 ?_
    exact j_icmp_ge E 47 (by decide) dX2_init_25 (fun _ => hx) (fun q => absurd (by decide) q)
  | succ r ih =>
    intro i hi
    have hlt : i < 5 := by omega
    refine j_iload_n E 1 rfl dX2_init_23 ?_
    refine j_iconst E 5 ic_5 dX2_init_24 ?_
    refine j_icmp_ge E 47 (by decide) dX2_init_25 (fun q => absurd q (nI_ge (b := 5) hlt (by decide))) (fun _ => ?_)
    refine j_aload_n E 0 rfl dX2_init_28 ?_
    refine jp_get (f := 0) E (fun H h => h.at 0 rfl) cf_X2 fl_X2_11 (lt_ rfl) rfl rfl dX2_init_29 ?_
    refine j_iload_n E 1 rfl dX2_init_32 ?_
    refine jp_new (A := (z + aX 26 j i)) (P' := PL D ((z + aX 26 j i) + 1) (([((z + aX 23 j 0), .inr (9, [.ref (z + aX 24 j 0), .ref (z + aX 25 j 0), .int 0, .int 0]))] ++ ((z + aX 24 j 0), .inl (D.2.2.1 5, 5, .inr (.inr (.inr (.inr (afn (fun q => z + aX 26 j q) i)))))) :: ([((z + aX 25 j 0), .inl (D.2.2.1 6, 12, .inr (.inr (.inr (.inr (fun _ => none))))))] ++ famL (fun q => [(z + aX 26 j q, .inr (10, fs26 (xI 26 j q)))]) i)) ++ [((z + aX 26 j i), .inr (10, [.int 0, .int 0, .int 0, .int 0]))]) H0 (z + aX 23 j 0)) E cf_X9 cl_X2_9 is_X9 in_X9 (fun H h => h.1) df_X9 (by show (2 + 1 * i) + 1 ≤ 19; omega) (by show (17 + 4 * i) + 4 ≤ 85; omega) (fun H H1 h e1 e2 e3 => h.new e1 e2 e3) dX2_init_33 ?_
    refine j_dup E rfl dX2_init_36 ?_
    refine j_invIN (P' := (PL D ((z + aX 26 j i) + 1) (([((z + aX 23 j 0), .inr (9, [.ref (z + aX 24 j 0), .ref (z + aX 25 j 0), .int 0, .int 0]))] ++ ((z + aX 24 j 0), .inl (D.2.2.1 5, 5, .inr (.inr (.inr (.inr (afn (fun q => z + aX 26 j q) i)))))) :: ([((z + aX 25 j 0), .inl (D.2.2.1 6, 12, .inr (.inr (.inr (.inr (fun _ => none))))))] ++ famL (fun q => [(z + aX 26 j q, .inr (10, fs26 (xI 26 j q)))]) i)) ++ (fun q => [(z + aX 26 j q, .inr (10, fs26 (xI 26 j q)))]) i) H0 (z + aX 23 j 0))) [.ref (z + aX 26 j i), .int (nI i), .ref (z + aX 24 j 0)] E (fun H h => ci_X9 z_ge h.1 (h.atm (by simp))) (fun H H1 h h2 => PL.sub (A := (z + aX 26 j i)) (e := .inr (10, [.int 0, .int 0, .int 0, .int 0])) (ws := ([((z + aX 23 j 0), .inr (9, [.ref (z + aX 24 j 0), .ref (z + aX 25 j 0), .int 0, .int 0]))] ++ ((z + aX 24 j 0), .inl (D.2.2.1 5, 5, .inr (.inr (.inr (.inr (afn (fun q => z + aX 26 j q) i)))))) :: ([((z + aX 25 j 0), .inl (D.2.2.1 6, 12, .inr (.inr (.inr (.inr (fun _ => none))))))] ++ famL (fun q => [(z + aX 26 j q, .inr (10, fs26 (xI 26 j q)))]) i))) (show PL D ((z + aX 26 j i) + 1) (([((z + aX 23 j 0), .inr (9, [.ref (z + aX 24 j 0), .ref (z + aX 25 j 0), .int 0, .int 0]))] ++ ((z + aX 24 j 0), .inl (D.2.2.1 5, 5, .inr (.inr (.inr (.inr (afn (fun q => z + aX 26 j q) i)))))) :: ([((z + aX 25 j 0), .inl (D.2.2.1 6, 12, .inr (.inr (.inr (.inr (fun _ => none))))))] ++ famL (fun q => [(z + aX 26 j q, .inr (10, fs26 (xI 26 j q)))]) i)) ++ [((z + aX 26 j i), .inr (10, [.int 0, .int 0, .int 0, .int 0]))]) H0 (z + aX 23 j 0) H from h) h2) ml_X2_23 mi_X9 rfl ⟨le_ rfl, le_ rfl⟩ rfl (le_ rfl) ⟨by show (2 + 1 * i) + 1 + 0 ≤ 19; omega, by show (17 + 4 * i) + 4 + 0 ≤ 85; omega⟩ dX2_init_37 ?_
    refine jp_aast (t := 5) (ci := 10) (vs := (fs26 (xI 26 j i))) (f := afn (fun q => z + aX 26 j q) i) (P' := (PL D (z + aX 26 j (i + 1)) ([((z + aX 23 j 0), .inr (9, [.ref (z + aX 24 j 0), .ref (z + aX 25 j 0), .int 0, .int 0]))] ++ ((z + aX 24 j 0), .inl (D.2.2.1 5, 5, .inr (.inr (.inr (.inr (afn (fun q => z + aX 26 j q) (i + 1))))))) :: ([((z + aX 25 j 0), .inl (D.2.2.1 6, 12, .inr (.inr (.inr (.inr (fun _ => none))))))] ++ famL (fun q => [(z + aX 26 j q, .inr (10, fs26 (xI 26 j q)))]) (i + 1))) H0 (z + aX 23 j 0))) E z_ge (fun H h => h.at 1 rfl) rfl (fun H h => h.atm (by simp [kw, bk, List.range_succ, entX, xI])) rfl (by have := aX_b (k := 24) (j := j) (i := 0) (by decide); have := aX_b (k := 25) (j := j) (i := 0) (by decide); have := aX_b (k := 26) (j := j) (i := i) (by decide); have := aX_b (k := 27) (j := j) (i := i) (by decide); simp [offX] at *; omega) (vp_in_nI hlt (by decide)) i (nI_clamp (by omega)) (fun H H1 h e1 e2 e3 => PL.sz (iv_step (x := (0, .inl (0, 0, .inl (fun _ => 0)))) (pre := [((z + aX 23 j 0), .inr (9, [.ref (z + aX 24 j 0), .ref (z + aX 25 j 0), .int 0, .int 0]))]) (mid := [((z + aX 25 j 0), .inl (D.2.2.1 6, 12, .inr (.inr (.inr (.inr (fun _ => none))))))]) (mk := fun f => .inl (D.2.2.1 5, 5, .inr (.inr (.inr (.inr f))))) (f := (fun q => z + aX 26 j q)) (G := (fun q => [(z + aX 26 j q, .inr (10, fs26 (xI 26 j q)))])) (iv_put (by simpa only [List.append_assoc, List.cons_append] using h) e1 e2 e3)) (by rw [ad_up _ _ _ (by decide)]; rfl)) dX2_init_40 ?_
    refine j_iinc (ls' := [(1, .int (nI (i + 1))), (0, .ref (z + aX 23 j 0))]) E 1 rfl (lt_ rfl) (nI (i + 1)) ((congrArg (fun q => nI i + q) ic_1).trans (nI_succ i).symm) rfl dX2_init_41 ?_
    refine j_goto E 23 (by decide) dX2_init_44 ?_
    refine j_sub [1, 0] rfl ?_
    exact j_widen (by show (2 + 1 * i) + 1 + 0 ≤ (2 + 1 * (i + 1)); omega) (by show (17 + 4 * i) + 4 + 0 ≤ (17 + 4 * (i + 1)); omega) (ih (i + 1) (by omega))
set_option maxRecDepth 20000 in
theorem lp_X2_49 {p : Program} {l : Launch} {e : Env} {s : State} {m : MethodId} {args : Array Value} {below : List Frame} {meth : Method} {c : Code} {D : DD} {z : Nat} {j : Nat} {H0 : Heap} {Q : State → Prop} (E : Cx p s m args meth c D z RX2 cX2_init 2 none) (hx : J p l e (rmk 3 19 85) s m args below meth c D z (PL D (z + aX 27 j 12) ([((z + aX 23 j 0), .inr (9, [.ref (z + aX 24 j 0), .ref (z + aX 25 j 0), .int 0, .int 0])), ((z + aX 24 j 0), aref D 5 5 (fun q => z + aX 26 j q))] ++ ((z + aX 25 j 0), .inl (D.2.2.1 6, 12, .inr (.inr (.inr (.inr (afn (fun q => z + aX 27 j q) 12)))))) :: (famL (fun q => [(z + aX 26 j q, .inr (10, fs26 (xI 26 j q)))]) 5 ++ famL (fun q => [(z + aX 27 j q, .inr (11, fs26 (fun _ => 0)))]) 12)) H0 (z + aX 23 j 0)) (7 + 1 * 12) (37 + 4 * 12) Q 2 74 [(0, .ref (z + aX 23 j 0)), (1, .int (nI 12))] []) : ∀ r i : Nat, i + r = 12 → J p l e (rmk 3 19 85) s m args below meth c D z (PL D (z + aX 27 j i) ([((z + aX 23 j 0), .inr (9, [.ref (z + aX 24 j 0), .ref (z + aX 25 j 0), .int 0, .int 0])), ((z + aX 24 j 0), aref D 5 5 (fun q => z + aX 26 j q))] ++ ((z + aX 25 j 0), .inl (D.2.2.1 6, 12, .inr (.inr (.inr (.inr (afn (fun q => z + aX 27 j q) i)))))) :: (famL (fun q => [(z + aX 26 j q, .inr (10, fs26 (xI 26 j q)))]) 5 ++ famL (fun q => [(z + aX 27 j q, .inr (11, fs26 (fun _ => 0)))]) i)) H0 (z + aX 23 j 0)) (7 + 1 * i) (37 + 4 * i) Q 2 49 [(0, .ref (z + aX 23 j 0)), (1, .int (nI i))] [] := by
  intro r
  induction r with
  | zero =>
    intro i hi
    have hi : i = 12 := by omega
    subst hi
    refine j_iload_n E 1 rfl dX2_init_49 ?_
    refine j_bipush E 12 bp_12 dX2_init_50 ?_
    exact j_icmp_ge E 74 (by decide) dX2_init_52 (fun _ => hx) (fun q => absurd (by decide) q)
  | succ r ih =>
    intro i hi
    have hlt : i < 12 := by omega
    refine j_iload_n E 1 rfl dX2_init_49 ?_
    refine j_bipush E 12 bp_12 dX2_init_50 ?_
    refine j_icmp_ge E 74 (by decide) dX2_init_52 (fun q => absurd q (nI_ge (b := 12) hlt (by decide))) (fun _ => ?_)
    refine j_aload_n E 0 rfl dX2_init_55 ?_
    refine jp_get (f := 1) E (fun H h => h.at 0 rfl) cf_X2 fl_X2_19 (lt_ rfl) rfl rfl dX2_init_56 ?_
    refine j_iload_n E 1 rfl dX2_init_59 ?_
    refine jp_new (A := (z + aX 27 j i)) (P' := PL D ((z + aX 27 j i) + 1) (([((z + aX 23 j 0), .inr (9, [.ref (z + aX 24 j 0), .ref (z + aX 25 j 0), .int 0, .int 0])), ((z + aX 24 j 0), aref D 5 5 (fun q => z + aX 26 j q))] ++ ((z + aX 25 j 0), .inl (D.2.2.1 6, 12, .inr (.inr (.inr (.inr (afn (fun q => z + aX 27 j q) i)))))) :: (famL (fun q => [(z + aX 26 j q, .inr (10, fs26 (xI 26 j q)))]) 5 ++ famL (fun q => [(z + aX 27 j q, .inr (11, fs26 (fun _ => 0)))]) i)) ++ [((z + aX 27 j i), .inr (11, [.int 0, .int 0, .int 0, .int 0]))]) H0 (z + aX 23 j 0)) E cf_X7 cl_X2_17 is_X7 in_X7 (fun H h => h.1) df_X7 (by show (7 + 1 * i) + 1 ≤ 19; omega) (by show (37 + 4 * i) + 4 ≤ 85; omega) (fun H H1 h e1 e2 e3 => h.new e1 e2 e3) dX2_init_60 ?_
    refine j_dup E rfl dX2_init_63 ?_
    refine j_invIN (P' := (PL D ((z + aX 27 j i) + 1) (([((z + aX 23 j 0), .inr (9, [.ref (z + aX 24 j 0), .ref (z + aX 25 j 0), .int 0, .int 0])), ((z + aX 24 j 0), aref D 5 5 (fun q => z + aX 26 j q))] ++ ((z + aX 25 j 0), .inl (D.2.2.1 6, 12, .inr (.inr (.inr (.inr (afn (fun q => z + aX 27 j q) i)))))) :: (famL (fun q => [(z + aX 26 j q, .inr (10, fs26 (xI 26 j q)))]) 5 ++ famL (fun q => [(z + aX 27 j q, .inr (11, fs26 (fun _ => 0)))]) i)) ++ (fun q => [(z + aX 27 j q, .inr (11, fs26 (fun _ => 0)))]) i) H0 (z + aX 23 j 0))) [.ref (z + aX 27 j i), .int (nI i), .ref (z + aX 25 j 0)] E (fun H h => ci_X7) (fun H H1 h h2 => h2 ▸ h) ml_X2_24 mi_X7 rfl ⟨le_ rfl, le_ rfl⟩ rfl (le_ rfl) ⟨by show (7 + 1 * i) + 1 + 0 ≤ 19; omega, by show (37 + 4 * i) + 4 + 0 ≤ 85; omega⟩ dX2_init_64 ?_
    refine jp_aast (t := 6) (ci := 11) (vs := (fs26 (fun _ => 0))) (f := afn (fun q => z + aX 27 j q) i) (P' := (PL D (z + aX 27 j (i + 1)) ([((z + aX 23 j 0), .inr (9, [.ref (z + aX 24 j 0), .ref (z + aX 25 j 0), .int 0, .int 0])), ((z + aX 24 j 0), aref D 5 5 (fun q => z + aX 26 j q))] ++ ((z + aX 25 j 0), .inl (D.2.2.1 6, 12, .inr (.inr (.inr (.inr (afn (fun q => z + aX 27 j q) (i + 1))))))) :: (famL (fun q => [(z + aX 26 j q, .inr (10, fs26 (xI 26 j q)))]) 5 ++ famL (fun q => [(z + aX 27 j q, .inr (11, fs26 (fun _ => 0)))]) (i + 1))) H0 (z + aX 23 j 0))) E z_ge (fun H h => h.at 2 rfl) rfl (fun H h => h.atm (by simp [kw, bk, List.range_succ, entX, xI])) rfl (by have := aX_b (k := 24) (j := j) (i := 0) (by decide); have := aX_b (k := 25) (j := j) (i := 0) (by decide); have := aX_b (k := 26) (j := j) (i := i) (by decide); have := aX_b (k := 27) (j := j) (i := i) (by decide); simp [offX] at *; omega) (vp_in_nI hlt (by decide)) i (nI_clamp (by omega)) (fun H H1 h e1 e2 e3 => PL.sz (iv_step (x := (0, .inl (0, 0, .inl (fun _ => 0)))) (pre := [((z + aX 23 j 0), .inr (9, [.ref (z + aX 24 j 0), .ref (z + aX 25 j 0), .int 0, .int 0])), ((z + aX 24 j 0), aref D 5 5 (fun q => z + aX 26 j q))]) (mid := famL (fun q => [(z + aX 26 j q, .inr (10, fs26 (xI 26 j q)))]) 5) (mk := fun f => .inl (D.2.2.1 6, 12, .inr (.inr (.inr (.inr f))))) (f := (fun q => z + aX 27 j q)) (G := (fun q => [(z + aX 27 j q, .inr (11, fs26 (fun _ => 0)))])) (iv_put (by simpa only [List.append_assoc, List.cons_append] using h) e1 e2 e3)) (by rw [ad_up _ _ _ (by decide)]; rfl)) dX2_init_67 ?_
    refine j_iinc (ls' := [(1, .int (nI (i + 1))), (0, .ref (z + aX 23 j 0))]) E 1 rfl (lt_ rfl) (nI (i + 1)) ((congrArg (fun q => nI i + q) ic_1).trans (nI_succ i).symm) rfl dX2_init_68 ?_
    refine j_goto E 49 (by decide) dX2_init_71 ?_
    refine j_sub [1, 0] rfl ?_
    exact j_widen (by show (7 + 1 * i) + 1 + 0 ≤ (7 + 1 * (i + 1)); omega) (by show (37 + 4 * i) + 4 + 0 ≤ (37 + 4 * (i + 1)); omega) (ih (i + 1) (by omega))
set_option maxRecDepth 20000 in
theorem ci_X2 {l : Launch} {D : DD} {z : Nat} {j : Nat} {H0 : Heap} (hsz : H0.size = (z + (bsX j + 33))) (h0 : va_at (gD D) cls ((z + aX 23 j 0), .inr (9, [.null, .null, .int 0, .int 0])) H0) : CC l yX2_init cX2_init 2 none (rmk 3 19 85) D z [.ref (z + aX 23 j 0)] (fun H => H = H0) none (PL D (z + (bsX j + 52)) (kw D z xI ([(23, j, 0), (24, j, 0), (25, j, 0)] ++ (List.range 5).map (fun i => (26, j, i)) ++ (List.range 12).map (fun i => (27, j, i)))) H0 (z + aX 23 j 0)) := by
  refine ci_of pn_X2 rfl (le_ rfl) (ls := [(0, .ref (z + aX 23 j 0))]) rfl ?_
  intro p e s m args below meth c E hi2
  refine j_wk (P' := (PL D (z + (bsX j + 33)) [((z + aX 23 j 0), .inr (9, [.null, .null, .int 0, .int 0]))] H0 (z + aX 23 j 0))) (fun H h => by subst h; exact PL.start hsz h0) ?_
  refine j_aload_n E 0 rfl dX2_init_0 ?_
  refine jp_objInit E ml_X2_3 im_Lib_objectInit cd_Lib_objectInit (le_ rfl) (le_ rfl) dX2_init_1 ?_
  refine j_aload_n E 0 rfl dX2_init_4 ?_
  refine j_iconst E 5 ic_5 dX2_init_5 ?_
  refine jp_anew (A := (z + (bsX j + 33))) (t := 5) (P' := (PL D (z + (bsX j + 34)) [((z + aX 23 j 0), .inr (9, [.null, .null, .int 0, .int 0])), ((z + aX 24 j 0), .inl (D.2.2.1 5, 5, .inr (.inr (.inr (.inr (fun _ => none))))))] H0 (z + aX 23 j 0))) E cl_X2_9 (by decide) rfl (fun H h => h.1) (by decide) tn_5 (le_ rfl) (le_ rfl) (le_ rfl) (fun H H1 h e1 e2 e3 => h.new e1 e2 e3) dX2_init_6 ?_
  refine jp_putF (f := 0) (P' := (PL D (z + (bsX j + 34)) [((z + aX 23 j 0), .inr (9, [.ref (z + aX 24 j 0), .null, .int 0, .int 0])), ((z + aX 24 j 0), .inl (D.2.2.1 5, 5, .inr (.inr (.inr (.inr (fun _ => none))))))] H0 (z + aX 23 j 0))) E hi2 z_ge (fun H h => h.at 0 rfl) cf_X2 fl_X2_11 (lt_ rfl) ⟨rfl, rfl, rfl⟩ ⟨rfl, rfl⟩ (lt_ rfl) (fun H H1 h e1 e2 e3 => h.put 0 rfl e1 e2 e3) dX2_init_9 ?_
  refine j_aload_n E 0 rfl dX2_init_12 ?_
  refine j_bipush E 12 bp_12 dX2_init_13 ?_
  refine jp_anew (A := (z + (bsX j + 34))) (t := 6) (P' := (PL D (z + (bsX j + 35)) [((z + aX 23 j 0), .inr (9, [.ref (z + aX 24 j 0), .null, .int 0, .int 0])), ((z + aX 24 j 0), .inl (D.2.2.1 5, 5, .inr (.inr (.inr (.inr (fun _ => none)))))), ((z + aX 25 j 0), .inl (D.2.2.1 6, 12, .inr (.inr (.inr (.inr (fun _ => none))))))] H0 (z + aX 23 j 0))) E cl_X2_17 (by decide) rfl (fun H h => h.1) (by decide) tn_12 (le_ rfl) (le_ rfl) (le_ rfl) (fun H H1 h e1 e2 e3 => h.new e1 e2 e3) dX2_init_15 ?_
  refine jp_putF (f := 1) (P' := (PL D (z + (bsX j + 35)) [((z + aX 23 j 0), .inr (9, [.ref (z + aX 24 j 0), .ref (z + aX 25 j 0), .int 0, .int 0])), ((z + aX 24 j 0), .inl (D.2.2.1 5, 5, .inr (.inr (.inr (.inr (fun _ => none)))))), ((z + aX 25 j 0), .inl (D.2.2.1 6, 12, .inr (.inr (.inr (.inr (fun _ => none))))))] H0 (z + aX 23 j 0))) E hi2 z_ge (fun H h => h.at 0 rfl) cf_X2 fl_X2_19 (lt_ rfl) ⟨rfl, rfl, rfl⟩ ⟨rfl, rfl⟩ (lt_ rfl) (fun H H1 h e1 e2 e3 => h.put 0 rfl e1 e2 e3) dX2_init_18 ?_
  refine j_iconst E 0 ic_0 dX2_init_21 ?_
  refine j_istore_n (ls' := [(1, .int (nI 0)), (0, .ref (z + aX 23 j 0))]) E (i := 1) (lt_ rfl) rfl dX2_init_22 ?_
  refine j_sub [1, 0] rfl ?_
  refine j_wk (P' := (PL D (z + aX 26 j 0) ([((z + aX 23 j 0), .inr (9, [.ref (z + aX 24 j 0), .ref (z + aX 25 j 0), .int 0, .int 0]))] ++ ((z + aX 24 j 0), .inl (D.2.2.1 5, 5, .inr (.inr (.inr (.inr (afn (fun q => z + aX 26 j q) 0)))))) :: ([((z + aX 25 j 0), .inl (D.2.2.1 6, 12, .inr (.inr (.inr (.inr (fun _ => none))))))] ++ famL (fun q => [(z + aX 26 j q, .inr (10, fs26 (xI 26 j q)))]) 0)) H0 (z + aX 23 j 0))) (fun H h => PL.sz (h.to (by simp [famL, afn_0])) rfl) ?_
  refine lp_X2_23 E ?_ 5 0 rfl
  refine j_wk (P' := (PL D (z + (bsX j + 40)) ([((z + aX 23 j 0), .inr (9, [.ref (z + aX 24 j 0), .ref (z + aX 25 j 0), .int 0, .int 0])), ((z + aX 24 j 0), aref D 5 5 (fun q => z + aX 26 j q)), ((z + aX 25 j 0), .inl (D.2.2.1 6, 12, .inr (.inr (.inr (.inr (fun _ => none))))))] ++ famL (fun q => [(z + aX 26 j q, .inr (10, fs26 (xI 26 j q)))]) 5) H0 (z + aX 23 j 0))) (fun H h => PL.sz ((iv_chg (pre := [((z + aX 23 j 0), .inr (9, [.ref (z + aX 24 j 0), .ref (z + aX 25 j 0), .int 0, .int 0]))]) h afn_end).to (by simp)) (rfl)) ?_
  refine j_sub [0] rfl ?_
  refine j_iconst E 0 ic_0 dX2_init_47 ?_
  refine j_istore_n (ls' := [(1, .int (nI 0)), (0, .ref (z + aX 23 j 0))]) E (i := 1) (lt_ rfl) rfl dX2_init_48 ?_
  refine j_sub [1, 0] rfl ?_
  refine j_wk (P' := (PL D (z + aX 27 j 0) ([((z + aX 23 j 0), .inr (9, [.ref (z + aX 24 j 0), .ref (z + aX 25 j 0), .int 0, .int 0])), ((z + aX 24 j 0), aref D 5 5 (fun q => z + aX 26 j q))] ++ ((z + aX 25 j 0), .inl (D.2.2.1 6, 12, .inr (.inr (.inr (.inr (afn (fun q => z + aX 27 j q) 0)))))) :: (famL (fun q => [(z + aX 26 j q, .inr (10, fs26 (xI 26 j q)))]) 5 ++ famL (fun q => [(z + aX 27 j q, .inr (11, fs26 (fun _ => 0)))]) 0)) H0 (z + aX 23 j 0))) (fun H h => PL.sz (h.to (by simp [famL, afn_0])) rfl) ?_
  refine lp_X2_49 E ?_ 12 0 rfl
  refine j_wk (P' := (PL D (z + (bsX j + 52)) ([((z + aX 23 j 0), .inr (9, [.ref (z + aX 24 j 0), .ref (z + aX 25 j 0), .int 0, .int 0])), ((z + aX 24 j 0), aref D 5 5 (fun q => z + aX 26 j q)), ((z + aX 25 j 0), aref D 6 12 (fun q => z + aX 27 j q))] ++ famL (fun q => [(z + aX 26 j q, .inr (10, fs26 (xI 26 j q)))]) 5 ++ famL (fun q => [(z + aX 27 j q, .inr (11, fs26 (fun _ => 0)))]) 12) H0 (z + aX 23 j 0))) (fun H h => PL.sz ((iv_chg (pre := [((z + aX 23 j 0), .inr (9, [.ref (z + aX 24 j 0), .ref (z + aX 25 j 0), .int 0, .int 0])), ((z + aX 24 j 0), aref D 5 5 (fun q => z + aX 26 j q))]) h afn_end).to (by simp)) (rfl)) ?_
  refine j_sub [0] rfl ?_
  refine j_wk (P' := (PL D (z + (bsX j + 52)) (kw D z xI ([(23, j, 0), (24, j, 0), (25, j, 0)] ++ (List.range 5).map (fun i => (26, j, i)) ++ (List.range 12).map (fun i => (27, j, i)))) H0 (z + aX 23 j 0))) (fun H h => h.to rfl) ?_
  exact j_vret E (le_ rfl) (le_ rfl) dX2_init_74
set_option maxRecDepth 20000 in
theorem ci_X0 {l : Launch} {D : DD} {z : Nat} {j : Nat} {H0 : Heap} (hsz : H0.size = (z + (bsX j + 1))) (h0 : va_at (gD D) cls ((z + aX 10 j 0), .inr (4, [.null, .null, .null, .null, .int 0, .int 0, .int 0])) H0) : CC l yX0_init cX0_init 1 none (rmk 4 51 356) D z [.ref (z + aX 10 j 0)] (fun H => H = H0) none (PL D (z + (bsX j + 52)) (kw D z xI (bk j)) H0 (z + aX 10 j 0)) := by
  refine ci_of pn_X0 rfl (le_ rfl) (ls := [(0, .ref (z + aX 10 j 0))]) rfl ?_
  intro p e s m args below meth c E hi2
  refine j_wk (P' := (PL D (z + (bsX j + 1)) [((z + aX 10 j 0), .inr (4, [.null, .null, .null, .null, .int 0, .int 0, .int 0]))] H0 (z + aX 10 j 0))) (fun H h => by subst h; exact PL.start hsz h0) ?_
  refine j_aload_n E 0 rfl dX0_init_0 ?_
  refine jp_objInit E ml_X0_3 im_Lib_objectInit cd_Lib_objectInit (le_ rfl) (le_ rfl) dX0_init_1 ?_
  refine j_aload_n E 0 rfl dX0_init_4 ?_
  refine jp_new (A := (z + (bsX j + 1))) (P' := (PL D (z + (bsX j + 2)) [((z + aX 10 j 0), .inr (4, [.null, .null, .null, .null, .int 0, .int 0, .int 0])), ((z + aX 11 j 0), .inr (5, [.null, .null, .null, .int 0, .int 0]))] H0 (z + aX 10 j 0))) E cf_X1 cl_X0_9 is_X1 in_X1 (fun H h => h.1) df_X1 (le_ rfl) (le_ rfl) (fun H H1 h e1 e2 e3 => h.new e1 e2 e3) dX0_init_5 ?_
  refine j_dup E rfl dX0_init_8 ?_
  refine j_invIN (P' := (PL D (z + (bsX j + 5)) ([((z + aX 10 j 0), .inr (4, [.null, .null, .null, .null, .int 0, .int 0, .int 0]))] ++ kw D z xI [(11, j, 0), (12, j, 0), (13, j, 0), (14, j, 0)]) H0 (z + aX 10 j 0))) [.ref (z + aX 11 j 0), .ref (z + aX 10 j 0)] E (fun H h => ci_X1 h.1 (h.atm (by simp))) (fun H H1 h h2 => PL.sz (PL.sub (A := (z + aX 11 j 0)) (e := .inr (5, [.null, .null, .null, .int 0, .int 0])) (ws := [((z + aX 10 j 0), .inr (4, [.null, .null, .null, .null, .int 0, .int 0, .int 0]))]) (show PL D ((z + aX 11 j 0) + 1) ([((z + aX 10 j 0), .inr (4, [.null, .null, .null, .null, .int 0, .int 0, .int 0]))] ++ [((z + aX 11 j 0), .inr (5, [.null, .null, .null, .int 0, .int 0]))]) H0 (z + aX 10 j 0) H from h) h2) rfl) ml_X0_11 mi_X1 rfl ⟨le_ rfl, le_ rfl⟩ rfl (le_ rfl) ⟨le_ rfl, le_ rfl⟩ dX0_init_9 ?_
  refine jp_putF (f := 0) (P' := (PL D (z + (bsX j + 5)) ([((z + aX 10 j 0), .inr (4, [.ref (z + aX 11 j 0), .null, .null, .null, .int 0, .int 0, .int 0]))] ++ kw D z xI [(11, j, 0), (12, j, 0), (13, j, 0), (14, j, 0)]) H0 (z + aX 10 j 0))) E hi2 z_ge (fun H h => h.at 0 rfl) cf_X0 fl_X0_12 (lt_ rfl) ⟨rfl, rfl, rfl⟩ ⟨rfl, rfl⟩ (lt_ rfl) (fun H H1 h e1 e2 e3 => h.put 0 rfl e1 e2 e3) dX0_init_12 ?_
  refine j_aload_n E 0 rfl dX0_init_15 ?_
  refine jp_new (A := (z + (bsX j + 5))) (P' := (PL D (z + (bsX j + 6)) ([((z + aX 10 j 0), .inr (4, [.ref (z + aX 11 j 0), .null, .null, .null, .int 0, .int 0, .int 0]))] ++ kw D z xI [(11, j, 0), (12, j, 0), (13, j, 0), (14, j, 0)] ++ [((z + aX 15 j 0), .inr (6, [.null, .null, .null, .null, .int 0, .int 0]))]) H0 (z + aX 10 j 0))) E cf_X5 cl_X0_18 is_X5 in_X5 (fun H h => h.1) df_X5 (le_ rfl) (le_ rfl) (fun H H1 h e1 e2 e3 => h.new e1 e2 e3) dX0_init_16 ?_
  refine j_dup E rfl dX0_init_19 ?_
  refine j_invIN (P' := (PL D (z + (bsX j + 10)) ([((z + aX 10 j 0), .inr (4, [.ref (z + aX 11 j 0), .null, .null, .null, .int 0, .int 0, .int 0]))] ++ kw D z xI [(11, j, 0), (12, j, 0), (13, j, 0), (14, j, 0)] ++ kw D z xI [(15, j, 0), (16, j, 0), (17, j, 0), (18, j, 0), (19, j, 0)]) H0 (z + aX 10 j 0))) [.ref (z + aX 15 j 0), .ref (z + aX 10 j 0)] E (fun H h => ci_X5 h.1 (h.atm (by simp))) (fun H H1 h h2 => PL.sz (PL.sub (A := (z + aX 15 j 0)) (e := .inr (6, [.null, .null, .null, .null, .int 0, .int 0])) (ws := ([((z + aX 10 j 0), .inr (4, [.ref (z + aX 11 j 0), .null, .null, .null, .int 0, .int 0, .int 0]))] ++ kw D z xI [(11, j, 0), (12, j, 0), (13, j, 0), (14, j, 0)])) (show PL D ((z + aX 15 j 0) + 1) (([((z + aX 10 j 0), .inr (4, [.ref (z + aX 11 j 0), .null, .null, .null, .int 0, .int 0, .int 0]))] ++ kw D z xI [(11, j, 0), (12, j, 0), (13, j, 0), (14, j, 0)]) ++ [((z + aX 15 j 0), .inr (6, [.null, .null, .null, .null, .int 0, .int 0]))]) H0 (z + aX 10 j 0) H from h) h2) rfl) ml_X0_20 mi_X5 rfl ⟨le_ rfl, le_ rfl⟩ rfl (le_ rfl) ⟨le_ rfl, le_ rfl⟩ dX0_init_20 ?_
  refine jp_putF (f := 1) (P' := (PL D (z + (bsX j + 10)) ([((z + aX 10 j 0), .inr (4, [.ref (z + aX 11 j 0), .ref (z + aX 15 j 0), .null, .null, .int 0, .int 0, .int 0]))] ++ kw D z xI [(11, j, 0), (12, j, 0), (13, j, 0), (14, j, 0)] ++ kw D z xI [(15, j, 0), (16, j, 0), (17, j, 0), (18, j, 0), (19, j, 0)]) H0 (z + aX 10 j 0))) E hi2 z_ge (fun H h => h.at 0 rfl) cf_X0 fl_X0_21 (lt_ rfl) ⟨rfl, rfl, rfl⟩ ⟨rfl, rfl⟩ (lt_ rfl) (fun H H1 h e1 e2 e3 => h.put 0 rfl e1 e2 e3) dX0_init_23 ?_
  refine j_aload_n E 0 rfl dX0_init_26 ?_
  refine jp_new (A := (z + (bsX j + 10))) (P' := (PL D (z + (bsX j + 11)) ([((z + aX 10 j 0), .inr (4, [.ref (z + aX 11 j 0), .ref (z + aX 15 j 0), .null, .null, .int 0, .int 0, .int 0]))] ++ kw D z xI [(11, j, 0), (12, j, 0), (13, j, 0), (14, j, 0)] ++ kw D z xI [(15, j, 0), (16, j, 0), (17, j, 0), (18, j, 0), (19, j, 0)] ++ [((z + aX 20 j 0), .inr (7, [.null, .int 0]))]) H0 (z + aX 10 j 0))) E cf_X3 cl_X0_25 is_X3 in_X3 (fun H h => h.1) df_X3 (le_ rfl) (le_ rfl) (fun H H1 h e1 e2 e3 => h.new e1 e2 e3) dX0_init_27 ?_
  refine j_dup E rfl dX0_init_30 ?_
  refine j_invI (P' := (PL D (z + (bsX j + 32)) ([((z + aX 10 j 0), .inr (4, [.ref (z + aX 11 j 0), .ref (z + aX 15 j 0), .null, .null, .int 0, .int 0, .int 0]))] ++ kw D z xI [(11, j, 0), (12, j, 0), (13, j, 0), (14, j, 0)] ++ kw D z xI [(15, j, 0), (16, j, 0), (17, j, 0), (18, j, 0), (19, j, 0)] ++ kw D z xI ([(20, j, 0), (21, j, 0)] ++ (List.range 20).map (fun i => (22, j, i)))) H0 (z + aX 10 j 0))) [.ref (z + aX 20 j 0), .ref (z + aX 10 j 0)] E (fun H h => ci_X3 h.1 (h.atm (by simp))) (fun H H1 h h2 => PL.sz (PL.sub (A := (z + aX 20 j 0)) (e := .inr (7, [.null, .int 0])) (ws := ([((z + aX 10 j 0), .inr (4, [.ref (z + aX 11 j 0), .ref (z + aX 15 j 0), .null, .null, .int 0, .int 0, .int 0]))] ++ kw D z xI [(11, j, 0), (12, j, 0), (13, j, 0), (14, j, 0)] ++ kw D z xI [(15, j, 0), (16, j, 0), (17, j, 0), (18, j, 0), (19, j, 0)])) (show PL D ((z + aX 20 j 0) + 1) (([((z + aX 10 j 0), .inr (4, [.ref (z + aX 11 j 0), .ref (z + aX 15 j 0), .null, .null, .int 0, .int 0, .int 0]))] ++ kw D z xI [(11, j, 0), (12, j, 0), (13, j, 0), (14, j, 0)] ++ kw D z xI [(15, j, 0), (16, j, 0), (17, j, 0), (18, j, 0), (19, j, 0)]) ++ [((z + aX 20 j 0), .inr (7, [.null, .int 0]))]) H0 (z + aX 10 j 0) H from h) h2) rfl) ml_X0_27 mi_X3 rfl ⟨le_ rfl, le_ rfl⟩ rfl (le_ rfl) ⟨le_ rfl, le_ rfl⟩ dX0_init_31 ?_
  refine jp_putF (f := 2) (P' := (PL D (z + (bsX j + 32)) ([((z + aX 10 j 0), .inr (4, [.ref (z + aX 11 j 0), .ref (z + aX 15 j 0), .ref (z + aX 20 j 0), .null, .int 0, .int 0, .int 0]))] ++ kw D z xI [(11, j, 0), (12, j, 0), (13, j, 0), (14, j, 0)] ++ kw D z xI [(15, j, 0), (16, j, 0), (17, j, 0), (18, j, 0), (19, j, 0)] ++ kw D z xI ([(20, j, 0), (21, j, 0)] ++ (List.range 20).map (fun i => (22, j, i)))) H0 (z + aX 10 j 0))) E hi2 z_ge (fun H h => h.at 0 rfl) cf_X0 fl_X0_28 (lt_ rfl) ⟨rfl, rfl, rfl⟩ ⟨rfl, rfl⟩ (lt_ rfl) (fun H H1 h e1 e2 e3 => h.put 0 rfl e1 e2 e3) dX0_init_34 ?_
  refine j_aload_n E 0 rfl dX0_init_37 ?_
  refine jp_new (A := (z + (bsX j + 32))) (P' := (PL D (z + (bsX j + 33)) ([((z + aX 10 j 0), .inr (4, [.ref (z + aX 11 j 0), .ref (z + aX 15 j 0), .ref (z + aX 20 j 0), .null, .int 0, .int 0, .int 0]))] ++ kw D z xI [(11, j, 0), (12, j, 0), (13, j, 0), (14, j, 0)] ++ kw D z xI [(15, j, 0), (16, j, 0), (17, j, 0), (18, j, 0), (19, j, 0)] ++ kw D z xI ([(20, j, 0), (21, j, 0)] ++ (List.range 20).map (fun i => (22, j, i))) ++ [((z + aX 23 j 0), .inr (9, [.null, .null, .int 0, .int 0]))]) H0 (z + aX 10 j 0))) E cf_X2 cl_X0_32 is_X2 in_X2 (fun H h => h.1) df_X2 (le_ rfl) (le_ rfl) (fun H H1 h e1 e2 e3 => h.new e1 e2 e3) dX0_init_38 ?_
  refine j_dup E rfl dX0_init_41 ?_
  refine j_invI (P' := (PL D (z + (bsX j + 52)) ([((z + aX 10 j 0), .inr (4, [.ref (z + aX 11 j 0), .ref (z + aX 15 j 0), .ref (z + aX 20 j 0), .null, .int 0, .int 0, .int 0]))] ++ kw D z xI [(11, j, 0), (12, j, 0), (13, j, 0), (14, j, 0)] ++ kw D z xI [(15, j, 0), (16, j, 0), (17, j, 0), (18, j, 0), (19, j, 0)] ++ kw D z xI ([(20, j, 0), (21, j, 0)] ++ (List.range 20).map (fun i => (22, j, i))) ++ kw D z xI ([(23, j, 0), (24, j, 0), (25, j, 0)] ++ (List.range 5).map (fun i => (26, j, i)) ++ (List.range 12).map (fun i => (27, j, i)))) H0 (z + aX 10 j 0))) [.ref (z + aX 23 j 0), .ref (z + aX 10 j 0)] E (fun H h => ci_X2 h.1 (h.atm (by simp))) (fun H H1 h h2 => PL.sz (PL.sub (A := (z + aX 23 j 0)) (e := .inr (9, [.null, .null, .int 0, .int 0])) (ws := ([((z + aX 10 j 0), .inr (4, [.ref (z + aX 11 j 0), .ref (z + aX 15 j 0), .ref (z + aX 20 j 0), .null, .int 0, .int 0, .int 0]))] ++ kw D z xI [(11, j, 0), (12, j, 0), (13, j, 0), (14, j, 0)] ++ kw D z xI [(15, j, 0), (16, j, 0), (17, j, 0), (18, j, 0), (19, j, 0)] ++ kw D z xI ([(20, j, 0), (21, j, 0)] ++ (List.range 20).map (fun i => (22, j, i))))) (show PL D ((z + aX 23 j 0) + 1) (([((z + aX 10 j 0), .inr (4, [.ref (z + aX 11 j 0), .ref (z + aX 15 j 0), .ref (z + aX 20 j 0), .null, .int 0, .int 0, .int 0]))] ++ kw D z xI [(11, j, 0), (12, j, 0), (13, j, 0), (14, j, 0)] ++ kw D z xI [(15, j, 0), (16, j, 0), (17, j, 0), (18, j, 0), (19, j, 0)] ++ kw D z xI ([(20, j, 0), (21, j, 0)] ++ (List.range 20).map (fun i => (22, j, i)))) ++ [((z + aX 23 j 0), .inr (9, [.null, .null, .int 0, .int 0]))]) H0 (z + aX 10 j 0) H from h) h2) rfl) ml_X0_34 mi_X2 rfl ⟨le_ rfl, le_ rfl⟩ rfl (le_ rfl) ⟨le_ rfl, le_ rfl⟩ dX0_init_42 ?_
  refine jp_putF (f := 3) (P' := (PL D (z + (bsX j + 52)) ([((z + aX 10 j 0), .inr (4, [.ref (z + aX 11 j 0), .ref (z + aX 15 j 0), .ref (z + aX 20 j 0), .ref (z + aX 23 j 0), .int 0, .int 0, .int 0]))] ++ kw D z xI [(11, j, 0), (12, j, 0), (13, j, 0), (14, j, 0)] ++ kw D z xI [(15, j, 0), (16, j, 0), (17, j, 0), (18, j, 0), (19, j, 0)] ++ kw D z xI ([(20, j, 0), (21, j, 0)] ++ (List.range 20).map (fun i => (22, j, i))) ++ kw D z xI ([(23, j, 0), (24, j, 0), (25, j, 0)] ++ (List.range 5).map (fun i => (26, j, i)) ++ (List.range 12).map (fun i => (27, j, i)))) H0 (z + aX 10 j 0))) E hi2 z_ge (fun H h => h.at 0 rfl) cf_X0 fl_X0_35 (lt_ rfl) ⟨rfl, rfl, rfl⟩ ⟨rfl, rfl⟩ (lt_ rfl) (fun H H1 h e1 e2 e3 => h.put 0 rfl e1 e2 e3) dX0_init_45 ?_
  refine j_wk (P' := (PL D (z + (bsX j + 52)) (kw D z xI (bk j)) H0 (z + aX 10 j 0))) (fun H h => h.to rfl) ?_
  exact j_vret E (le_ rfl) (le_ rfl) dX0_init_48
set_option maxRecDepth 20000 in
theorem ci_X10 {l : Launch} {D : DD} {z : Nat} {H0 : Heap} (hsz : H0.size = (z + 3)) (h0 : va_at (gD D) cls ((z + aX 2 0 0), .inr (2, [.null, .int 0, .int 0, .int 0, .int 0, .int 0, .int 0])) H0) : CC l yX10_init cX10_init 1 none (rmk 2 1 600) D z [.ref (z + aX 2 0 0)] (fun H => H = H0) none (PL D (z + 4) (kw D z xI [(2, 0, 0), (3, 0, 0)]) H0 (z + aX 2 0 0)) := by
  refine ci_of pn_X10 rfl (le_ rfl) (ls := [(0, .ref (z + aX 2 0 0))]) rfl ?_
  intro p e s m args below meth c E hi2
  refine j_wk (P' := (PL D (z + 3) [((z + aX 2 0 0), .inr (2, [.null, .int 0, .int 0, .int 0, .int 0, .int 0, .int 0]))] H0 (z + aX 2 0 0))) (fun H h => by subst h; exact PL.start hsz h0) ?_
  refine j_aload_n E 0 rfl dX10_init_0 ?_
  refine jp_objInit E ml_X10_3 im_Lib_objectInit cd_Lib_objectInit (le_ rfl) (le_ rfl) dX10_init_1 ?_
  refine j_aload_n E 0 rfl dX10_init_4 ?_
  refine j_sipush E 600 sp_600 dX10_init_5 ?_
  refine jp_newa (A := (z + 3)) (t := 1) (a0 := (600, .inl (fun _ => 0))) (P' := (PL D (z + 4) [((z + aX 2 0 0), .inr (2, [.null, .int 0, .int 0, .int 0, .int 0, .int 0, .int 0])), ((z + 3), .inl (D.2.2.1 1, 600, .inl (fun _ => 0)))] H0 (z + aX 2 0 0))) E ar_byte rfl rfl (fun _ h => h) (fun _ => rfl) (fun H h => h.1) (by decide) tn_600 (le_ rfl) (le_ rfl) (le_ rfl) (fun H H1 h e1 e2 e3 => h.new e1 e2 e3) dX10_init_8 ?_
  refine jp_putF (f := 0) (P' := (PL D (z + 4) [((z + aX 2 0 0), .inr (2, [.ref (z + 3), .int 0, .int 0, .int 0, .int 0, .int 0, .int 0])), ((z + 3), .inl (D.2.2.1 1, 600, .inl (fun _ => 0)))] H0 (z + aX 2 0 0))) E hi2 z_ge (fun H h => h.at 0 rfl) cf_X10 fl_X10_9 (lt_ rfl) ⟨rfl, rfl, rfl⟩ ⟨rfl, rfl⟩ (lt_ rfl) (fun H H1 h e1 e2 e3 => h.put 0 rfl e1 e2 e3) dX10_init_10 ?_
  refine j_wk (P' := (PL D (z + 4) (kw D z xI [(2, 0, 0), (3, 0, 0)]) H0 (z + aX 2 0 0))) (fun H h => h.to rfl) ?_
  exact j_vret E (le_ rfl) (le_ rfl) dX10_init_13
set_option maxRecDepth 20000 in
theorem ci_X8 {l : Launch} {D : DD} {z : Nat} {H0 : Heap} (hsz : H0.size = (z + 2)) (h0 : va_at (gD D) cls ((z + aX 1 0 0), .inr (1, [.null, .null, .int 0, .int 0, .int 0])) H0) : CC l yX8_init cX8_init 1 none (rmk 5 54 970) D z [.ref (z + aX 1 0 0)] (fun H => H = H0) none (PL D (z + 56) (kw D z xI ([(1, 0, 0), (2, 0, 0), (3, 0, 0)] ++ bk 0)) H0 (z + aX 1 0 0)) := by
  refine ci_of pn_X8 rfl (le_ rfl) (ls := [(0, .ref (z + aX 1 0 0))]) rfl ?_
  intro p e s m args below meth c E hi2
  refine j_wk (P' := (PL D (z + 2) [((z + aX 1 0 0), .inr (1, [.null, .null, .int 0, .int 0, .int 0]))] H0 (z + aX 1 0 0))) (fun H h => by subst h; exact PL.start hsz h0) ?_
  refine j_aload_n E 0 rfl dX8_init_0 ?_
  refine jp_objInit E ml_X8_3 im_Lib_objectInit cd_Lib_objectInit (le_ rfl) (le_ rfl) dX8_init_1 ?_
  refine j_aload_n E 0 rfl dX8_init_4 ?_
  refine jp_new (A := (z + 2)) (P' := (PL D (z + 3) [((z + aX 1 0 0), .inr (1, [.null, .null, .int 0, .int 0, .int 0])), ((z + aX 2 0 0), .inr (2, [.null, .int 0, .int 0, .int 0, .int 0, .int 0, .int 0]))] H0 (z + aX 1 0 0))) E cf_X10 cl_X8_9 is_X10 in_X10 (fun H h => h.1) df_X10 (le_ rfl) (le_ rfl) (fun H H1 h e1 e2 e3 => h.new e1 e2 e3) dX8_init_5 ?_
  refine j_dup E rfl dX8_init_8 ?_
  refine j_invIN (P' := (PL D (z + 4) ([((z + aX 1 0 0), .inr (1, [.null, .null, .int 0, .int 0, .int 0]))] ++ kw D z xI [(2, 0, 0), (3, 0, 0)]) H0 (z + aX 1 0 0))) [.ref (z + aX 2 0 0), .ref (z + aX 1 0 0)] E (fun H h => ci_X10 h.1 (h.atm (by simp))) (fun H H1 h h2 => PL.sz (PL.sub (A := (z + aX 2 0 0)) (e := .inr (2, [.null, .int 0, .int 0, .int 0, .int 0, .int 0, .int 0])) (ws := [((z + aX 1 0 0), .inr (1, [.null, .null, .int 0, .int 0, .int 0]))]) (show PL D ((z + aX 2 0 0) + 1) ([((z + aX 1 0 0), .inr (1, [.null, .null, .int 0, .int 0, .int 0]))] ++ [((z + aX 2 0 0), .inr (2, [.null, .int 0, .int 0, .int 0, .int 0, .int 0, .int 0]))]) H0 (z + aX 1 0 0) H from h) h2) rfl) ml_X8_11 mi_X10 rfl ⟨le_ rfl, le_ rfl⟩ rfl (le_ rfl) ⟨le_ rfl, le_ rfl⟩ dX8_init_9 ?_
  refine jp_putF (f := 0) (P' := (PL D (z + 4) ([((z + aX 1 0 0), .inr (1, [.ref (z + aX 2 0 0), .null, .int 0, .int 0, .int 0]))] ++ kw D z xI [(2, 0, 0), (3, 0, 0)]) H0 (z + aX 1 0 0))) E hi2 z_ge (fun H h => h.at 0 rfl) cf_X8 fl_X8_12 (lt_ rfl) ⟨rfl, rfl, rfl⟩ ⟨rfl, rfl⟩ (lt_ rfl) (fun H H1 h e1 e2 e3 => h.put 0 rfl e1 e2 e3) dX8_init_12 ?_
  refine j_aload_n E 0 rfl dX8_init_15 ?_
  refine jp_new (A := (z + 4)) (P' := (PL D (z + 5) ([((z + aX 1 0 0), .inr (1, [.ref (z + aX 2 0 0), .null, .int 0, .int 0, .int 0]))] ++ kw D z xI [(2, 0, 0), (3, 0, 0)] ++ [((z + aX 10 0 0), .inr (4, [.null, .null, .null, .null, .int 0, .int 0, .int 0]))]) H0 (z + aX 1 0 0))) E cf_X0 cl_X8_18 is_X0 in_X0 (fun H h => h.1) df_X0 (le_ rfl) (le_ rfl) (fun H H1 h e1 e2 e3 => h.new e1 e2 e3) dX8_init_16 ?_
  refine j_dup E rfl dX8_init_19 ?_
  refine j_invIN (P' := (PL D (z + 56) ([((z + aX 1 0 0), .inr (1, [.ref (z + aX 2 0 0), .null, .int 0, .int 0, .int 0]))] ++ kw D z xI [(2, 0, 0), (3, 0, 0)] ++ kw D z xI (bk 0)) H0 (z + aX 1 0 0))) [.ref (z + aX 10 0 0), .ref (z + aX 1 0 0)] E (fun H h => ci_X0 (j := 0) h.1 (h.atm (by simp))) (fun H H1 h h2 => PL.sz (PL.sub (A := (z + aX 10 0 0)) (e := .inr (4, [.null, .null, .null, .null, .int 0, .int 0, .int 0])) (ws := ([((z + aX 1 0 0), .inr (1, [.ref (z + aX 2 0 0), .null, .int 0, .int 0, .int 0]))] ++ kw D z xI [(2, 0, 0), (3, 0, 0)])) (show PL D ((z + aX 10 0 0) + 1) (([((z + aX 1 0 0), .inr (1, [.ref (z + aX 2 0 0), .null, .int 0, .int 0, .int 0]))] ++ kw D z xI [(2, 0, 0), (3, 0, 0)]) ++ [((z + aX 10 0 0), .inr (4, [.null, .null, .null, .null, .int 0, .int 0, .int 0]))]) H0 (z + aX 1 0 0) H from h) h2) rfl) ml_X8_20 mi_X0 rfl ⟨le_ rfl, le_ rfl⟩ rfl (le_ rfl) ⟨le_ rfl, le_ rfl⟩ dX8_init_20 ?_
  refine jp_putF (f := 1) (P' := (PL D (z + 56) ([((z + aX 1 0 0), .inr (1, [.ref (z + aX 2 0 0), .ref (z + aX 10 0 0), .int 0, .int 0, .int 0]))] ++ kw D z xI [(2, 0, 0), (3, 0, 0)] ++ kw D z xI (bk 0)) H0 (z + aX 1 0 0))) E hi2 z_ge (fun H h => h.at 0 rfl) cf_X8 fl_X8_21 (lt_ rfl) ⟨rfl, rfl, rfl⟩ ⟨rfl, rfl⟩ (lt_ rfl) (fun H H1 h e1 e2 e3 => h.put 0 rfl e1 e2 e3) dX8_init_23 ?_
  refine j_aload_n E 0 rfl dX8_init_26 ?_
  refine j_iconst E (-1) ic_m1 dX8_init_27 ?_
  refine jp_put (f := 4) (P' := (PL D (z + 56) ([((z + aX 1 0 0), .inr (1, [.ref (z + aX 2 0 0), .ref (z + aX 10 0 0), .int 0, .int 0, .int (-1)]))] ++ kw D z xI [(2, 0, 0), (3, 0, 0)] ++ kw D z xI (bk 0)) H0 (z + aX 1 0 0))) E z_ge (fun H h => h.at 0 rfl) cf_X8 fl_X8_25 (lt_ rfl) ⟨rfl, rfl⟩ (fit_i _) (lt_ rfl) (fun H H1 h e1 e2 e3 => h.put 0 rfl e1 e2 e3) dX8_init_28 ?_
  refine j_wk (P' := (PL D (z + 56) (kw D z xI ([(1, 0, 0), (2, 0, 0), (3, 0, 0)] ++ bk 0)) H0 (z + aX 1 0 0))) (fun H h => h.to rfl) ?_
  exact j_vret E (le_ rfl) (le_ rfl) dX8_init_31
theorem bs_h {i : Nat} (h : i < 6) : bsX (2 + i) = 110 + 52 * i := by
  match i, h with
  | 0, _ => rfl
  | 1, _ => rfl
  | 2, _ => rfl
  | 3, _ => rfl
  | 4, _ => rfl
  | 5, _ => rfl
theorem ad_h {i : Nat} (h : i < 6) : aX 10 (2 + i) 0 = 110 + 52 * i := by
  rw [aX_b (by decide), bs_h h]
  rfl
theorem bs_s {i : Nat} (h : i < 2) : bsX (8 + i) = 423 + 52 * i := by
  match i, h with
  | 0, _ => rfl
  | 1, _ => rfl
theorem ad_s {i : Nat} (h : i < 2) : aX 10 (8 + i) 0 = 423 + 52 * i := by
  rw [aX_b (by decide), bs_s h]
  rfl
set_option maxRecDepth 20000 in
theorem lp_X4_15 {p : Program} {l : Launch} {e : Env} {s : State} {m : MethodId} {args : Array Value} {below : List Frame} {meth : Method} {c : Code} {D : DD} {z : Nat} {H0 : Heap} {Q : State → Prop} (E : Cx p s m args meth c D z RX4 cX4_init 2 none) (hx : J p l e (rmk 5 313 2184) s m args below meth c D z (PL D (z + (110 + 52 * 6)) ([((z + aX 4 0 0), .inr (3, [.ref (z + aX 5 0 0), .int 0, .int 0]))] ++ ((z + aX 5 0 0), .inl (D.2.2.1 7, 6, .inr (.inr (.inr (.inr (afn (fun q => z + aX 10 (2 + q) 0) 6)))))) :: ([] ++ famL (fun q => kw D z xI (bk (2 + q))) 6)) H0 (z + aX 4 0 0)) (1 + 52 * 6) (6 + 363 * 6) Q 2 40 [(0, .ref (z + aX 4 0 0)), (1, .int (nI 6))] []) : ∀ r i : Nat, i + r = 6 → J p l e (rmk 5 313 2184) s m args below meth c D z (PL D (z + (110 + 52 * i)) ([((z + aX 4 0 0), .inr (3, [.ref (z + aX 5 0 0), .int 0, .int 0]))] ++ ((z + aX 5 0 0), .inl (D.2.2.1 7, 6, .inr (.inr (.inr (.inr (afn (fun q => z + aX 10 (2 + q) 0) i)))))) :: ([] ++ famL (fun q => kw D z xI (bk (2 + q))) i)) H0 (z + aX 4 0 0)) (1 + 52 * i) (6 + 363 * i) Q 2 15 [(0, .ref (z + aX 4 0 0)), (1, .int (nI i))] [] := by
  intro r
  induction r with
  | zero =>
    intro i hi
    have hi : i = 6 := by omega
    subst hi
    refine j_iload_n E 1 rfl dX4_init_15 ?_
    refine j_bipush E 6 bp_6 dX4_init_16 ?_
    exact j_icmp_ge E 40 (by decide) dX4_init_18 (fun _ => hx) (fun q => absurd (by decide) q)
  | succ r ih =>
    intro i hi
    have hlt : i < 6 := by omega
    refine j_iload_n E 1 rfl dX4_init_15 ?_
    refine j_bipush E 6 bp_6 dX4_init_16 ?_
    refine j_icmp_ge E 40 (by decide) dX4_init_18 (fun q => absurd q (nI_ge (b := 6) hlt (by decide))) (fun _ => ?_)
    refine j_aload_n E 0 rfl dX4_init_21 ?_
    refine jp_get (f := 0) E (fun H h => h.at 0 rfl) cf_X4 fl_X4_11 (lt_ rfl) rfl rfl dX4_init_22 ?_
    refine j_iload_n E 1 rfl dX4_init_25 ?_
    refine jp_new (A := (z + aX 10 (2 + i) 0)) (P' := PL D ((z + aX 10 (2 + i) 0) + 1) (([((z + aX 4 0 0), .inr (3, [.ref (z + aX 5 0 0), .int 0, .int 0]))] ++ ((z + aX 5 0 0), .inl (D.2.2.1 7, 6, .inr (.inr (.inr (.inr (afn (fun q => z + aX 10 (2 + q) 0) i)))))) :: ([] ++ famL (fun q => kw D z xI (bk (2 + q))) i)) ++ [((z + aX 10 (2 + i) 0), .inr (4, [.null, .null, .null, .null, .int 0, .int 0, .int 0]))]) H0 (z + aX 4 0 0)) E cf_X0 cl_X4_9 is_X0 in_X0 (fun H h => h.1.trans (by rw [ad_h hlt])) df_X0 (by show (1 + 52 * i) + 1 ≤ 313; omega) (by show (6 + 363 * i) + 7 ≤ 2184; omega) (fun H H1 h e1 e2 e3 => PL.new (PL.sz h (by rw [ad_h hlt])) e1 e2 e3) dX4_init_26 ?_
    refine j_dup E rfl dX4_init_29 ?_
    refine j_invIN (P' := (PL D (z + (bsX (2 + i) + 52)) (([((z + aX 4 0 0), .inr (3, [.ref (z + aX 5 0 0), .int 0, .int 0]))] ++ ((z + aX 5 0 0), .inl (D.2.2.1 7, 6, .inr (.inr (.inr (.inr (afn (fun q => z + aX 10 (2 + q) 0) i)))))) :: ([] ++ famL (fun q => kw D z xI (bk (2 + q))) i)) ++ (fun q => kw D z xI (bk (2 + q))) i) H0 (z + aX 4 0 0))) [.ref (z + aX 10 (2 + i) 0), .int (nI i), .ref (z + aX 5 0 0)] E (fun H h => ci_X0 (j := (2 + i)) h.1 (h.atm (List.mem_append_right _ List.mem_cons_self))) (fun H H1 h h2 => PL.sub (A := (z + aX 10 (2 + i) 0)) (e := .inr (4, [.null, .null, .null, .null, .int 0, .int 0, .int 0])) (ws := ([((z + aX 4 0 0), .inr (3, [.ref (z + aX 5 0 0), .int 0, .int 0]))] ++ ((z + aX 5 0 0), .inl (D.2.2.1 7, 6, .inr (.inr (.inr (.inr (afn (fun q => z + aX 10 (2 + q) 0) i)))))) :: ([] ++ famL (fun q => kw D z xI (bk (2 + q))) i))) (show PL D ((z + aX 10 (2 + i) 0) + 1) (([((z + aX 4 0 0), .inr (3, [.ref (z + aX 5 0 0), .int 0, .int 0]))] ++ ((z + aX 5 0 0), .inl (D.2.2.1 7, 6, .inr (.inr (.inr (.inr (afn (fun q => z + aX 10 (2 + q) 0) i)))))) :: ([] ++ famL (fun q => kw D z xI (bk (2 + q))) i)) ++ [((z + aX 10 (2 + i) 0), .inr (4, [.null, .null, .null, .null, .int 0, .int 0, .int 0]))]) H0 (z + aX 4 0 0) H from h) h2) ml_X4_17 mi_X0 rfl ⟨le_ rfl, le_ rfl⟩ rfl (le_ rfl) ⟨by show (1 + 52 * i) + 1 + 51 ≤ 313; omega, by show (6 + 363 * i) + 7 + 356 ≤ 2184; omega⟩ dX4_init_30 ?_
    refine jp_aast (t := 7) (ci := 4) (vs := (fs10 z (2 + i) (xI 10 (2 + i) 0))) (f := afn (fun q => z + aX 10 (2 + q) 0) i) (P' := (PL D (z + (110 + 52 * (i + 1))) ([((z + aX 4 0 0), .inr (3, [.ref (z + aX 5 0 0), .int 0, .int 0]))] ++ ((z + aX 5 0 0), .inl (D.2.2.1 7, 6, .inr (.inr (.inr (.inr (afn (fun q => z + aX 10 (2 + q) 0) (i + 1))))))) :: ([] ++ famL (fun q => kw D z xI (bk (2 + q))) (i + 1))) H0 (z + aX 4 0 0))) E z_ge (fun H h => h.at 1 rfl) rfl (fun H h => h.atm (List.mem_append_right _ List.mem_cons_self)) rfl (by rw [ad_h hlt]; show z + 109 ≠ _; omega) (vp_in_nI hlt (by decide)) i (nI_clamp (by omega)) (fun H H1 h e1 e2 e3 => PL.sz (iv_step (x := (0, .inl (0, 0, .inl (fun _ => 0)))) (pre := [((z + aX 4 0 0), .inr (3, [.ref (z + aX 5 0 0), .int 0, .int 0]))]) (mid := []) (mk := fun f => .inl (D.2.2.1 7, 6, .inr (.inr (.inr (.inr f))))) (f := (fun q => z + aX 10 (2 + q) 0)) (G := (fun q => kw D z xI (bk (2 + q)))) (iv_put (by simpa only [List.append_assoc, List.cons_append] using h) e1 e2 e3)) (by rw [bs_h hlt]; omega)) dX4_init_33 ?_
    refine j_iinc (ls' := [(1, .int (nI (i + 1))), (0, .ref (z + aX 4 0 0))]) E 1 rfl (lt_ rfl) (nI (i + 1)) ((congrArg (fun q => nI i + q) ic_1).trans (nI_succ i).symm) rfl dX4_init_34 ?_
    refine j_goto E 15 (by decide) dX4_init_37 ?_
    refine j_sub [1, 0] rfl ?_
    exact j_widen (by show (1 + 52 * i) + 1 + 51 ≤ (1 + 52 * (i + 1)); omega) (by show (6 + 363 * i) + 7 + 356 ≤ (6 + 363 * (i + 1)); omega) (ih (i + 1) (by omega))
set_option maxRecDepth 20000 in
theorem ci_X4 {l : Launch} {D : DD} {z : Nat} {H0 : Heap} (hsz : H0.size = (z + 109)) (h0 : va_at (gD D) cls ((z + aX 4 0 0), .inr (3, [.null, .int 0, .int 0])) H0) : CC l yX4_init cX4_init 2 none (rmk 5 313 2184) D z [.ref (z + aX 4 0 0)] (fun H => H = H0) none (PL D (z + 422) (kw D z xI ([(4, 0, 0), (5, 0, 0)] ++ (List.range 6).flatMap (fun i => bk (2 + i)))) H0 (z + aX 4 0 0)) := by
  refine ci_of pn_X4 rfl (le_ rfl) (ls := [(0, .ref (z + aX 4 0 0))]) rfl ?_
  intro p e s m args below meth c E hi2
  refine j_wk (P' := (PL D (z + 109) [((z + aX 4 0 0), .inr (3, [.null, .int 0, .int 0]))] H0 (z + aX 4 0 0))) (fun H h => by subst h; exact PL.start hsz h0) ?_
  refine j_aload_n E 0 rfl dX4_init_0 ?_
  refine jp_objInit E ml_X4_3 im_Lib_objectInit cd_Lib_objectInit (le_ rfl) (le_ rfl) dX4_init_1 ?_
  refine j_aload_n E 0 rfl dX4_init_4 ?_
  refine j_bipush E 6 bp_6 dX4_init_5 ?_
  refine jp_anew (A := (z + 109)) (t := 7) (P' := (PL D (z + 110) [((z + aX 4 0 0), .inr (3, [.null, .int 0, .int 0])), ((z + aX 5 0 0), .inl (D.2.2.1 7, 6, .inr (.inr (.inr (.inr (fun _ => none))))))] H0 (z + aX 4 0 0))) E cl_X4_9 (by decide) rfl (fun H h => h.1) (by decide) tn_6 (le_ rfl) (le_ rfl) (le_ rfl) (fun H H1 h e1 e2 e3 => h.new e1 e2 e3) dX4_init_7 ?_
  refine jp_putF (f := 0) (P' := (PL D (z + 110) [((z + aX 4 0 0), .inr (3, [.ref (z + aX 5 0 0), .int 0, .int 0])), ((z + aX 5 0 0), .inl (D.2.2.1 7, 6, .inr (.inr (.inr (.inr (fun _ => none))))))] H0 (z + aX 4 0 0))) E hi2 z_ge (fun H h => h.at 0 rfl) cf_X4 fl_X4_11 (lt_ rfl) ⟨rfl, rfl, rfl⟩ ⟨rfl, rfl⟩ (lt_ rfl) (fun H H1 h e1 e2 e3 => h.put 0 rfl e1 e2 e3) dX4_init_10 ?_
  refine j_iconst E 0 ic_0 dX4_init_13 ?_
  refine j_istore_n (ls' := [(1, .int (nI 0)), (0, .ref (z + aX 4 0 0))]) E (i := 1) (lt_ rfl) rfl dX4_init_14 ?_
  refine j_sub [1, 0] rfl ?_
  refine j_wk (P' := (PL D (z + (110 + 52 * 0)) ([((z + aX 4 0 0), .inr (3, [.ref (z + aX 5 0 0), .int 0, .int 0]))] ++ ((z + aX 5 0 0), .inl (D.2.2.1 7, 6, .inr (.inr (.inr (.inr (afn (fun q => z + aX 10 (2 + q) 0) 0)))))) :: ([] ++ famL (fun q => kw D z xI (bk (2 + q))) 0)) H0 (z + aX 4 0 0))) (fun H h => PL.sz (h.to (by simp [famL, afn_0])) rfl) ?_
  refine lp_X4_15 E ?_ 6 0 rfl
  refine j_wk (P' := (PL D (z + 422) ([((z + aX 4 0 0), .inr (3, [.ref (z + aX 5 0 0), .int 0, .int 0])), ((z + aX 5 0 0), aref D 7 6 (fun q => z + aX 10 (2 + q) 0))] ++ famL (fun q => kw D z xI (bk (2 + q))) 6) H0 (z + aX 4 0 0))) (fun H h => PL.sz ((iv_chg (pre := [((z + aX 4 0 0), .inr (3, [.ref (z + aX 5 0 0), .int 0, .int 0]))]) h afn_end).to (by simp)) (rfl)) ?_
  refine j_sub [0] rfl ?_
  refine j_wk (P' := (PL D (z + 422) (kw D z xI ([(4, 0, 0), (5, 0, 0)] ++ (List.range 6).flatMap (fun i => bk (2 + i)))) H0 (z + aX 4 0 0))) (fun H h => h.to rfl) ?_
  exact j_vret E (le_ rfl) (le_ rfl) dX4_init_40
theorem uw_J4 : ∀ w ∈ u_ws RJ4 TJ4 4, w ∈ Wall := by decide +kernel
theorem cf_J4 : CF 13 RJ4 TJ4 tyJ4 4 := ⟨rfl, uw_J4, tyJ4_ok, nmJ4⟩
theorem df_J4 : ∀ j, j < 4 → defaultValue (tyJ4 j) = vp_V [.null, .int 0, .int 0, .int 0] j := by
  intro j hj
  match j, hj with
  | 0, _ => rfl
  | 1, _ => rfl
  | 2, _ => rfl
  | 3, _ => rfl
  | q + 4, h => omega
theorem mi_J5 : MI yJ5_init_d00df cJ5_init_d00df 2 1 := ⟨im_J5_init_d00df, in_J5, cd_J5_init_d00df, rfl, by decide +kernel, by decide +kernel, by decide +kernel⟩
theorem mi_J4 : MI yJ4_init_da8c8 cJ4_init_da8c8 1 0 := ⟨im_J4_init_da8c8, in_J4, cd_J4_init_da8c8, rfl, by decide +kernel, by decide +kernel, by decide +kernel⟩
theorem ci_J5 {l : Launch} {D : DD} {z : Nat} {H0 : Heap} (hsz : H0.size = z + 529) (h0 : va_at (gD D) cls (z + 528, .inr (13, [.null, .int 0, .int 0, .int 0])) H0) : CC l yJ5_init_d00df cJ5_init_d00df 2 none (rmk 2 1 16) D z [.ref (z + 528), .int 16] (fun H => H = H0) none (PL D (z + 530) [(z + 528, .inr (13, [.ref (z + 529), .int 0, .int 0, .int 0])), (z + 529, .inl (D.2.2.1 1, 16, .inl (fun _ => 0)))] H0 (z + 528)) := by
  refine ci_of pn_J5 rfl (le_ rfl) (ls := [(0, .ref (z + 528)), (1, .int 16)]) rfl ?_
  intro p e s m args below meth c E hi2
  refine j_wk (P' := PL D (z + 529) [(z + 528, .inr (13, [.null, .int 0, .int 0, .int 0]))] H0 (z + 528)) (fun H h => by subst h; exact PL.start hsz h0) ?_
  refine j_aload_n E 0 rfl dJ5_init_d00df_0 ?_
  refine jp_objInit E ml_J5_3 im_Lib_objectInit cd_Lib_objectInit (le_ rfl) (le_ rfl) dJ5_init_d00df_1 ?_
  refine j_gets E E.2.2.2.2.2.1.Cs fl_J5_18 dJ5_init_d00df_4 ?_
  refine j_if_eq E 25 (by decide) dJ5_init_d00df_7 (fun q => absurd q (by decide)) (fun _ => ?_)
  refine j_aload_n E 0 rfl dJ5_init_d00df_10 ?_
  refine j_iload_n E 1 rfl dJ5_init_d00df_11 ?_
  refine jp_newa (A := z + 529) (t := 1) (a0 := (16, .inl (fun _ => 0))) (P' := PL D (z + 530) [(z + 528, .inr (13, [.null, .int 0, .int 0, .int 0])), (z + 529, .inl (D.2.2.1 1, 16, .inl (fun _ => 0)))] H0 (z + 528)) E ar_byte rfl rfl (fun _ h => h) (fun _ => rfl) (fun H h => h.1) (by decide) tn_16 (le_ rfl) (le_ rfl) (le_ rfl) (fun H H1 h e1 e2 e3 => h.new e1 e2 e3) dJ5_init_d00df_12 ?_
  refine jp_put (f := 0) (P' := PL D (z + 530) [(z + 528, .inr (13, [.ref (z + 529), .int 0, .int 0, .int 0])), (z + 529, .inl (D.2.2.1 1, 16, .inl (fun _ => 0)))] H0 (z + 528)) E z_ge (fun H h => h.at 0 rfl) cf_J4 fl_J5_15 (lt_ rfl) ⟨rfl, rfl⟩ ⟨rfl, rfl⟩ (lt_ rfl) (fun H H1 h e1 e2 e3 => h.put 0 rfl e1 e2 e3) dJ5_init_d00df_14 ?_
  refine j_aload_n E 0 rfl dJ5_init_d00df_17 ?_
  refine j_iconst E 0 ic_0 dJ5_init_d00df_18 ?_
  refine jp_put (f := 1) (P' := PL D (z + 530) [(z + 528, .inr (13, [.ref (z + 529), .int 0, .int 0, .int 0])), (z + 529, .inl (D.2.2.1 1, 16, .inl (fun _ => 0)))] H0 (z + 528)) E z_ge (fun H h => h.at 0 rfl) cf_J4 fl_J5_22 (lt_ rfl) ⟨rfl, rfl⟩ ⟨rfl, rfl⟩ (lt_ rfl) (fun H H1 h e1 e2 e3 => h.put 0 rfl e1 e2 e3) dJ5_init_d00df_19 ?_
  refine j_goto E 38 (by decide) dJ5_init_d00df_22 ?_
  exact j_vret E (le_ rfl) (le_ rfl) dJ5_init_d00df_38
theorem ci_J4 {l : Launch} {D : DD} {z : Nat} {H0 : Heap} (hsz : H0.size = z + 529) (h0 : va_at (gD D) cls (z + 528, .inr (13, [.null, .int 0, .int 0, .int 0])) H0) : CC l yJ4_init_da8c8 cJ4_init_da8c8 1 none (rmk 3 1 16) D z [.ref (z + 528)] (fun H => H = H0) none (PL D (z + 530) [(z + 528, .inr (13, [.ref (z + 529), .int 0, .int 0, .int 0])), (z + 529, .inl (D.2.2.1 1, 16, .inl (fun _ => 0)))] H0 (z + 528)) := by
  refine ci_of pn_J4 rfl (le_ rfl) (ls := [(0, .ref (z + 528))]) rfl ?_
  intro p e s m args below meth c E hi2
  refine j_aload_n E 0 rfl dJ4_init_da8c8_0 ?_
  refine j_bipush E 16 bp_16 dJ4_init_da8c8_1 ?_
  refine j_invI (As := [.int 16]) (rm := rmk 2 1 16) (P2 := fun H => PL D (z + 530) [(z + 528, .inr (13, [.ref (z + 529), .int 0, .int 0, .int 0])), (z + 529, .inl (D.2.2.1 1, 16, .inl (fun _ => 0)))] H (z + 528)) (P' := PL D (z + 530) [(z + 528, .inr (13, [.ref (z + 529), .int 0, .int 0, .int 0])), (z + 529, .inl (D.2.2.1 1, 16, .inl (fun _ => 0)))] H0 (z + 528)) [] E (fun H h => by subst h; exact ci_J5 hsz h0) (fun H H1 h h2 => by subst h; exact h2) ml_J4_1 mi_J5 rfl ⟨le_ rfl, le_ rfl⟩ rfl (le_ rfl) ⟨le_ rfl, le_ rfl⟩ dJ4_init_da8c8_3 ?_
  exact j_vret E (le_ rfl) (le_ rfl) dJ4_init_da8c8_6
