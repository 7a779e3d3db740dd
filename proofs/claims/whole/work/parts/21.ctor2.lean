def famL (G : Nat → va_W) (i : Nat) : va_W := (List.range i).flatMap G
theorem famL_succ (G : Nat → va_W) (i : Nat) : famL G i ++ G i = famL G (i + 1) := by simp [famL, List.range_succ]
theorem iv_step {D : DD} {A t : Nat} {x : Nat × va_E} {pre : va_W} {a : Nat} {mk : (Nat → Option Nat) → va_E} {f : Nat → Nat} {G : Nat → va_W} {i : Nat} {H0 H : Heap} (h : PL D A (pre ++ (a, mk (va_up (afn f i) i (some (f i)))) :: (famL G i ++ G i)) H0 t H) : PL D A (pre ++ (a, mk (afn f (i + 1))) :: famL G (i + 1)) H0 t H := by
  rw [afn_up, famL_succ] at h
  exact h
set_option maxRecDepth 20000 in
theorem lp_X3_15 {p : Program} {l : Launch} {e : Env} {s : State} {m : MethodId} {args : Array Value} {below : List Frame} {meth : Method} {c : Code} {D : DD} {z : Nat} {j : Nat} {H0 : Heap} {Q : State → Prop} (E : Cx p s m args meth c D z RX3 cX3_init 2 none) (hx : J p l e (rmk 3 21 200) s m args below meth c D z (PL D (z + aX 22 j 20) ([((z + aX 20 j 0), .inr (7, [.ref (z + aX 21 j 0), .int 0]))] ++ ((z + aX 21 j 0), .inl (D.2.2.1 4, 20, .inr (.inr (.inr (.inr (afn (fun q => z + aX 22 j q) 20)))))) :: famL (fun q => [(z + aX 22 j q, .inr (8, fs22 (fun _ => 0)))]) 20) H0 (z + aX 20 j 0)) (1 + 1 * 20) (20 + 9 * 20) Q 2 40 [(0, .ref (z + aX 20 j 0)), (1, .int (nI 20))] []) : ∀ r i : Nat, i + r = 20 → J p l e (rmk 3 21 200) s m args below meth c D z (PL D (z + aX 22 j i) ([((z + aX 20 j 0), .inr (7, [.ref (z + aX 21 j 0), .int 0]))] ++ ((z + aX 21 j 0), .inl (D.2.2.1 4, 20, .inr (.inr (.inr (.inr (afn (fun q => z + aX 22 j q) i)))))) :: famL (fun q => [(z + aX 22 j q, .inr (8, fs22 (fun _ => 0)))]) i) H0 (z + aX 20 j 0)) (1 + 1 * i) (20 + 9 * i) Q 2 15 [(0, .ref (z + aX 20 j 0)), (1, .int (nI i))] [] := by
  intro r
  induction r with
  | zero =>
    intro i hi
    have hi : i = 20 := by omega
    subst hi
    refine j_iload_n E 1 rfl dX3_init_15 ?_
    refine j_bipush E 20 bp_20 dX3_init_16 ?_
    exact j_icmp_ge E 40 (by decide) dX3_init_18 (fun _ => hx) (fun q => absurd (by decide) q)
  | succ r ih =>
    intro i hi
    have hlt : i < 20 := by omega
    refine j_iload_n E 1 rfl dX3_init_15 ?_
    refine j_bipush E 20 bp_20 dX3_init_16 ?_
    refine j_icmp_ge E 40 (by decide) dX3_init_18 (fun q => absurd q (nI_ge (b := 20) hlt (by decide))) (fun _ => ?_)
    refine j_aload_n E 0 rfl dX3_init_21 ?_
    refine jp_get (f := 0) E (fun H h => h.at 0 rfl) cf_X3 fl_X3_11 (lt_ rfl) rfl rfl dX3_init_22 ?_
    refine j_iload_n E 1 rfl dX3_init_25 ?_
    refine jp_new (A := (z + aX 22 j i)) (P' := PL D ((z + aX 22 j i) + 1) (([((z + aX 20 j 0), .inr (7, [.ref (z + aX 21 j 0), .int 0]))] ++ ((z + aX 21 j 0), .inl (D.2.2.1 4, 20, .inr (.inr (.inr (.inr (afn (fun q => z + aX 22 j q) i)))))) :: famL (fun q => [(z + aX 22 j q, .inr (8, fs22 (fun _ => 0)))]) i) ++ [((z + aX 22 j i), .inr (8, [.int 0, .int 0, .int 0, .int 0, .int 0, .int 0, .int 0, .int 0, .int 0]))]) H0 (z + aX 20 j 0)) E cf_X6 cl_X3_9 is_X6 in_X6 (fun H h => h.1) df_X6 (by show (1 + 1 * i) + 1 ≤ _; exact (by show _ ≤ 21; omega)) (by show (20 + 9 * i) + 9 ≤ _; exact (by show _ ≤ 200; omega)) (fun H H1 h e1 e2 e3 => h.new e1 e2 e3) dX3_init_26 ?_
    refine j_dup E rfl dX3_init_29 ?_
    refine j_invIN [.ref (z + aX 22 j i), .int (nI i), .ref (z + aX 21 j 0)] E (fun H h => ci_X6) (fun H H1 h h2 => h2 ▸ h) ml_X3_17 mi_X6 rfl ⟨le_ rfl, le_ rfl⟩ rfl (le_ rfl) ⟨by show _ + 0 ≤ _; omega, by show _ + 0 ≤ _; omega⟩ dX3_init_30 ?_
    refine jp_aast (t := 4) (ci := 8) (vs := (fs22 (fun _ => 0))) (f := afn (fun q => z + aX 22 j q) i) (P' := PL D (z + aX 22 j i + 1) ([((z + aX 20 j 0), .inr (7, [.ref (z + aX 21 j 0), .int 0]))] ++ ((z + aX 21 j 0), .inl (D.2.2.1 4, 20, .inr (.inr (.inr (.inr (afn (fun q => z + aX 22 j q) (i + 1))))))) :: famL (fun q => [(z + aX 22 j q, .inr (8, fs22 (fun _ => 0)))]) (i + 1)) H0 (z + aX 20 j 0)) E z_ge (fun H h => h.at 1 rfl) rfl (fun H h => h.atm (by simp)) rfl (by have := aX_b (k := 21) (j := j) (i := 0) (by decide); have := aX_b (k := 22) (j := j) (i := i) (by decide); simp [offX] at *; omega) (vp_in_nI hlt (by decide)) i (nI_clamp (by omega)) (fun H H1 h e1 e2 e3 => iv_step (x := (0, .inl (0, 0, .inl (fun _ => 0)))) (mk := fun f => .inl (D.2.2.1 4, 20, .inr (.inr (.inr (.inr f))))) (f := (fun q => z + aX 22 j q)) (h.put 1 rfl e1 e2 e3)) dX3_init_33 ?_
    refine j_iinc (ls' := [(1, .int (nI (i + 1))), (0, .ref (z + aX 20 j 0))]) E 1 rfl (lt_ rfl) (nI (i + 1)) (nI_succ i).symm rfl dX3_init_34 ?_
    refine j_goto E 15 (by decide) dX3_init_37 ?_
    refine j_sub [1, 0] rfl ?_
    exact j_widen (by omega) (by omega) (ih (i + 1) (by omega))
