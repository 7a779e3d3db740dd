def f_L_load_585 (sc : Nat × (Nat → Int32)) : Nat → XT → Int32 → Option (Int32 × XT)
  | 0, _, _ => none
  | n + 1, X, v3 => if 251 ≤ v3 then (some (1, X)) else (bn1 (f_X11_classBySugar X v3) (fun r1 => bn1 (f_L_grade sc v3) (fun r2 => if r1 = r2 then (f_L_load_585 sc n X (v3 + 7)) else (some (0, X)))))
def f_L_load_542 (sc : Nat × (Nat → Int32)) : Nat → XT → Int32 → Option (Int32 × XT)
  | 0, _, _ => none
  | n + 1, X, v3 => bn1 (f_L_tanks sc) (fun r1 => if r1 ≤ v3 then (f_L_load_585 sc 2000 X 0) else (bn1 (f_X11_content X v3) (fun r2 => if r2 = 0 then (bn1 (f_X11_varietyIn X v3) (fun r3 => if r3 = (-1) then (bn1 (f_X11_meanSugar X v3) (fun r4 => if r4 = 0 then (f_L_load_542 sc n X (v3 + 1)) else (some (0, X)))) else (some (0, X)))) else (some (0, X)))))
def f_L_load_498 (sc : Nat × (Nat → Int32)) : Nat → XT → Int32 → Option (Int32 × XT)
  | 0, _, _ => none
  | n + 1, X, v3 => bn1 (f_L_plots sc) (fun r1 => if r1 ≤ v3 then (f_L_load_542 sc 2000 X 0) else (bn1 (f_X11_yieldLimit X v3) (fun r2 => bn1 (f_L_area sc v3) (fun r3 => bn1 (f_L_yields sc) (fun r4 => if r2 = (r3 * r4) then (bn1 (f_X11_harvested X v3) (fun r5 => if r5 = 0 then (f_L_load_498 sc n X (v3 + 1)) else (some (0, X)))) else (some (0, X)))))))
def f_L_load_456 (X : XT) (sc : Nat × (Nat → Int32)) (v3 : Int32) : Nat → Int32 → Option (Sum Int32 (Unit))
  | 0, _ => none
  | n + 1, v4 => bn1 (f_L_grades sc) (fun r1 => if r1 ≤ v4 then (some (.inr ())) else (bn1 (f_X11_price X v3 v4) (fun r2 => bn1 (f_L_cents sc v3 v4) (fun r3 => if r2 = r3 then (f_L_load_456 X sc v3 n (v4 + 1)) else (some (.inl 0))))))
def f_L_load_445 (sc : Nat × (Nat → Int32)) : Nat → XT → Int32 → Option (Int32 × XT)
  | 0, _, _ => none
  | n + 1, X, v3 => bn1 (f_L_wines sc) (fun r1 => if r1 ≤ v3 then (f_L_load_498 sc 2000 X 0) else (bn1 (f_L_load_456 X sc v3 2000 0) (fun u1 => jn u1 (fun v => some (v, X)) (fun _ => f_L_load_445 sc n X (v3 + 1)))))
def f_L_load_308 (X : XT) (sc : Nat × (Nat → Int32)) : Nat → List Int32 → Int32 → Option (Int32 × XT)
  | 0, _, _ => none
  | n + 1, T, v3 => bn1 (f_L_tanks sc) (fun r1 => if r1 ≤ v3 then (gd (OKT T) (bn1 (f_L_feed X T) (fun X1 => bn2 (f_X11_load X1) (fun r2 X2 => if r2 = 0 then (bn1 (f_X11_errorCode X2) (fun r3 => if r3 = 0 then (bn1 (f_X11_errorOffset X2) (fun r4 => if r4 = (-1) then (bn1 (f_X11_varietyCount X2) (fun r5 => bn1 (f_L_wines sc) (fun r6 => if r5 = r6 then (bn1 (f_X11_classCount X2) (fun r7 => bn1 (f_L_grades sc) (fun r8 => if r7 = r8 then (bn1 (f_X11_growerCount X2) (fun r9 => bn1 (f_L_growers sc) (fun r10 => if r9 = r10 then (bn1 (f_X11_plotCount X2) (fun r11 => bn1 (f_L_plots sc) (fun r12 => if r11 = r12 then (bn1 (f_X11_loadCount X2) (fun r13 => if r13 = 0 then (bn1 (f_X11_lotCount X2) (fun r14 => if r14 = 0 then (bn1 (f_X11_cash X2) (fun r15 => bn1 (f_L_money sc) (fun r16 => if r15 = r16 then (f_L_load_445 sc 2000 X2 0) else (some (0, X2))))) else (some (0, X2)))) else (some (0, X2)))) else (some (0, X2))))) else (some (0, X2))))) else (some (0, X2))))) else (some (0, X2))))) else (some (0, X2)))) else (some (0, X2)))) else (some (0, X2)))))) else (bnd (T ++ strB.getD 30 []) (fun T1 => gd (T1.length ≤ 590 ∧ T.length + 1 ≤ T1.length) (bn1 (f_L_capacity sc v3) (fun r17 => gd (¬ r17 < 0 ∧ r17 < 100000) (bnd (T1 ++ decL r17.toNatClampNeg) (fun T2 => gd (T2.length ≤ 590) (bnd (T2 ++ strB.getD 25 []) (fun T3 => gd (T3.length ≤ 590 ∧ T2.length + 1 ≤ T3.length) (f_L_load_308 X sc n T3 (v3 + 1)))))))))))
def f_L_load_238 (X : XT) (sc : Nat × (Nat → Int32)) : Nat → List Int32 → Int32 → Option (Int32 × XT)
  | 0, _, _ => none
  | n + 1, T, v3 => bn1 (f_L_plots sc) (fun r1 => if r1 ≤ v3 then (f_L_load_308 X sc 2000 T 0) else (bnd (T ++ strB.getD 29 []) (fun T1 => gd (T1.length ≤ 590 ∧ T.length + 1 ≤ T1.length) (bn1 (f_L_owner sc v3) (fun r2 => gd (¬ (r2 < 0 ∨ 4 ≤ r2.toNatClampNeg)) (bnd (T1 ++ strB.getD (groS r2.toNatClampNeg) []) (fun T2 => gd (T2.length ≤ 590 ∧ T1.length + 1 ≤ T2.length) (bnd (T2 ++ strB.getD 23 []) (fun T3 => gd (T3.length ≤ 590 ∧ T2.length + 1 ≤ T3.length) (bn1 (f_L_wine sc v3) (fun r3 => gd (¬ (r3 < 0 ∨ 3 ≤ r3.toNatClampNeg)) (bnd (T3 ++ strB.getD (winS r3.toNatClampNeg) []) (fun T4 => gd (T4.length ≤ 590 ∧ T3.length + 1 ≤ T4.length) (bnd (T4 ++ strB.getD 23 []) (fun T5 => gd (T5.length ≤ 590 ∧ T4.length + 1 ≤ T5.length) (bn1 (f_L_area sc v3) (fun r4 => gd (¬ r4 < 0 ∧ r4 < 100000) (bnd (T5 ++ decL r4.toNatClampNeg) (fun T6 => gd (T6.length ≤ 590) (bnd (T6 ++ strB.getD 25 []) (fun T7 => gd (T7.length ≤ 590 ∧ T6.length + 1 ≤ T7.length) (f_L_load_238 X sc n T7 (v3 + 1)))))))))))))))))))))))
def f_L_load_202 (X : XT) (sc : Nat × (Nat → Int32)) : Nat → List Int32 → Int32 → Option (Int32 × XT)
  | 0, _, _ => none
  | n + 1, T, v3 => bn1 (f_L_growers sc) (fun r1 => if r1 ≤ v3 then (f_L_load_238 X sc 2000 T 0) else (bnd (T ++ strB.getD 28 []) (fun T1 => gd (T1.length ≤ 590 ∧ T.length + 1 ≤ T1.length) (gd (¬ (v3 < 0 ∨ 4 ≤ v3.toNatClampNeg)) (bnd (T1 ++ strB.getD (groS v3.toNatClampNeg) []) (fun T2 => gd (T2.length ≤ 590 ∧ T1.length + 1 ≤ T2.length) (bnd (T2 ++ strB.getD 25 []) (fun T3 => gd (T3.length ≤ 590 ∧ T2.length + 1 ≤ T3.length) (f_L_load_202 X sc n T3 (v3 + 1))))))))))
def f_L_load_134 (sc : Nat × (Nat → Int32)) (v3 : Int32) : Nat → List Int32 → Int32 → Option (List Int32)
  | 0, _, _ => none
  | n + 1, T, v4 => bn1 (f_L_grades sc) (fun r1 => if r1 ≤ v4 then (some T) else (bnd (T ++ strB.getD 27 []) (fun T1 => gd (T1.length ≤ 590 ∧ T.length + 1 ≤ T1.length) (gd (¬ (v3 < 0 ∨ 3 ≤ v3.toNatClampNeg)) (bnd (T1 ++ strB.getD (winS v3.toNatClampNeg) []) (fun T2 => gd (T2.length ≤ 590 ∧ T1.length + 1 ≤ T2.length) (bnd (T2 ++ strB.getD 23 []) (fun T3 => gd (T3.length ≤ 590 ∧ T2.length + 1 ≤ T3.length) (gd (¬ v4 < 0 ∧ v4 < 100000) (bnd (T3 ++ decL v4.toNatClampNeg) (fun T4 => gd (T4.length ≤ 590) (bnd (T4 ++ strB.getD 23 []) (fun T5 => gd (T5.length ≤ 590 ∧ T4.length + 1 ≤ T5.length) (bn1 (f_L_cents sc v3 v4) (fun r2 => gd (¬ r2 < 0 ∧ r2 < 100000) (bnd (T5 ++ decL r2.toNatClampNeg) (fun T6 => gd (T6.length ≤ 590) (bnd (T6 ++ strB.getD 25 []) (fun T7 => gd (T7.length ≤ 590 ∧ T6.length + 1 ≤ T7.length) (f_L_load_134 sc v3 n T7 (v4 + 1)))))))))))))))))))))
def f_L_load_123 (X : XT) (sc : Nat × (Nat → Int32)) : Nat → List Int32 → Int32 → Option (Int32 × XT)
  | 0, _, _ => none
  | n + 1, T, v3 => bn1 (f_L_wines sc) (fun r1 => if r1 ≤ v3 then (f_L_load_202 X sc 2000 T 0) else (bn1 (f_L_load_134 sc v3 2000 T 0) (fun To1 => f_L_load_123 X sc n To1 (v3 + 1))))
def f_L_load_87 (X : XT) (sc : Nat × (Nat → Int32)) : Nat → List Int32 → Int32 → Option (Int32 × XT)
  | 0, _, _ => none
  | n + 1, T, v3 => bn1 (f_L_wines sc) (fun r1 => if r1 ≤ v3 then (f_L_load_123 X sc 2000 T 0) else (bnd (T ++ strB.getD 26 []) (fun T1 => gd (T1.length ≤ 590 ∧ T.length + 1 ≤ T1.length) (gd (¬ (v3 < 0 ∨ 3 ≤ v3.toNatClampNeg)) (bnd (T1 ++ strB.getD (winS v3.toNatClampNeg) []) (fun T2 => gd (T2.length ≤ 590 ∧ T1.length + 1 ≤ T2.length) (bnd (T2 ++ strB.getD 25 []) (fun T3 => gd (T3.length ≤ 590 ∧ T2.length + 1 ≤ T3.length) (f_L_load_87 X sc n T3 (v3 + 1))))))))))
def f_L_load_49 (X : XT) (sc : Nat × (Nat → Int32)) : Nat → List Int32 → Int32 → Option (Int32 × XT)
  | 0, _, _ => none
  | n + 1, T, v3 => bn1 (f_L_grades sc) (fun r1 => if r1 ≤ v3 then (bnd (T ++ strB.getD 25 []) (fun T1 => gd (T1.length ≤ 590 ∧ T.length + 1 ≤ T1.length) (f_L_load_87 X sc 2000 T1 0))) else (bnd (T ++ strB.getD 23 []) (fun T2 => gd (T2.length ≤ 590 ∧ T.length + 1 ≤ T2.length) (bn1 (f_L_lowest sc v3) (fun r2 => gd (¬ r2 < 0 ∧ r2 < 100000) (bnd (T2 ++ decL r2.toNatClampNeg) (fun T3 => gd (T3.length ≤ 590) (f_L_load_49 X sc n T3 (v3 + 1)))))))))
def f_L_load_p (X : XT) (sc : Nat × (Nat → Int32)) (T0 : List Int32) : Option (Int32 × XT) :=
  f_L_load_49 X sc 2000 T0 0
def f_L_load (X : XT) (sc : Nat × (Nat → Int32)) : Option (Int32 × XT) :=
  bnd (([] : List Int32) ++ strB.getD 22 []) (fun T1 => gd (T1.length ≤ 590 ∧ ([] : List Int32).length + 1 ≤ T1.length) (bn1 (f_L_yields sc) (fun r1 => gd (¬ r1 < 0 ∧ r1 < 100000) (bnd (T1 ++ decL r1.toNatClampNeg) (fun T2 => gd (T2.length ≤ 590) (bnd (T2 ++ strB.getD 23 []) (fun T3 => gd (T3.length ≤ 590 ∧ T2.length + 1 ≤ T3.length) (bn1 (f_L_money sc) (fun r2 => gd (¬ r2 < 0 ∧ r2 < 100000) (bnd (T3 ++ decL r2.toNatClampNeg) (fun T4 => gd (T4.length ≤ 590) (bnd (T4 ++ strB.getD 24 []) (fun T5 => gd (T5.length ≤ 590 ∧ T4.length + 1 ≤ T5.length) (gd (OKT T5 ∧ T5.length ≤ 100) (f_L_load_p X sc T5)))))))))))))))
set_option maxRecDepth 20000 in
theorem b_L_load_585 {p : Program} {l : Launch} {e : Env} {s : State} {m : MethodId} {args : Array Value} {below : List Frame} {meth : Method} {c : Code} {D : DD} {z : Nat} {Y : YT} (E : Cx p s m args meth c D z RL cL_load 5 (some .boolean)) {r : Int32} {X' : XT} {PP : Heap → Prop} (hPP : ∀ H, GG D z (X', Y) H → PP H) : ∀ (n : Nat) (X : XT) (v3 : Int32) (hf : f_L_load_585 D.2.2.2.2.2.2.2 n X v3 = some (r, X')), J p l e (rmk 10 640 740000) s m args below meth c D z (GG D z (X, Y)) 640 740000 (MQ below (QC z (some (.int r)) PP) args s (rmk 10 640 740000).cells (rmk 10 640 740000).slots (Az z)) 5 585 [(0, .ref (z + aX 0 0 0)), (1, .ref D.2.2.2.2.2.2.1), (3, .int v3)] [] := by
  intro n
  induction n with
  | zero =>
    intro X v3 hf
    exact none_e hf
  | succ n ih =>
    intro X v3 hf
    rw [f_L_load_585] at hf
    refine j_iload_n E 2 rfl dL_load_585 ?_
    refine j_sipush E 251 sp_251 dL_load_586 ?_
    refine j_icmp_ge E 613 (by decide) dL_load_589 (fun c1 => ?_) (fun c1 => ?_)
    · rw [if_pos c1] at hf
      refine j_iconst E 1 ic_1 dL_load_613 ?_
      cases hf
      refine j_wk (P' := PP) hPP ?_
      exact j_iret E rfl (le_ rfl) (le_ rfl) dL_load_614
    · rw [if_neg c1] at hf
      refine j_aload_n E 0 rfl dL_load_592 ?_
      refine j_iload_n E 2 rfl dL_load_593 ?_
      obtain ⟨r1, h1, hf⟩ := bn1_e hf
      refine j_invV [] [.int r1] E (c_X11_classBySugar h1) ml_L_178 mv_X11_classBySugar rfl ⟨le_ rfl, le_ rfl⟩ (rcX ok0 cf_X11 ent0) rfl rfl (le_ rfl) ⟨le_ rfl, le_ rfl⟩ dL_load_594 ?_
      refine j_aload_n E 1 rfl dL_load_597 ?_
      refine j_iload_n E 2 rfl dL_load_598 ?_
      obtain ⟨r2, h2, hf⟩ := bn1_e hf
      refine j_invS [.int r1] [.int r2, .int r1] E (c_L_grade h2) ml_L_181 ms_L_grade rfl ⟨le_ rfl, le_ rfl⟩ rfl rfl (le_ rfl) ⟨le_ rfl, le_ rfl⟩ dL_load_599 ?_
      refine j_icmp_eq E 607 (by decide) dL_load_602 (fun c2 => ?_) (fun c2 => ?_)
      · rw [if_pos c2] at hf
        refine j_iinc (ls' := [(3, .int (v3 + 7)), (0, .ref (z + aX 0 0 0)), (1, .ref D.2.2.2.2.2.2.1)]) E 2 rfl (lt_ rfl) (v3 + 7) (congrArg (fun q => v3 + q) ic_7) rfl dL_load_607 ?_
        refine j_goto E 585 (by decide) dL_load_610 ?_
        refine j_sub [1, 2, 0] rfl ?_
        exact ih _ _ hf
      · rw [if_neg c2] at hf
        refine j_iconst E 0 ic_0 dL_load_605 ?_
        cases hf
        refine j_wk (P' := PP) hPP ?_
        exact j_iret E rfl (le_ rfl) (le_ rfl) dL_load_606
set_option maxRecDepth 20000 in
theorem b_L_load_542 {p : Program} {l : Launch} {e : Env} {s : State} {m : MethodId} {args : Array Value} {below : List Frame} {meth : Method} {c : Code} {D : DD} {z : Nat} {Y : YT} (E : Cx p s m args meth c D z RL cL_load 5 (some .boolean)) {r : Int32} {X' : XT} {PP : Heap → Prop} (hPP : ∀ H, GG D z (X', Y) H → PP H) : ∀ (n : Nat) (X : XT) (v3 : Int32) (hf : f_L_load_542 D.2.2.2.2.2.2.2 n X v3 = some (r, X')), J p l e (rmk 10 640 740000) s m args below meth c D z (GG D z (X, Y)) 640 740000 (MQ below (QC z (some (.int r)) PP) args s (rmk 10 640 740000).cells (rmk 10 640 740000).slots (Az z)) 5 542 [(0, .ref (z + aX 0 0 0)), (1, .ref D.2.2.2.2.2.2.1), (3, .int v3)] [] := by
  intro n
  induction n with
  | zero =>
    intro X v3 hf
    exact none_e hf
  | succ n ih =>
    intro X v3 hf
    rw [f_L_load_542] at hf
    refine j_iload_n E 2 rfl dL_load_542 ?_
    refine j_aload_n E 1 rfl dL_load_543 ?_
    obtain ⟨r1, h1, hf⟩ := bn1_e hf
    refine j_invS [.int v3] [.int r1, .int v3] E (c_L_tanks h1) ml_L_118 ms_L_tanks rfl ⟨le_ rfl, le_ rfl⟩ rfl rfl (le_ rfl) ⟨le_ rfl, le_ rfl⟩ dL_load_544 ?_
    refine j_icmp_ge E 583 (by decide) dL_load_547 (fun c1 => ?_) (fun c1 => ?_)
    · rw [if_pos c1] at hf
      refine j_iconst E 0 ic_0 dL_load_583 ?_
      refine j_istore_n (ls' := [(3, .int 0), (0, .ref (z + aX 0 0 0)), (1, .ref D.2.2.2.2.2.2.1)]) E (lt_ rfl) rfl dL_load_584 ?_
      refine j_sub [1, 2, 0] rfl ?_
      exact b_L_load_585 E hPP 2000 _ _ hf
    · rw [if_neg c1] at hf
      refine j_aload_n E 0 rfl dL_load_550 ?_
      refine j_iload_n E 2 rfl dL_load_551 ?_
      obtain ⟨r2, h2, hf⟩ := bn1_e hf
      refine j_invV [] [.int r2] E (c_X11_content h2) ml_L_169 mv_X11_content rfl ⟨le_ rfl, le_ rfl⟩ (rcX ok0 cf_X11 ent0) rfl rfl (le_ rfl) ⟨le_ rfl, le_ rfl⟩ dL_load_552 ?_
      refine j_if_ne E 575 (by decide) dL_load_555 (fun c2 => ?_) (fun c2 => ?_)
      · rw [if_neg c2] at hf
        refine j_iconst E 0 ic_0 dL_load_575 ?_
        cases hf
        refine j_wk (P' := PP) hPP ?_
        exact j_iret E rfl (le_ rfl) (le_ rfl) dL_load_576
      · rw [if_pos c2] at hf
        refine j_aload_n E 0 rfl dL_load_558 ?_
        refine j_iload_n E 2 rfl dL_load_559 ?_
        obtain ⟨r3, h3, hf⟩ := bn1_e hf
        refine j_invV [] [.int r3] E (c_X11_varietyIn h3) ml_L_172 mv_X11_varietyIn rfl ⟨le_ rfl, le_ rfl⟩ (rcX ok0 cf_X11 ent0) rfl rfl (le_ rfl) ⟨le_ rfl, le_ rfl⟩ dL_load_560 ?_
        refine j_iconst E (-1) ic_m1 dL_load_563 ?_
        refine j_icmp_ne E 575 (by decide) dL_load_564 (fun c3 => ?_) (fun c3 => ?_)
        · rw [if_neg c3] at hf
          refine j_iconst E 0 ic_0 dL_load_575 ?_
          cases hf
          refine j_wk (P' := PP) hPP ?_
          exact j_iret E rfl (le_ rfl) (le_ rfl) dL_load_576
        · rw [if_pos c3] at hf
          refine j_aload_n E 0 rfl dL_load_567 ?_
          refine j_iload_n E 2 rfl dL_load_568 ?_
          obtain ⟨r4, h4, hf⟩ := bn1_e hf
          refine j_invV [] [.int r4] E (c_X11_meanSugar h4) ml_L_175 mv_X11_meanSugar rfl ⟨le_ rfl, le_ rfl⟩ (rcX ok0 cf_X11 ent0) rfl rfl (le_ rfl) ⟨le_ rfl, le_ rfl⟩ dL_load_569 ?_
          refine j_if_eq E 577 (by decide) dL_load_572 (fun c4 => ?_) (fun c4 => ?_)
          · rw [if_pos c4] at hf
            refine j_iinc (ls' := [(3, .int (v3 + 1)), (0, .ref (z + aX 0 0 0)), (1, .ref D.2.2.2.2.2.2.1)]) E 2 rfl (lt_ rfl) (v3 + 1) (congrArg (fun q => v3 + q) ic_1) rfl dL_load_577 ?_
            refine j_goto E 542 (by decide) dL_load_580 ?_
            refine j_sub [1, 2, 0] rfl ?_
            exact ih _ _ hf
          · rw [if_neg c4] at hf
            refine j_iconst E 0 ic_0 dL_load_575 ?_
            cases hf
            refine j_wk (P' := PP) hPP ?_
            exact j_iret E rfl (le_ rfl) (le_ rfl) dL_load_576
set_option maxRecDepth 20000 in
theorem b_L_load_498 {p : Program} {l : Launch} {e : Env} {s : State} {m : MethodId} {args : Array Value} {below : List Frame} {meth : Method} {c : Code} {D : DD} {z : Nat} {Y : YT} (E : Cx p s m args meth c D z RL cL_load 5 (some .boolean)) {r : Int32} {X' : XT} {PP : Heap → Prop} (hPP : ∀ H, GG D z (X', Y) H → PP H) : ∀ (n : Nat) (X : XT) (v3 : Int32) (hf : f_L_load_498 D.2.2.2.2.2.2.2 n X v3 = some (r, X')), J p l e (rmk 10 640 740000) s m args below meth c D z (GG D z (X, Y)) 640 740000 (MQ below (QC z (some (.int r)) PP) args s (rmk 10 640 740000).cells (rmk 10 640 740000).slots (Az z)) 5 498 [(0, .ref (z + aX 0 0 0)), (1, .ref D.2.2.2.2.2.2.1), (3, .int v3)] [] := by
  intro n
  induction n with
  | zero =>
    intro X v3 hf
    exact none_e hf
  | succ n ih =>
    intro X v3 hf
    rw [f_L_load_498] at hf
    refine j_iload_n E 2 rfl dL_load_498 ?_
    refine j_aload_n E 1 rfl dL_load_499 ?_
    obtain ⟨r1, h1, hf⟩ := bn1_e hf
    refine j_invS [.int v3] [.int r1, .int v3] E (c_L_plots h1) ml_L_104 ms_L_plots rfl ⟨le_ rfl, le_ rfl⟩ rfl rfl (le_ rfl) ⟨le_ rfl, le_ rfl⟩ dL_load_500 ?_
    refine j_icmp_ge E 540 (by decide) dL_load_503 (fun c1 => ?_) (fun c1 => ?_)
    · rw [if_pos c1] at hf
      refine j_iconst E 0 ic_0 dL_load_540 ?_
      refine j_istore_n (ls' := [(3, .int 0), (0, .ref (z + aX 0 0 0)), (1, .ref D.2.2.2.2.2.2.1)]) E (lt_ rfl) rfl dL_load_541 ?_
      refine j_sub [1, 2, 0] rfl ?_
      exact b_L_load_542 E hPP 2000 _ _ hf
    · rw [if_neg c1] at hf
      refine j_aload_n E 0 rfl dL_load_506 ?_
      refine j_iload_n E 2 rfl dL_load_507 ?_
      obtain ⟨r2, h2, hf⟩ := bn1_e hf
      refine j_invV [] [.int r2] E (c_X11_yieldLimit h2) ml_L_163 mv_X11_yieldLimit rfl ⟨le_ rfl, le_ rfl⟩ (rcX ok0 cf_X11 ent0) rfl rfl (le_ rfl) ⟨le_ rfl, le_ rfl⟩ dL_load_508 ?_
      refine j_aload_n E 1 rfl dL_load_511 ?_
      refine j_iload_n E 2 rfl dL_load_512 ?_
      obtain ⟨r3, h3, hf⟩ := bn1_e hf
      refine j_invS [.int r2] [.int r3, .int r2] E (c_L_area h3) ml_L_115 ms_L_area rfl ⟨le_ rfl, le_ rfl⟩ rfl rfl (le_ rfl) ⟨le_ rfl, le_ rfl⟩ dL_load_513 ?_
      refine j_aload_n E 1 rfl dL_load_516 ?_
      obtain ⟨r4, h4, hf⟩ := bn1_e hf
      refine j_invS [.int r3, .int r2] [.int r4, .int r3, .int r2] E (c_L_yields h4) ml_L_66 ms_L_yields rfl ⟨le_ rfl, le_ rfl⟩ rfl rfl (le_ rfl) ⟨le_ rfl, le_ rfl⟩ dL_load_517 ?_
      refine j_imul E dL_load_520 ?_
      refine j_icmp_ne E 532 (by decide) dL_load_521 (fun c2 => ?_) (fun c2 => ?_)
      · rw [if_neg c2] at hf
        refine j_iconst E 0 ic_0 dL_load_532 ?_
        cases hf
        refine j_wk (P' := PP) hPP ?_
        exact j_iret E rfl (le_ rfl) (le_ rfl) dL_load_533
      · rw [if_pos c2] at hf
        refine j_aload_n E 0 rfl dL_load_524 ?_
        refine j_iload_n E 2 rfl dL_load_525 ?_
        obtain ⟨r5, h5, hf⟩ := bn1_e hf
        refine j_invV [] [.int r5] E (c_X11_harvested h5) ml_L_166 mv_X11_harvested rfl ⟨le_ rfl, le_ rfl⟩ (rcX ok0 cf_X11 ent0) rfl rfl (le_ rfl) ⟨le_ rfl, le_ rfl⟩ dL_load_526 ?_
        refine j_if_eq E 534 (by decide) dL_load_529 (fun c3 => ?_) (fun c3 => ?_)
        · rw [if_pos c3] at hf
          refine j_iinc (ls' := [(3, .int (v3 + 1)), (0, .ref (z + aX 0 0 0)), (1, .ref D.2.2.2.2.2.2.1)]) E 2 rfl (lt_ rfl) (v3 + 1) (congrArg (fun q => v3 + q) ic_1) rfl dL_load_534 ?_
          refine j_goto E 498 (by decide) dL_load_537 ?_
          refine j_sub [1, 2, 0] rfl ?_
          exact ih _ _ hf
        · rw [if_neg c3] at hf
          refine j_iconst E 0 ic_0 dL_load_532 ?_
          cases hf
          refine j_wk (P' := PP) hPP ?_
          exact j_iret E rfl (le_ rfl) (le_ rfl) dL_load_533
set_option maxRecDepth 20000 in
theorem b_L_load_456 {p : Program} {l : Launch} {e : Env} {s : State} {m : MethodId} {args : Array Value} {below : List Frame} {meth : Method} {c : Code} {D : DD} {z : Nat} {Y : YT} {X : XT} {v3 : Int32} (E : Cx p s m args meth c D z RL cL_load 5 (some .boolean)) {r : Int32} {X' : XT} {PP : Heap → Prop} (hPP : ∀ H, GG D z (X', Y) H → PP H) {y : Sum Int32 (Unit)} (hr : ∀ v, y = .inl v → r = v ∧ X' = X) (K : ∀ o : Unit, y = .inr o → J p l e (rmk 10 640 740000) s m args below meth c D z (GG D z (X, Y)) 640 740000 (MQ below (QC z (some (.int r)) PP) args s (rmk 10 640 740000).cells (rmk 10 640 740000).slots (Az z)) 5 490 [(0, .ref (z + aX 0 0 0)), (1, .ref D.2.2.2.2.2.2.1), (3, .int v3)] []) : ∀ (n : Nat) (v4 : Int32) (hf : f_L_load_456 X D.2.2.2.2.2.2.2 v3 n v4 = some y), J p l e (rmk 10 640 740000) s m args below meth c D z (GG D z (X, Y)) 640 740000 (MQ below (QC z (some (.int r)) PP) args s (rmk 10 640 740000).cells (rmk 10 640 740000).slots (Az z)) 5 456 [(0, .ref (z + aX 0 0 0)), (1, .ref D.2.2.2.2.2.2.1), (3, .int v3), (4, .int v4)] [] := by
  intro n
  induction n with
  | zero =>
    intro v4 hf
    exact none_e hf
  | succ n ih =>
    intro v4 hf
    rw [f_L_load_456] at hf
    refine j_iload E 3 rfl dL_load_456 ?_
    refine j_aload_n E 1 rfl dL_load_458 ?_
    obtain ⟨r1, h1, hf⟩ := bn1_e hf
    refine j_invS [.int v4] [.int r1, .int v4] E (c_L_grades h1) ml_L_51 ms_L_grades rfl ⟨le_ rfl, le_ rfl⟩ rfl rfl (le_ rfl) ⟨le_ rfl, le_ rfl⟩ dL_load_459 ?_
    refine j_icmp_ge E 490 (by decide) dL_load_462 (fun c1 => ?_) (fun c1 => ?_)
    · rw [if_pos c1] at hf
      cases hf
      refine j_sub [0, 1, 2] rfl ?_
      exact K _ rfl
    · rw [if_neg c1] at hf
      refine j_aload_n E 0 rfl dL_load_465 ?_
      refine j_iload_n E 2 rfl dL_load_466 ?_
      refine j_iload E 3 rfl dL_load_467 ?_
      obtain ⟨r2, h2, hf⟩ := bn1_e hf
      refine j_invV [] [.int r2] E (c_X11_price h2) ml_L_160 mv_X11_price rfl ⟨le_ rfl, le_ rfl⟩ (rcX ok0 cf_X11 ent0) rfl rfl (le_ rfl) ⟨le_ rfl, le_ rfl⟩ dL_load_469 ?_
      refine j_aload_n E 1 rfl dL_load_472 ?_
      refine j_iload_n E 2 rfl dL_load_473 ?_
      refine j_iload E 3 rfl dL_load_474 ?_
      obtain ⟨r3, h3, hf⟩ := bn1_e hf
      refine j_invS [.int r2] [.int r3, .int r2] E (c_L_cents h3) ml_L_96 ms_L_cents rfl ⟨le_ rfl, le_ rfl⟩ rfl rfl (le_ rfl) ⟨le_ rfl, le_ rfl⟩ dL_load_476 ?_
      refine j_icmp_eq E 484 (by decide) dL_load_479 (fun c2 => ?_) (fun c2 => ?_)
      · rw [if_pos c2] at hf
        refine j_iinc (ls' := [(4, .int (v4 + 1)), (0, .ref (z + aX 0 0 0)), (1, .ref D.2.2.2.2.2.2.1), (3, .int v3)]) E 3 rfl (lt_ rfl) (v4 + 1) (congrArg (fun q => v4 + q) ic_1) rfl dL_load_484 ?_
        refine j_goto E 456 (by decide) dL_load_487 ?_
        refine j_sub [1, 2, 3, 0] rfl ?_
        exact ih _ hf
      · rw [if_neg c2] at hf
        refine j_iconst E 0 ic_0 dL_load_482 ?_
        cases hf
        obtain ⟨hf, hf2⟩ := hr _ rfl
        subst hf
        subst hf2
        refine j_wk (P' := PP) hPP ?_
        exact j_iret E rfl (le_ rfl) (le_ rfl) dL_load_483
set_option maxRecDepth 20000 in
theorem b_L_load_445 {p : Program} {l : Launch} {e : Env} {s : State} {m : MethodId} {args : Array Value} {below : List Frame} {meth : Method} {c : Code} {D : DD} {z : Nat} {Y : YT} (E : Cx p s m args meth c D z RL cL_load 5 (some .boolean)) {r : Int32} {X' : XT} {PP : Heap → Prop} (hPP : ∀ H, GG D z (X', Y) H → PP H) : ∀ (n : Nat) (X : XT) (v3 : Int32) (hf : f_L_load_445 D.2.2.2.2.2.2.2 n X v3 = some (r, X')), J p l e (rmk 10 640 740000) s m args below meth c D z (GG D z (X, Y)) 640 740000 (MQ below (QC z (some (.int r)) PP) args s (rmk 10 640 740000).cells (rmk 10 640 740000).slots (Az z)) 5 445 [(0, .ref (z + aX 0 0 0)), (1, .ref D.2.2.2.2.2.2.1), (3, .int v3)] [] := by
  intro n
  induction n with
  | zero =>
    intro X v3 hf
    exact none_e hf
  | succ n ih =>
    intro X v3 hf
    rw [f_L_load_445] at hf
    refine j_iload_n E 2 rfl dL_load_445 ?_
    refine j_aload_n E 1 rfl dL_load_446 ?_
    obtain ⟨r1, h1, hf⟩ := bn1_e hf
    refine j_invS [.int v3] [.int r1, .int v3] E (c_L_wines h1) ml_L_44 ms_L_wines rfl ⟨le_ rfl, le_ rfl⟩ rfl rfl (le_ rfl) ⟨le_ rfl, le_ rfl⟩ dL_load_447 ?_
    refine j_icmp_ge E 496 (by decide) dL_load_450 (fun c1 => ?_) (fun c1 => ?_)
    · rw [if_pos c1] at hf
      refine j_iconst E 0 ic_0 dL_load_496 ?_
      refine j_istore_n (ls' := [(3, .int 0), (0, .ref (z + aX 0 0 0)), (1, .ref D.2.2.2.2.2.2.1)]) E (lt_ rfl) rfl dL_load_497 ?_
      refine j_sub [1, 2, 0] rfl ?_
      exact b_L_load_498 E hPP 2000 _ _ hf
    · rw [if_neg c1] at hf
      refine j_iconst E 0 ic_0 dL_load_453 ?_
      refine j_istore (ls' := [(4, .int 0), (0, .ref (z + aX 0 0 0)), (1, .ref D.2.2.2.2.2.2.1), (3, .int v3)]) E (lt_ rfl) rfl dL_load_454 ?_
      obtain ⟨u1, hu1, hr1⟩ := bn1_e hf
      have K1 : ∀ o1 : Unit, u1 = .inr o1 → J p l e (rmk 10 640 740000) s m args below meth c D z (GG D z (X, Y)) 640 740000 (MQ below (QC z (some (.int r)) PP) args s (rmk 10 640 740000).cells (rmk 10 640 740000).slots (Az z)) 5 490 [(0, .ref (z + aX 0 0 0)), (1, .ref D.2.2.2.2.2.2.1), (3, .int v3)] [] := by
        intro o1 hv
        rw [hv] at hr1
        have hf := jn_s hr1
        refine j_iinc (ls' := [(3, .int (v3 + 1)), (0, .ref (z + aX 0 0 0)), (1, .ref D.2.2.2.2.2.2.1)]) E 2 rfl (lt_ rfl) (v3 + 1) (congrArg (fun q => v3 + q) ic_1) rfl dL_load_490 ?_
        refine j_goto E 445 (by decide) dL_load_493 ?_
        refine j_sub [1, 2, 0] rfl ?_
        exact ih _ _ hf
      refine j_sub [1, 2, 3, 0] rfl ?_
      exact b_L_load_456 E hPP (fun v hv => by rw [hv] at hr1; have hf := jn_n hr1; cases hf; exact ⟨rfl, rfl⟩) K1 2000 _ hu1
set_option maxRecDepth 20000 in
theorem b_L_load_308 {p : Program} {l : Launch} {e : Env} {s : State} {m : MethodId} {args : Array Value} {below : List Frame} {meth : Method} {c : Code} {D : DD} {z u B : Nat} {Y : YT} {X : XT} (E : Cx p s m args meth c D z RL cL_load 5 (some .boolean)) {r : Int32} {X' : XT} {PP : Heap → Prop} (hPP : ∀ H, GG D z (X', Y) H → PP H) : ∀ (n : Nat) (T : List Int32) (hTl : T.length ≤ 590) (v3 : Int32) (hf : f_L_load_308 X D.2.2.2.2.2.2.2 n T v3 = some (r, X')), J p l e (rmk 10 640 740000) s m args below meth c D z (SBW D z B u X Y T) (12 + T.length) (8100 + 1200 * T.length) (MQ below (QC z (some (.int r)) PP) args s (rmk 10 640 740000).cells (rmk 10 640 740000).slots (Az z)) 5 308 [(0, .ref (z + aX 0 0 0)), (1, .ref D.2.2.2.2.2.2.1), (2, .ref u), (3, .int v3)] [] := by
  intro n
  induction n with
  | zero =>
    intro T hTl v3 hf
    exact none_e hf
  | succ n ih =>
    intro T hTl v3 hf
    rw [f_L_load_308] at hf
    refine j_iload_n E 3 rfl dL_load_308 ?_
    refine j_aload_n E 1 rfl dL_load_309 ?_
    obtain ⟨r1, h1, hf⟩ := bn1_e hf
    refine j_invS [.int v3] [.int r1, .int v3] E (c_L_tanks h1) ml_L_118 ms_L_tanks rfl ⟨le_ rfl, le_ rfl⟩ rfl rfl (le_ rfl) ⟨by simp only [rmk]; omega, by simp only [rmk]; omega⟩ dL_load_310 ?_
    refine j_widen (k' := 12 + T.length) (n' := 8100 + 1200 * T.length) (by simp only [rmk]; omega) (by simp only [rmk]; omega) ?_
    refine j_icmp_ge E 342 (by decide) dL_load_313 (fun c1 => ?_) (fun c1 => ?_)
    · rw [if_pos c1] at hf
      refine j_aload_n E 0 rfl dL_load_342 ?_
      refine j_aload_n E 2 rfl dL_load_343 ?_
      obtain ⟨g1, hf⟩ := gd_e hf
      obtain ⟨X1, h2, hf⟩ := bn1_e hf
      refine jl_ts 12 8100 E g1 ml_L_79 ⟨le_ rfl, le_ rfl⟩ ⟨le_ rfl, le_ rfl⟩ (le_ rfl) dL_load_344 (fun A fs hks => ?_)
      refine j_invS [] [] E (c_L_feed hks (fun H h => h.2.2) h2) ml_L_126 ms_L_feed rfl ⟨le_ rfl, le_ rfl⟩ rfl rfl (le_ rfl) ⟨le_ rfl, le_ rfl⟩ dL_load_347 ?_
      refine j_wk (P' := GG D z (X1, Y)) (fun H h => ys_out h) ?_
      refine j_aload_n E 0 rfl dL_load_350 ?_
      obtain ⟨r2, X2, h3, hf⟩ := bn2_e hf
      refine j_invV [] [.int r2] E (c_X11_load h3) ml_L_130 mv_X11_load rfl ⟨le_ rfl, le_ rfl⟩ (rcX ok0 cf_X11 ent0) rfl rfl (le_ rfl) ⟨le_ rfl, le_ rfl⟩ dL_load_351 ?_
      refine j_if_ne E 441 (by decide) dL_load_354 (fun c2 => ?_) (fun c2 => ?_)
      · rw [if_neg c2] at hf
        refine j_iconst E 0 ic_0 dL_load_441 ?_
        cases hf
        refine j_wk (P' := PP) hPP ?_
        exact j_iret E rfl (le_ rfl) (le_ rfl) dL_load_442
      · rw [if_pos c2] at hf
        refine j_aload_n E 0 rfl dL_load_357 ?_
        obtain ⟨r3, h4, hf⟩ := bn1_e hf
        refine j_invV [] [.int r3] E (c_X11_errorCode h4) ml_L_133 mv_X11_errorCode rfl ⟨le_ rfl, le_ rfl⟩ (rcX ok0 cf_X11 ent0) rfl rfl (le_ rfl) ⟨le_ rfl, le_ rfl⟩ dL_load_358 ?_
        refine j_if_ne E 441 (by decide) dL_load_361 (fun c3 => ?_) (fun c3 => ?_)
        · rw [if_neg c3] at hf
          refine j_iconst E 0 ic_0 dL_load_441 ?_
          cases hf
          refine j_wk (P' := PP) hPP ?_
          exact j_iret E rfl (le_ rfl) (le_ rfl) dL_load_442
        · rw [if_pos c3] at hf
          refine j_aload_n E 0 rfl dL_load_364 ?_
          obtain ⟨r4, h5, hf⟩ := bn1_e hf
          refine j_invV [] [.int r4] E (c_X11_errorOffset h5) ml_L_136 mv_X11_errorOffset rfl ⟨le_ rfl, le_ rfl⟩ (rcX ok0 cf_X11 ent0) rfl rfl (le_ rfl) ⟨le_ rfl, le_ rfl⟩ dL_load_365 ?_
          refine j_iconst E (-1) ic_m1 dL_load_368 ?_
          refine j_icmp_ne E 441 (by decide) dL_load_369 (fun c4 => ?_) (fun c4 => ?_)
          · rw [if_neg c4] at hf
            refine j_iconst E 0 ic_0 dL_load_441 ?_
            cases hf
            refine j_wk (P' := PP) hPP ?_
            exact j_iret E rfl (le_ rfl) (le_ rfl) dL_load_442
          · rw [if_pos c4] at hf
            refine j_aload_n E 0 rfl dL_load_372 ?_
            obtain ⟨r5, h6, hf⟩ := bn1_e hf
            refine j_invV [] [.int r5] E (c_X11_varietyCount h6) ml_L_139 mv_X11_varietyCount rfl ⟨le_ rfl, le_ rfl⟩ (rcX ok0 cf_X11 ent0) rfl rfl (le_ rfl) ⟨le_ rfl, le_ rfl⟩ dL_load_373 ?_
            refine j_aload_n E 1 rfl dL_load_376 ?_
            obtain ⟨r6, h7, hf⟩ := bn1_e hf
            refine j_invS [.int r5] [.int r6, .int r5] E (c_L_wines h7) ml_L_44 ms_L_wines rfl ⟨le_ rfl, le_ rfl⟩ rfl rfl (le_ rfl) ⟨le_ rfl, le_ rfl⟩ dL_load_377 ?_
            refine j_icmp_ne E 441 (by decide) dL_load_380 (fun c5 => ?_) (fun c5 => ?_)
            · rw [if_neg c5] at hf
              refine j_iconst E 0 ic_0 dL_load_441 ?_
              cases hf
              refine j_wk (P' := PP) hPP ?_
              exact j_iret E rfl (le_ rfl) (le_ rfl) dL_load_442
            · rw [if_pos c5] at hf
              refine j_aload_n E 0 rfl dL_load_383 ?_
              obtain ⟨r7, h8, hf⟩ := bn1_e hf
              refine j_invV [] [.int r7] E (c_X11_classCount h8) ml_L_142 mv_X11_classCount rfl ⟨le_ rfl, le_ rfl⟩ (rcX ok0 cf_X11 ent0) rfl rfl (le_ rfl) ⟨le_ rfl, le_ rfl⟩ dL_load_384 ?_
              refine j_aload_n E 1 rfl dL_load_387 ?_
              obtain ⟨r8, h9, hf⟩ := bn1_e hf
              refine j_invS [.int r7] [.int r8, .int r7] E (c_L_grades h9) ml_L_51 ms_L_grades rfl ⟨le_ rfl, le_ rfl⟩ rfl rfl (le_ rfl) ⟨le_ rfl, le_ rfl⟩ dL_load_388 ?_
              refine j_icmp_ne E 441 (by decide) dL_load_391 (fun c6 => ?_) (fun c6 => ?_)
              · rw [if_neg c6] at hf
                refine j_iconst E 0 ic_0 dL_load_441 ?_
                cases hf
                refine j_wk (P' := PP) hPP ?_
                exact j_iret E rfl (le_ rfl) (le_ rfl) dL_load_442
              · rw [if_pos c6] at hf
                refine j_aload_n E 0 rfl dL_load_394 ?_
                obtain ⟨r9, h10, hf⟩ := bn1_e hf
                refine j_invV [] [.int r9] E (c_X11_growerCount h10) ml_L_145 mv_X11_growerCount rfl ⟨le_ rfl, le_ rfl⟩ (rcX ok0 cf_X11 ent0) rfl rfl (le_ rfl) ⟨le_ rfl, le_ rfl⟩ dL_load_395 ?_
                refine j_aload_n E 1 rfl dL_load_398 ?_
                obtain ⟨r10, h11, hf⟩ := bn1_e hf
                refine j_invS [.int r9] [.int r10, .int r9] E (c_L_growers h11) ml_L_48 ms_L_growers rfl ⟨le_ rfl, le_ rfl⟩ rfl rfl (le_ rfl) ⟨le_ rfl, le_ rfl⟩ dL_load_399 ?_
                refine j_icmp_ne E 441 (by decide) dL_load_402 (fun c7 => ?_) (fun c7 => ?_)
                · rw [if_neg c7] at hf
                  refine j_iconst E 0 ic_0 dL_load_441 ?_
                  cases hf
                  refine j_wk (P' := PP) hPP ?_
                  exact j_iret E rfl (le_ rfl) (le_ rfl) dL_load_442
                · rw [if_pos c7] at hf
                  refine j_aload_n E 0 rfl dL_load_405 ?_
                  obtain ⟨r11, h12, hf⟩ := bn1_e hf
                  refine j_invV [] [.int r11] E (c_X11_plotCount h12) ml_L_148 mv_X11_plotCount rfl ⟨le_ rfl, le_ rfl⟩ (rcX ok0 cf_X11 ent0) rfl rfl (le_ rfl) ⟨le_ rfl, le_ rfl⟩ dL_load_406 ?_
                  refine j_aload_n E 1 rfl dL_load_409 ?_
                  obtain ⟨r12, h13, hf⟩ := bn1_e hf
                  refine j_invS [.int r11] [.int r12, .int r11] E (c_L_plots h13) ml_L_104 ms_L_plots rfl ⟨le_ rfl, le_ rfl⟩ rfl rfl (le_ rfl) ⟨le_ rfl, le_ rfl⟩ dL_load_410 ?_
                  refine j_icmp_ne E 441 (by decide) dL_load_413 (fun c8 => ?_) (fun c8 => ?_)
                  · rw [if_neg c8] at hf
                    refine j_iconst E 0 ic_0 dL_load_441 ?_
                    cases hf
                    refine j_wk (P' := PP) hPP ?_
                    exact j_iret E rfl (le_ rfl) (le_ rfl) dL_load_442
                  · rw [if_pos c8] at hf
                    refine j_aload_n E 0 rfl dL_load_416 ?_
                    obtain ⟨r13, h14, hf⟩ := bn1_e hf
                    refine j_invV [] [.int r13] E (c_X11_loadCount h14) ml_L_151 mv_X11_loadCount rfl ⟨le_ rfl, le_ rfl⟩ (rcX ok0 cf_X11 ent0) rfl rfl (le_ rfl) ⟨le_ rfl, le_ rfl⟩ dL_load_417 ?_
                    refine j_if_ne E 441 (by decide) dL_load_420 (fun c9 => ?_) (fun c9 => ?_)
                    · rw [if_neg c9] at hf
                      refine j_iconst E 0 ic_0 dL_load_441 ?_
                      cases hf
                      refine j_wk (P' := PP) hPP ?_
                      exact j_iret E rfl (le_ rfl) (le_ rfl) dL_load_442
                    · rw [if_pos c9] at hf
                      refine j_aload_n E 0 rfl dL_load_423 ?_
                      obtain ⟨r14, h15, hf⟩ := bn1_e hf
                      refine j_invV [] [.int r14] E (c_X11_lotCount h15) ml_L_154 mv_X11_lotCount rfl ⟨le_ rfl, le_ rfl⟩ (rcX ok0 cf_X11 ent0) rfl rfl (le_ rfl) ⟨le_ rfl, le_ rfl⟩ dL_load_424 ?_
                      refine j_if_ne E 441 (by decide) dL_load_427 (fun c10 => ?_) (fun c10 => ?_)
                      · rw [if_neg c10] at hf
                        refine j_iconst E 0 ic_0 dL_load_441 ?_
                        cases hf
                        refine j_wk (P' := PP) hPP ?_
                        exact j_iret E rfl (le_ rfl) (le_ rfl) dL_load_442
                      · rw [if_pos c10] at hf
                        refine j_aload_n E 0 rfl dL_load_430 ?_
                        obtain ⟨r15, h16, hf⟩ := bn1_e hf
                        refine j_invV [] [.int r15] E (c_X11_cash h16) ml_L_157 mv_X11_cash rfl ⟨le_ rfl, le_ rfl⟩ (rcX ok0 cf_X11 ent0) rfl rfl (le_ rfl) ⟨le_ rfl, le_ rfl⟩ dL_load_431 ?_
                        refine j_aload_n E 1 rfl dL_load_434 ?_
                        obtain ⟨r16, h17, hf⟩ := bn1_e hf
                        refine j_invS [.int r15] [.int r16, .int r15] E (c_L_money h17) ml_L_74 ms_L_money rfl ⟨le_ rfl, le_ rfl⟩ rfl rfl (le_ rfl) ⟨le_ rfl, le_ rfl⟩ dL_load_435 ?_
                        refine j_icmp_eq E 443 (by decide) dL_load_438 (fun c11 => ?_) (fun c11 => ?_)
                        · rw [if_pos c11] at hf
                          refine j_iconst E 0 ic_0 dL_load_443 ?_
                          refine j_istore_n (ls' := [(3, .int 0), (0, .ref (z + aX 0 0 0)), (1, .ref D.2.2.2.2.2.2.1), (2, .ref u)]) E (lt_ rfl) rfl dL_load_444 ?_
                          refine j_sub [1, 2, 0] rfl ?_
                          exact b_L_load_445 E hPP 2000 _ _ hf
                        · rw [if_neg c11] at hf
                          refine j_iconst E 0 ic_0 dL_load_441 ?_
                          cases hf
                          refine j_wk (P' := PP) hPP ?_
                          exact j_iret E rfl (le_ rfl) (le_ rfl) dL_load_442
    · rw [if_neg c1] at hf
      refine j_aload_n E 2 rfl dL_load_316 ?_
      refine j_ldcS E sl_L_121 sc_L_121 dL_load_317 ?_
      obtain ⟨T1, hT1, hf⟩ := bnd_e hf
      obtain ⟨g2, hf⟩ := gd_e hf
      refine jl_apK 12 8100 E (lt_ rfl) hT1 g2 ml_L_63 ⟨le_ rfl, le_ rfl⟩ ⟨le_ rfl, le_ rfl⟩ (le_ rfl) dL_load_319 ?_
      refine j_aload_n E 1 rfl dL_load_322 ?_
      refine j_iload_n E 3 rfl dL_load_323 ?_
      obtain ⟨r17, h18, hf⟩ := bn1_e hf
      refine j_invS [.ref u] [.int r17, .ref u] E (c_L_capacity h18) ml_L_123 ms_L_capacity rfl ⟨le_ rfl, le_ rfl⟩ rfl rfl (le_ rfl) ⟨by simp only [rmk]; omega, by simp only [rmk]; omega⟩ dL_load_324 ?_
      refine j_widen (k' := 12 + T1.length) (n' := 8100 + 1200 * T1.length) (by simp only [rmk]; omega) (by simp only [rmk]; omega) ?_
      obtain ⟨g4, hf⟩ := gd_e hf
      obtain ⟨T2, hT2, hf⟩ := bnd_e hf
      obtain ⟨g3, hf⟩ := gd_e hf
      refine jl_apI 12 8100 E g4 hT2 g3 ml_L_69 ⟨le_ rfl, le_ rfl⟩ ⟨le_ rfl, le_ rfl⟩ (le_ rfl) dL_load_327 ?_
      refine j_ldcS E sl_L_86 sc_L_86 dL_load_330 ?_
      obtain ⟨T3, hT3, hf⟩ := bnd_e hf
      obtain ⟨g5, hf⟩ := gd_e hf
      refine jl_apK 12 8100 E (lt_ rfl) hT3 g5 ml_L_63 ⟨le_ rfl, le_ rfl⟩ ⟨le_ rfl, le_ rfl⟩ (le_ rfl) dL_load_332 ?_
      refine j_pop E rfl dL_load_335 ?_
      refine j_iinc (ls' := [(3, .int (v3 + 1)), (0, .ref (z + aX 0 0 0)), (1, .ref D.2.2.2.2.2.2.1), (2, .ref u)]) E 3 rfl (lt_ rfl) (v3 + 1) (congrArg (fun q => v3 + q) ic_1) rfl dL_load_336 ?_
      refine j_goto E 308 (by decide) dL_load_339 ?_
      refine j_sub [1, 2, 3, 0] rfl ?_
      exact ih _ (by omega) _ hf
set_option maxRecDepth 20000 in
theorem b_L_load_238 {p : Program} {l : Launch} {e : Env} {s : State} {m : MethodId} {args : Array Value} {below : List Frame} {meth : Method} {c : Code} {D : DD} {z u B : Nat} {Y : YT} {X : XT} (E : Cx p s m args meth c D z RL cL_load 5 (some .boolean)) {r : Int32} {X' : XT} {PP : Heap → Prop} (hPP : ∀ H, GG D z (X', Y) H → PP H) : ∀ (n : Nat) (T : List Int32) (hTl : T.length ≤ 590) (v3 : Int32) (hf : f_L_load_238 X D.2.2.2.2.2.2.2 n T v3 = some (r, X')), J p l e (rmk 10 640 740000) s m args below meth c D z (SBW D z B u X Y T) (12 + T.length) (8100 + 1200 * T.length) (MQ below (QC z (some (.int r)) PP) args s (rmk 10 640 740000).cells (rmk 10 640 740000).slots (Az z)) 5 238 [(0, .ref (z + aX 0 0 0)), (1, .ref D.2.2.2.2.2.2.1), (2, .ref u), (3, .int v3)] [] := by
  intro n
  induction n with
  | zero =>
    intro T hTl v3 hf
    exact none_e hf
  | succ n ih =>
    intro T hTl v3 hf
    rw [f_L_load_238] at hf
    refine j_iload_n E 3 rfl dL_load_238 ?_
    refine j_aload_n E 1 rfl dL_load_239 ?_
    obtain ⟨r1, h1, hf⟩ := bn1_e hf
    refine j_invS [.int v3] [.int r1, .int v3] E (c_L_plots h1) ml_L_104 ms_L_plots rfl ⟨le_ rfl, le_ rfl⟩ rfl rfl (le_ rfl) ⟨by simp only [rmk]; omega, by simp only [rmk]; omega⟩ dL_load_240 ?_
    refine j_widen (k' := 12 + T.length) (n' := 8100 + 1200 * T.length) (by simp only [rmk]; omega) (by simp only [rmk]; omega) ?_
    refine j_icmp_ge E 306 (by decide) dL_load_243 (fun c1 => ?_) (fun c1 => ?_)
    · rw [if_pos c1] at hf
      refine j_iconst E 0 ic_0 dL_load_306 ?_
      refine j_istore_n (ls' := [(3, .int 0), (0, .ref (z + aX 0 0 0)), (1, .ref D.2.2.2.2.2.2.1), (2, .ref u)]) E (lt_ rfl) rfl dL_load_307 ?_
      refine j_sub [1, 2, 3, 0] rfl ?_
      exact b_L_load_308 E hPP 2000 _ (by omega) _ hf
    · rw [if_neg c1] at hf
      refine j_aload_n E 2 rfl dL_load_246 ?_
      refine j_ldcS E sl_L_107 sc_L_107 dL_load_247 ?_
      obtain ⟨T1, hT1, hf⟩ := bnd_e hf
      obtain ⟨g1, hf⟩ := gd_e hf
      refine jl_apK 12 8100 E (lt_ rfl) hT1 g1 ml_L_63 ⟨le_ rfl, le_ rfl⟩ ⟨le_ rfl, le_ rfl⟩ (le_ rfl) dL_load_249 ?_
      refine jl_getG E fl_L_101 dL_load_252 (fun tw1 htw1 => ?_)
      refine j_aload_n E 1 rfl dL_load_255 ?_
      refine j_iload_n E 3 rfl dL_load_256 ?_
      obtain ⟨r2, h2, hf⟩ := bn1_e hf
      refine j_invS [.ref tw1, .ref u] [.int r2, .ref tw1, .ref u] E (c_L_owner h2) ml_L_109 ms_L_owner rfl ⟨le_ rfl, le_ rfl⟩ rfl rfl (le_ rfl) ⟨by simp only [rmk]; omega, by simp only [rmk]; omega⟩ dL_load_257 ?_
      refine j_widen (k' := 12 + T1.length) (n' := 8100 + 1200 * T1.length) (by simp only [rmk]; omega) (by simp only [rmk]; omega) ?_
      obtain ⟨g2, hf⟩ := gd_e hf
      refine jl_tq E htw1 g2 rfl dL_load_260 ?_
      obtain ⟨T2, hT2, hf⟩ := bnd_e hf
      obtain ⟨g3, hf⟩ := gd_e hf
      refine jl_apK 12 8100 E (gro_lt _) hT2 g3 ml_L_63 ⟨le_ rfl, le_ rfl⟩ ⟨le_ rfl, le_ rfl⟩ (le_ rfl) dL_load_261 ?_
      refine j_ldcS E sl_L_72 sc_L_72 dL_load_264 ?_
      obtain ⟨T3, hT3, hf⟩ := bnd_e hf
      obtain ⟨g4, hf⟩ := gd_e hf
      refine jl_apK 12 8100 E (lt_ rfl) hT3 g4 ml_L_63 ⟨le_ rfl, le_ rfl⟩ ⟨le_ rfl, le_ rfl⟩ (le_ rfl) dL_load_266 ?_
      refine jl_getW E fl_L_90 dL_load_269 (fun tw2 htw2 => ?_)
      refine j_aload_n E 1 rfl dL_load_272 ?_
      refine j_iload_n E 3 rfl dL_load_273 ?_
      obtain ⟨r3, h3, hf⟩ := bn1_e hf
      refine j_invS [.ref tw2, .ref u] [.int r3, .ref tw2, .ref u] E (c_L_wine h3) ml_L_112 ms_L_wine rfl ⟨le_ rfl, le_ rfl⟩ rfl rfl (le_ rfl) ⟨by simp only [rmk]; omega, by simp only [rmk]; omega⟩ dL_load_274 ?_
      refine j_widen (k' := 12 + T3.length) (n' := 8100 + 1200 * T3.length) (by simp only [rmk]; omega) (by simp only [rmk]; omega) ?_
      obtain ⟨g5, hf⟩ := gd_e hf
      refine jl_tq E htw2 g5 rfl dL_load_277 ?_
      obtain ⟨T4, hT4, hf⟩ := bnd_e hf
      obtain ⟨g6, hf⟩ := gd_e hf
      refine jl_apK 12 8100 E (win_lt _) hT4 g6 ml_L_63 ⟨le_ rfl, le_ rfl⟩ ⟨le_ rfl, le_ rfl⟩ (le_ rfl) dL_load_278 ?_
      refine j_ldcS E sl_L_72 sc_L_72 dL_load_281 ?_
      obtain ⟨T5, hT5, hf⟩ := bnd_e hf
      obtain ⟨g7, hf⟩ := gd_e hf
      refine jl_apK 12 8100 E (lt_ rfl) hT5 g7 ml_L_63 ⟨le_ rfl, le_ rfl⟩ ⟨le_ rfl, le_ rfl⟩ (le_ rfl) dL_load_283 ?_
      refine j_aload_n E 1 rfl dL_load_286 ?_
      refine j_iload_n E 3 rfl dL_load_287 ?_
      obtain ⟨r4, h4, hf⟩ := bn1_e hf
      refine j_invS [.ref u] [.int r4, .ref u] E (c_L_area h4) ml_L_115 ms_L_area rfl ⟨le_ rfl, le_ rfl⟩ rfl rfl (le_ rfl) ⟨by simp only [rmk]; omega, by simp only [rmk]; omega⟩ dL_load_288 ?_
      refine j_widen (k' := 12 + T5.length) (n' := 8100 + 1200 * T5.length) (by simp only [rmk]; omega) (by simp only [rmk]; omega) ?_
      obtain ⟨g9, hf⟩ := gd_e hf
      obtain ⟨T6, hT6, hf⟩ := bnd_e hf
      obtain ⟨g8, hf⟩ := gd_e hf
      refine jl_apI 12 8100 E g9 hT6 g8 ml_L_69 ⟨le_ rfl, le_ rfl⟩ ⟨le_ rfl, le_ rfl⟩ (le_ rfl) dL_load_291 ?_
      refine j_ldcS E sl_L_86 sc_L_86 dL_load_294 ?_
      obtain ⟨T7, hT7, hf⟩ := bnd_e hf
      obtain ⟨g10, hf⟩ := gd_e hf
      refine jl_apK 12 8100 E (lt_ rfl) hT7 g10 ml_L_63 ⟨le_ rfl, le_ rfl⟩ ⟨le_ rfl, le_ rfl⟩ (le_ rfl) dL_load_296 ?_
      refine j_pop E rfl dL_load_299 ?_
      refine j_iinc (ls' := [(3, .int (v3 + 1)), (0, .ref (z + aX 0 0 0)), (1, .ref D.2.2.2.2.2.2.1), (2, .ref u)]) E 3 rfl (lt_ rfl) (v3 + 1) (congrArg (fun q => v3 + q) ic_1) rfl dL_load_300 ?_
      refine j_goto E 238 (by decide) dL_load_303 ?_
      refine j_sub [1, 2, 3, 0] rfl ?_
      exact ih _ (by omega) _ hf
set_option maxRecDepth 20000 in
theorem b_L_load_202 {p : Program} {l : Launch} {e : Env} {s : State} {m : MethodId} {args : Array Value} {below : List Frame} {meth : Method} {c : Code} {D : DD} {z u B : Nat} {Y : YT} {X : XT} (E : Cx p s m args meth c D z RL cL_load 5 (some .boolean)) {r : Int32} {X' : XT} {PP : Heap → Prop} (hPP : ∀ H, GG D z (X', Y) H → PP H) : ∀ (n : Nat) (T : List Int32) (hTl : T.length ≤ 590) (v3 : Int32) (hf : f_L_load_202 X D.2.2.2.2.2.2.2 n T v3 = some (r, X')), J p l e (rmk 10 640 740000) s m args below meth c D z (SBW D z B u X Y T) (12 + T.length) (8100 + 1200 * T.length) (MQ below (QC z (some (.int r)) PP) args s (rmk 10 640 740000).cells (rmk 10 640 740000).slots (Az z)) 5 202 [(0, .ref (z + aX 0 0 0)), (1, .ref D.2.2.2.2.2.2.1), (2, .ref u), (3, .int v3)] [] := by
  intro n
  induction n with
  | zero =>
    intro T hTl v3 hf
    exact none_e hf
  | succ n ih =>
    intro T hTl v3 hf
    rw [f_L_load_202] at hf
    refine j_iload_n E 3 rfl dL_load_202 ?_
    refine j_aload_n E 1 rfl dL_load_203 ?_
    obtain ⟨r1, h1, hf⟩ := bn1_e hf
    refine j_invS [.int v3] [.int r1, .int v3] E (c_L_growers h1) ml_L_48 ms_L_growers rfl ⟨le_ rfl, le_ rfl⟩ rfl rfl (le_ rfl) ⟨by simp only [rmk]; omega, by simp only [rmk]; omega⟩ dL_load_204 ?_
    refine j_widen (k' := 12 + T.length) (n' := 8100 + 1200 * T.length) (by simp only [rmk]; omega) (by simp only [rmk]; omega) ?_
    refine j_icmp_ge E 236 (by decide) dL_load_207 (fun c1 => ?_) (fun c1 => ?_)
    · rw [if_pos c1] at hf
      refine j_iconst E 0 ic_0 dL_load_236 ?_
      refine j_istore_n (ls' := [(3, .int 0), (0, .ref (z + aX 0 0 0)), (1, .ref D.2.2.2.2.2.2.1), (2, .ref u)]) E (lt_ rfl) rfl dL_load_237 ?_
      refine j_sub [1, 2, 3, 0] rfl ?_
      exact b_L_load_238 E hPP 2000 _ (by omega) _ hf
    · rw [if_neg c1] at hf
      refine j_aload_n E 2 rfl dL_load_210 ?_
      refine j_ldcS E sl_L_99 sc_L_99 dL_load_211 ?_
      obtain ⟨T1, hT1, hf⟩ := bnd_e hf
      obtain ⟨g1, hf⟩ := gd_e hf
      refine jl_apK 12 8100 E (lt_ rfl) hT1 g1 ml_L_63 ⟨le_ rfl, le_ rfl⟩ ⟨le_ rfl, le_ rfl⟩ (le_ rfl) dL_load_213 ?_
      refine jl_getG E fl_L_101 dL_load_216 (fun tw1 htw1 => ?_)
      refine j_iload_n E 3 rfl dL_load_219 ?_
      obtain ⟨g2, hf⟩ := gd_e hf
      refine jl_tq E htw1 g2 rfl dL_load_220 ?_
      obtain ⟨T2, hT2, hf⟩ := bnd_e hf
      obtain ⟨g3, hf⟩ := gd_e hf
      refine jl_apK 12 8100 E (gro_lt _) hT2 g3 ml_L_63 ⟨le_ rfl, le_ rfl⟩ ⟨le_ rfl, le_ rfl⟩ (le_ rfl) dL_load_221 ?_
      refine j_ldcS E sl_L_86 sc_L_86 dL_load_224 ?_
      obtain ⟨T3, hT3, hf⟩ := bnd_e hf
      obtain ⟨g4, hf⟩ := gd_e hf
      refine jl_apK 12 8100 E (lt_ rfl) hT3 g4 ml_L_63 ⟨le_ rfl, le_ rfl⟩ ⟨le_ rfl, le_ rfl⟩ (le_ rfl) dL_load_226 ?_
      refine j_pop E rfl dL_load_229 ?_
      refine j_iinc (ls' := [(3, .int (v3 + 1)), (0, .ref (z + aX 0 0 0)), (1, .ref D.2.2.2.2.2.2.1), (2, .ref u)]) E 3 rfl (lt_ rfl) (v3 + 1) (congrArg (fun q => v3 + q) ic_1) rfl dL_load_230 ?_
      refine j_goto E 202 (by decide) dL_load_233 ?_
      refine j_sub [1, 2, 3, 0] rfl ?_
      exact ih _ (by omega) _ hf
set_option maxRecDepth 20000 in
theorem b_L_load_134 {p : Program} {l : Launch} {e : Env} {s : State} {m : MethodId} {args : Array Value} {below : List Frame} {meth : Method} {c : Code} {D : DD} {z u B : Nat} {Y : YT} {X : XT} {v3 : Int32} (E : Cx p s m args meth c D z RL cL_load 5 (some .boolean)) {r : Int32} {X' : XT} {PP : Heap → Prop} (hPP : ∀ H, GG D z (X', Y) H → PP H) {y : List Int32} (K : ∀ o : List Int32, y = o → o.length ≤ 590 → J p l e (rmk 10 640 740000) s m args below meth c D z (SBW D z B u X Y o) (12 + o.length) (8100 + 1200 * o.length) (MQ below (QC z (some (.int r)) PP) args s (rmk 10 640 740000).cells (rmk 10 640 740000).slots (Az z)) 5 194 [(0, .ref (z + aX 0 0 0)), (1, .ref D.2.2.2.2.2.2.1), (2, .ref u), (3, .int v3)] []) : ∀ (n : Nat) (T : List Int32) (hTl : T.length ≤ 590) (v4 : Int32) (hf : f_L_load_134 D.2.2.2.2.2.2.2 v3 n T v4 = some y), J p l e (rmk 10 640 740000) s m args below meth c D z (SBW D z B u X Y T) (12 + T.length) (8100 + 1200 * T.length) (MQ below (QC z (some (.int r)) PP) args s (rmk 10 640 740000).cells (rmk 10 640 740000).slots (Az z)) 5 134 [(0, .ref (z + aX 0 0 0)), (1, .ref D.2.2.2.2.2.2.1), (2, .ref u), (3, .int v3), (4, .int v4)] [] := by
  intro n
  induction n with
  | zero =>
    intro T hTl v4 hf
    exact none_e hf
  | succ n ih =>
    intro T hTl v4 hf
    rw [f_L_load_134] at hf
    refine j_iload E 4 rfl dL_load_134 ?_
    refine j_aload_n E 1 rfl dL_load_136 ?_
    obtain ⟨r1, h1, hf⟩ := bn1_e hf
    refine j_invS [.int v4] [.int r1, .int v4] E (c_L_grades h1) ml_L_51 ms_L_grades rfl ⟨le_ rfl, le_ rfl⟩ rfl rfl (le_ rfl) ⟨by simp only [rmk]; omega, by simp only [rmk]; omega⟩ dL_load_137 ?_
    refine j_widen (k' := 12 + T.length) (n' := 8100 + 1200 * T.length) (by simp only [rmk]; omega) (by simp only [rmk]; omega) ?_
    refine j_icmp_ge E 194 (by decide) dL_load_140 (fun c1 => ?_) (fun c1 => ?_)
    · rw [if_pos c1] at hf
      cases hf
      refine j_sub [0, 1, 2, 3] rfl ?_
      exact K _ rfl (by omega)
    · rw [if_neg c1] at hf
      refine j_aload_n E 2 rfl dL_load_143 ?_
      refine j_ldcS E sl_L_94 sc_L_94 dL_load_144 ?_
      obtain ⟨T1, hT1, hf⟩ := bnd_e hf
      obtain ⟨g1, hf⟩ := gd_e hf
      refine jl_apK 12 8100 E (lt_ rfl) hT1 g1 ml_L_63 ⟨le_ rfl, le_ rfl⟩ ⟨le_ rfl, le_ rfl⟩ (le_ rfl) dL_load_146 ?_
      refine jl_getW E fl_L_90 dL_load_149 (fun tw1 htw1 => ?_)
      refine j_iload_n E 3 rfl dL_load_152 ?_
      obtain ⟨g2, hf⟩ := gd_e hf
      refine jl_tq E htw1 g2 rfl dL_load_153 ?_
      obtain ⟨T2, hT2, hf⟩ := bnd_e hf
      obtain ⟨g3, hf⟩ := gd_e hf
      refine jl_apK 12 8100 E (win_lt _) hT2 g3 ml_L_63 ⟨le_ rfl, le_ rfl⟩ ⟨le_ rfl, le_ rfl⟩ (le_ rfl) dL_load_154 ?_
      refine j_ldcS E sl_L_72 sc_L_72 dL_load_157 ?_
      obtain ⟨T3, hT3, hf⟩ := bnd_e hf
      obtain ⟨g4, hf⟩ := gd_e hf
      refine jl_apK 12 8100 E (lt_ rfl) hT3 g4 ml_L_63 ⟨le_ rfl, le_ rfl⟩ ⟨le_ rfl, le_ rfl⟩ (le_ rfl) dL_load_159 ?_
      refine j_iload E 4 rfl dL_load_162 ?_
      obtain ⟨g6, hf⟩ := gd_e hf
      obtain ⟨T4, hT4, hf⟩ := bnd_e hf
      obtain ⟨g5, hf⟩ := gd_e hf
      refine jl_apI 12 8100 E g6 hT4 g5 ml_L_69 ⟨le_ rfl, le_ rfl⟩ ⟨le_ rfl, le_ rfl⟩ (le_ rfl) dL_load_164 ?_
      refine j_ldcS E sl_L_72 sc_L_72 dL_load_167 ?_
      obtain ⟨T5, hT5, hf⟩ := bnd_e hf
      obtain ⟨g7, hf⟩ := gd_e hf
      refine jl_apK 12 8100 E (lt_ rfl) hT5 g7 ml_L_63 ⟨le_ rfl, le_ rfl⟩ ⟨le_ rfl, le_ rfl⟩ (le_ rfl) dL_load_169 ?_
      refine j_aload_n E 1 rfl dL_load_172 ?_
      refine j_iload_n E 3 rfl dL_load_173 ?_
      refine j_iload E 4 rfl dL_load_174 ?_
      obtain ⟨r2, h2, hf⟩ := bn1_e hf
      refine j_invS [.ref u] [.int r2, .ref u] E (c_L_cents h2) ml_L_96 ms_L_cents rfl ⟨le_ rfl, le_ rfl⟩ rfl rfl (le_ rfl) ⟨by simp only [rmk]; omega, by simp only [rmk]; omega⟩ dL_load_176 ?_
      refine j_widen (k' := 12 + T5.length) (n' := 8100 + 1200 * T5.length) (by simp only [rmk]; omega) (by simp only [rmk]; omega) ?_
      obtain ⟨g9, hf⟩ := gd_e hf
      obtain ⟨T6, hT6, hf⟩ := bnd_e hf
      obtain ⟨g8, hf⟩ := gd_e hf
      refine jl_apI 12 8100 E g9 hT6 g8 ml_L_69 ⟨le_ rfl, le_ rfl⟩ ⟨le_ rfl, le_ rfl⟩ (le_ rfl) dL_load_179 ?_
      refine j_ldcS E sl_L_86 sc_L_86 dL_load_182 ?_
      obtain ⟨T7, hT7, hf⟩ := bnd_e hf
      obtain ⟨g10, hf⟩ := gd_e hf
      refine jl_apK 12 8100 E (lt_ rfl) hT7 g10 ml_L_63 ⟨le_ rfl, le_ rfl⟩ ⟨le_ rfl, le_ rfl⟩ (le_ rfl) dL_load_184 ?_
      refine j_pop E rfl dL_load_187 ?_
      refine j_iinc (ls' := [(4, .int (v4 + 1)), (0, .ref (z + aX 0 0 0)), (1, .ref D.2.2.2.2.2.2.1), (2, .ref u), (3, .int v3)]) E 4 rfl (lt_ rfl) (v4 + 1) (congrArg (fun q => v4 + q) ic_1) rfl dL_load_188 ?_
      refine j_goto E 134 (by decide) dL_load_191 ?_
      refine j_sub [1, 2, 3, 4, 0] rfl ?_
      exact ih _ (by omega) _ hf
set_option maxRecDepth 20000 in
theorem b_L_load_123 {p : Program} {l : Launch} {e : Env} {s : State} {m : MethodId} {args : Array Value} {below : List Frame} {meth : Method} {c : Code} {D : DD} {z u B : Nat} {Y : YT} {X : XT} (E : Cx p s m args meth c D z RL cL_load 5 (some .boolean)) {r : Int32} {X' : XT} {PP : Heap → Prop} (hPP : ∀ H, GG D z (X', Y) H → PP H) : ∀ (n : Nat) (T : List Int32) (hTl : T.length ≤ 590) (v3 : Int32) (hf : f_L_load_123 X D.2.2.2.2.2.2.2 n T v3 = some (r, X')), J p l e (rmk 10 640 740000) s m args below meth c D z (SBW D z B u X Y T) (12 + T.length) (8100 + 1200 * T.length) (MQ below (QC z (some (.int r)) PP) args s (rmk 10 640 740000).cells (rmk 10 640 740000).slots (Az z)) 5 123 [(0, .ref (z + aX 0 0 0)), (1, .ref D.2.2.2.2.2.2.1), (2, .ref u), (3, .int v3)] [] := by
  intro n
  induction n with
  | zero =>
    intro T hTl v3 hf
    exact none_e hf
  | succ n ih =>
    intro T hTl v3 hf
    rw [f_L_load_123] at hf
    refine j_iload_n E 3 rfl dL_load_123 ?_
    refine j_aload_n E 1 rfl dL_load_124 ?_
    obtain ⟨r1, h1, hf⟩ := bn1_e hf
    refine j_invS [.int v3] [.int r1, .int v3] E (c_L_wines h1) ml_L_44 ms_L_wines rfl ⟨le_ rfl, le_ rfl⟩ rfl rfl (le_ rfl) ⟨by simp only [rmk]; omega, by simp only [rmk]; omega⟩ dL_load_125 ?_
    refine j_widen (k' := 12 + T.length) (n' := 8100 + 1200 * T.length) (by simp only [rmk]; omega) (by simp only [rmk]; omega) ?_
    refine j_icmp_ge E 200 (by decide) dL_load_128 (fun c1 => ?_) (fun c1 => ?_)
    · rw [if_pos c1] at hf
      refine j_iconst E 0 ic_0 dL_load_200 ?_
      refine j_istore_n (ls' := [(3, .int 0), (0, .ref (z + aX 0 0 0)), (1, .ref D.2.2.2.2.2.2.1), (2, .ref u)]) E (lt_ rfl) rfl dL_load_201 ?_
      refine j_sub [1, 2, 3, 0] rfl ?_
      exact b_L_load_202 E hPP 2000 _ (by omega) _ hf
    · rw [if_neg c1] at hf
      refine j_iconst E 0 ic_0 dL_load_131 ?_
      refine j_istore (ls' := [(4, .int 0), (0, .ref (z + aX 0 0 0)), (1, .ref D.2.2.2.2.2.2.1), (2, .ref u), (3, .int v3)]) E (lt_ rfl) rfl dL_load_132 ?_
      obtain ⟨u1, hu1, hr1⟩ := bn1_e hf
      have K1 : ∀ To1 : List Int32, u1 = To1 → To1.length ≤ 590 → J p l e (rmk 10 640 740000) s m args below meth c D z (SBW D z B u X Y To1) (12 + To1.length) (8100 + 1200 * To1.length) (MQ below (QC z (some (.int r)) PP) args s (rmk 10 640 740000).cells (rmk 10 640 740000).slots (Az z)) 5 194 [(0, .ref (z + aX 0 0 0)), (1, .ref D.2.2.2.2.2.2.1), (2, .ref u), (3, .int v3)] [] := by
        intro To1 hv hlTo1
        have hv := hv.symm
        subst hv
        have hf := hr1
        refine j_iinc (ls' := [(3, .int (v3 + 1)), (0, .ref (z + aX 0 0 0)), (1, .ref D.2.2.2.2.2.2.1), (2, .ref u)]) E 3 rfl (lt_ rfl) (v3 + 1) (congrArg (fun q => v3 + q) ic_1) rfl dL_load_194 ?_
        refine j_goto E 123 (by decide) dL_load_197 ?_
        refine j_sub [1, 2, 3, 0] rfl ?_
        exact ih _ (by omega) _ hf
      refine j_sub [1, 2, 3, 4, 0] rfl ?_
      exact b_L_load_134 E hPP K1 2000 _ (by omega) _ hu1
set_option maxRecDepth 20000 in
theorem b_L_load_87 {p : Program} {l : Launch} {e : Env} {s : State} {m : MethodId} {args : Array Value} {below : List Frame} {meth : Method} {c : Code} {D : DD} {z u B : Nat} {Y : YT} {X : XT} (E : Cx p s m args meth c D z RL cL_load 5 (some .boolean)) {r : Int32} {X' : XT} {PP : Heap → Prop} (hPP : ∀ H, GG D z (X', Y) H → PP H) : ∀ (n : Nat) (T : List Int32) (hTl : T.length ≤ 590) (v3 : Int32) (hf : f_L_load_87 X D.2.2.2.2.2.2.2 n T v3 = some (r, X')), J p l e (rmk 10 640 740000) s m args below meth c D z (SBW D z B u X Y T) (12 + T.length) (8100 + 1200 * T.length) (MQ below (QC z (some (.int r)) PP) args s (rmk 10 640 740000).cells (rmk 10 640 740000).slots (Az z)) 5 87 [(0, .ref (z + aX 0 0 0)), (1, .ref D.2.2.2.2.2.2.1), (2, .ref u), (3, .int v3)] [] := by
  intro n
  induction n with
  | zero =>
    intro T hTl v3 hf
    exact none_e hf
  | succ n ih =>
    intro T hTl v3 hf
    rw [f_L_load_87] at hf
    refine j_iload_n E 3 rfl dL_load_87 ?_
    refine j_aload_n E 1 rfl dL_load_88 ?_
    obtain ⟨r1, h1, hf⟩ := bn1_e hf
    refine j_invS [.int v3] [.int r1, .int v3] E (c_L_wines h1) ml_L_44 ms_L_wines rfl ⟨le_ rfl, le_ rfl⟩ rfl rfl (le_ rfl) ⟨by simp only [rmk]; omega, by simp only [rmk]; omega⟩ dL_load_89 ?_
    refine j_widen (k' := 12 + T.length) (n' := 8100 + 1200 * T.length) (by simp only [rmk]; omega) (by simp only [rmk]; omega) ?_
    refine j_icmp_ge E 121 (by decide) dL_load_92 (fun c1 => ?_) (fun c1 => ?_)
    · rw [if_pos c1] at hf
      refine j_iconst E 0 ic_0 dL_load_121 ?_
      refine j_istore_n (ls' := [(3, .int 0), (0, .ref (z + aX 0 0 0)), (1, .ref D.2.2.2.2.2.2.1), (2, .ref u)]) E (lt_ rfl) rfl dL_load_122 ?_
      refine j_sub [1, 2, 3, 0] rfl ?_
      exact b_L_load_123 E hPP 2000 _ (by omega) _ hf
    · rw [if_neg c1] at hf
      refine j_aload_n E 2 rfl dL_load_95 ?_
      refine j_ldcS E sl_L_88 sc_L_88 dL_load_96 ?_
      obtain ⟨T1, hT1, hf⟩ := bnd_e hf
      obtain ⟨g1, hf⟩ := gd_e hf
      refine jl_apK 12 8100 E (lt_ rfl) hT1 g1 ml_L_63 ⟨le_ rfl, le_ rfl⟩ ⟨le_ rfl, le_ rfl⟩ (le_ rfl) dL_load_98 ?_
      refine jl_getW E fl_L_90 dL_load_101 (fun tw1 htw1 => ?_)
      refine j_iload_n E 3 rfl dL_load_104 ?_
      obtain ⟨g2, hf⟩ := gd_e hf
      refine jl_tq E htw1 g2 rfl dL_load_105 ?_
      obtain ⟨T2, hT2, hf⟩ := bnd_e hf
      obtain ⟨g3, hf⟩ := gd_e hf
      refine jl_apK 12 8100 E (win_lt _) hT2 g3 ml_L_63 ⟨le_ rfl, le_ rfl⟩ ⟨le_ rfl, le_ rfl⟩ (le_ rfl) dL_load_106 ?_
      refine j_ldcS E sl_L_86 sc_L_86 dL_load_109 ?_
      obtain ⟨T3, hT3, hf⟩ := bnd_e hf
      obtain ⟨g4, hf⟩ := gd_e hf
      refine jl_apK 12 8100 E (lt_ rfl) hT3 g4 ml_L_63 ⟨le_ rfl, le_ rfl⟩ ⟨le_ rfl, le_ rfl⟩ (le_ rfl) dL_load_111 ?_
      refine j_pop E rfl dL_load_114 ?_
      refine j_iinc (ls' := [(3, .int (v3 + 1)), (0, .ref (z + aX 0 0 0)), (1, .ref D.2.2.2.2.2.2.1), (2, .ref u)]) E 3 rfl (lt_ rfl) (v3 + 1) (congrArg (fun q => v3 + q) ic_1) rfl dL_load_115 ?_
      refine j_goto E 87 (by decide) dL_load_118 ?_
      refine j_sub [1, 2, 3, 0] rfl ?_
      exact ih _ (by omega) _ hf
set_option maxRecDepth 20000 in
theorem b_L_load_49 {p : Program} {l : Launch} {e : Env} {s : State} {m : MethodId} {args : Array Value} {below : List Frame} {meth : Method} {c : Code} {D : DD} {z u B : Nat} {Y : YT} {X : XT} (E : Cx p s m args meth c D z RL cL_load 5 (some .boolean)) {r : Int32} {X' : XT} {PP : Heap → Prop} (hPP : ∀ H, GG D z (X', Y) H → PP H) : ∀ (n : Nat) (T : List Int32) (hTl : T.length ≤ 590) (v3 : Int32) (hf : f_L_load_49 X D.2.2.2.2.2.2.2 n T v3 = some (r, X')), J p l e (rmk 10 640 740000) s m args below meth c D z (SBW D z B u X Y T) (12 + T.length) (8100 + 1200 * T.length) (MQ below (QC z (some (.int r)) PP) args s (rmk 10 640 740000).cells (rmk 10 640 740000).slots (Az z)) 5 49 [(0, .ref (z + aX 0 0 0)), (1, .ref D.2.2.2.2.2.2.1), (2, .ref u), (3, .int v3)] [] := by
  intro n
  induction n with
  | zero =>
    intro T hTl v3 hf
    exact none_e hf
  | succ n ih =>
    intro T hTl v3 hf
    rw [f_L_load_49] at hf
    refine j_iload_n E 3 rfl dL_load_49 ?_
    refine j_aload_n E 1 rfl dL_load_50 ?_
    obtain ⟨r1, h1, hf⟩ := bn1_e hf
    refine j_invS [.int v3] [.int r1, .int v3] E (c_L_grades h1) ml_L_51 ms_L_grades rfl ⟨le_ rfl, le_ rfl⟩ rfl rfl (le_ rfl) ⟨by simp only [rmk]; omega, by simp only [rmk]; omega⟩ dL_load_51 ?_
    refine j_widen (k' := 12 + T.length) (n' := 8100 + 1200 * T.length) (by simp only [rmk]; omega) (by simp only [rmk]; omega) ?_
    refine j_icmp_ge E 78 (by decide) dL_load_54 (fun c1 => ?_) (fun c1 => ?_)
    · rw [if_pos c1] at hf
      refine j_aload_n E 2 rfl dL_load_78 ?_
      refine j_ldcS E sl_L_86 sc_L_86 dL_load_79 ?_
      obtain ⟨T1, hT1, hf⟩ := bnd_e hf
      obtain ⟨g1, hf⟩ := gd_e hf
      refine jl_apK 12 8100 E (lt_ rfl) hT1 g1 ml_L_63 ⟨le_ rfl, le_ rfl⟩ ⟨le_ rfl, le_ rfl⟩ (le_ rfl) dL_load_81 ?_
      refine j_pop E rfl dL_load_84 ?_
      refine j_iconst E 0 ic_0 dL_load_85 ?_
      refine j_istore_n (ls' := [(3, .int 0), (0, .ref (z + aX 0 0 0)), (1, .ref D.2.2.2.2.2.2.1), (2, .ref u)]) E (lt_ rfl) rfl dL_load_86 ?_
      refine j_sub [1, 2, 3, 0] rfl ?_
      exact b_L_load_87 E hPP 2000 _ (by omega) _ hf
    · rw [if_neg c1] at hf
      refine j_aload_n E 2 rfl dL_load_57 ?_
      refine j_ldcS E sl_L_72 sc_L_72 dL_load_58 ?_
      obtain ⟨T2, hT2, hf⟩ := bnd_e hf
      obtain ⟨g2, hf⟩ := gd_e hf
      refine jl_apK 12 8100 E (lt_ rfl) hT2 g2 ml_L_63 ⟨le_ rfl, le_ rfl⟩ ⟨le_ rfl, le_ rfl⟩ (le_ rfl) dL_load_60 ?_
      refine j_aload_n E 1 rfl dL_load_63 ?_
      refine j_iload_n E 3 rfl dL_load_64 ?_
      obtain ⟨r2, h2, hf⟩ := bn1_e hf
      refine j_invS [.ref u] [.int r2, .ref u] E (c_L_lowest h2) ml_L_54 ms_L_lowest rfl ⟨le_ rfl, le_ rfl⟩ rfl rfl (le_ rfl) ⟨by simp only [rmk]; omega, by simp only [rmk]; omega⟩ dL_load_65 ?_
      refine j_widen (k' := 12 + T2.length) (n' := 8100 + 1200 * T2.length) (by simp only [rmk]; omega) (by simp only [rmk]; omega) ?_
      obtain ⟨g4, hf⟩ := gd_e hf
      obtain ⟨T3, hT3, hf⟩ := bnd_e hf
      obtain ⟨g3, hf⟩ := gd_e hf
      refine jl_apI 12 8100 E g4 hT3 g3 ml_L_69 ⟨le_ rfl, le_ rfl⟩ ⟨le_ rfl, le_ rfl⟩ (le_ rfl) dL_load_68 ?_
      refine j_pop E rfl dL_load_71 ?_
      refine j_iinc (ls' := [(3, .int (v3 + 1)), (0, .ref (z + aX 0 0 0)), (1, .ref D.2.2.2.2.2.2.1), (2, .ref u)]) E 3 rfl (lt_ rfl) (v3 + 1) (congrArg (fun q => v3 + q) ic_1) rfl dL_load_72 ?_
      refine j_goto E 49 (by decide) dL_load_75 ?_
      refine j_sub [1, 2, 3, 0] rfl ?_
      exact ih _ (by omega) _ hf
set_option maxRecDepth 20000 in
theorem b_L_load_p {p : Program} {l : Launch} {e : Env} {s : State} {m : MethodId} {args : Array Value} {below : List Frame} {meth : Method} {c : Code} {D : DD} {z u B : Nat} {Y : YT} {X : XT} (E : Cx p s m args meth c D z RL cL_load 5 (some .boolean)) {r : Int32} {X' : XT} {PP : Heap → Prop} (hPP : ∀ H, GG D z (X', Y) H → PP H) {T0 : List Int32} (hTl : T0.length ≤ 590) (hf : f_L_load_p X D.2.2.2.2.2.2.2 T0 = some (r, X')) : J p l e (rmk 10 640 740000) s m args below meth c D z (SBW D z B u X Y T0) (12 + T0.length) (8100 + 1200 * T0.length) (MQ below (QC z (some (.int r)) PP) args s (rmk 10 640 740000).cells (rmk 10 640 740000).slots (Az z)) 5 47 [(2, .ref u), (0, .ref (z + aX 0 0 0)), (1, .ref D.2.2.2.2.2.2.1)] [] := by
  unfold f_L_load_p at hf
  refine j_iconst E 0 ic_0 dL_load_47 ?_
  refine j_istore_n (ls' := [(3, .int 0), (2, .ref u), (0, .ref (z + aX 0 0 0)), (1, .ref D.2.2.2.2.2.2.1)]) E (lt_ rfl) rfl dL_load_48 ?_
  refine j_sub [2, 3, 1, 0] rfl ?_
  exact b_L_load_49 E hPP 2000 _ (by omega) _ hf
set_option maxRecDepth 20000 in
theorem c_L_load {l : Launch} {D : DD} {z : Nat} {Y : YT} {X : XT} {r : Int32} {X' : XT} (hf : f_L_load X D.2.2.2.2.2.2.2 = some (r, X')) : CC l yL_load cL_load 5 (some .boolean) (rmk 10 640 740000) D z [.ref (z + aX 0 0 0), .ref D.2.2.2.2.2.2.1] (GG D z (X, Y)) (some (.int r)) (GG D z (X', Y)) := by
  unfold f_L_load at hf
  refine cc_ofL pn_L (le_ rfl) (ls := [(0, .ref (z + aX 0 0 0)), (1, .ref D.2.2.2.2.2.2.1)]) rfl ?_
  intro p e s m args below meth c E
  refine j_fixS fun H0 hG hB => ?_
  have hz0 := hG.2.2
  refine jp_new (A := H0.size) (P' := fun H => GG D z (X, YL D z Y s.heap.size [(H0.size, .inr (13, [.null, .int 0, .int 0, .int 0]))]) H ∧ H.size = H0.size + 1) E cf_J4 cl_L_58 is_J4 in_J4 (fun H h => by rw [h]) df_J4 (le_ rfl) (le_ rfl) (fun H H1 h e1 e2 e3 => by subst h; exact ⟨gl_new hG rfl hB e2 e3, e1⟩) dL_load_0 ?_
  generalize hu0 : H0.size = u at *
  refine j_dup E rfl dL_load_3 ?_
  refine jp_new (A := u + 1) (P' := fun H => GX D z X H ∧ FRC z (u + 1) (u + 2) (YL D z Y s.heap.size [(u, .inr (13, [.null, .int 0, .int 0, .int 0]))]) H ∧ z + 529 < H.size ∧ va_at (gD D) cls (u + 1, .inr (13, [.null, .int 0, .int 0, .int 0])) H ∧ H.size = u + 2) E cf_J4 cl_L_58 is_J4 in_J4 (fun H h => h.2) df_J4 (le_ rfl) (le_ rfl) (fun H H1 h e1 e2 e3 => ⟨fun k j i hok => (h.1.1 k j i hok).kept (e2 _ (by rw [← h.2]; exact (h.1.1 k j i hok).lt)), fun H' hq => h.1.2.1 H' fun q q1 q2 => (hq q (by have := h.2; omega) (by have := h.2; omega) (by have := h.2; omega) q2).trans (e2 q (by have := h.2; omega)), by have := h.2; have := h.1.2.2; omega, e3, e1⟩) dL_load_4 ?_
  refine j_dup E rfl dL_load_7 ?_
  refine j_invI (As := []) (rm := rmk 3 1 16) (P2 := fun H => PL D (u + 2 + 1) [(u + 1, .inr (13, [.ref (u + 2), .int 0, .int 0, .int 0])), (u + 2, .inl (D.2.2.1 1, 16, .inl (fun _ => 0)))] H (u + 1)) (P' := SBW D z (u + 2) (u + 1) X (YL D z Y s.heap.size [(u, .inr (13, [.null, .int 0, .int 0, .int 0]))]) []) [.ref (u + 1), .ref u, .ref u] E (fun H h => ci_J4u (by omega) h.2.2.2.2 h.2.2.2.1) (fun H H1 h h2 => ?_) ml_L_60 mi_J4 rfl ⟨le_ rfl, le_ rfl⟩ rfl (le_ rfl) ⟨le_ rfl, le_ rfl⟩ dL_load_8 ?_
  · have hk := h2.2.2.2.2.2
    have hs := h.2.2.2.2
    have hzz := h.2.2.1
    refine ⟨(u + 2, 16, fun _ => 0, 0), ⟨⟨Nat.le_refl _, by omega, by omega, by omega⟩, fun k j i hok => (h.1 k j i hok).kept (hk _ (h.1 k j i hok).lt (by have := ok_lt hok; show z + aX k j i ≠ u + 1; omega)), h.2.1.mv (fun q _ hq hl _ => hk q hl hq), size_keep h.2.2.1 (hk _ h.2.2.1 (by omega)), h2.at 0 rfl, h2.at 1 rfl⟩, Nat.zero_le _, by show 16 ≤ 65536; decide, sb_fit0, fun q hq => absurd hq (Nat.not_lt_zero q)⟩
  refine j_widen (k' := 3 + ([] : List Int32).length) (n' := 100 + 1200 * ([] : List Int32).length) (le_ rfl) (le_ rfl) ?_
  refine j_ldcS E sl_L_61 sc_L_61 dL_load_11 ?_
  obtain ⟨T1, hT1, hf⟩ := bnd_e hf
  obtain ⟨g1, hf⟩ := gd_e hf
  refine jl_apK 3 100 E (lt_ rfl) hT1 g1 ml_L_63 ⟨le_ rfl, le_ rfl⟩ ⟨le_ rfl, le_ rfl⟩ (le_ rfl) dL_load_13 ?_
  refine j_aload_n E 1 rfl dL_load_16 ?_
  obtain ⟨r1, h1, hf⟩ := bn1_e hf
  refine j_invS [.ref (u + 1), .ref u, .ref u] [.int r1, .ref (u + 1), .ref u, .ref u] E (c_L_yields h1) ml_L_66 ms_L_yields rfl ⟨le_ rfl, le_ rfl⟩ rfl rfl (le_ rfl) ⟨by simp only [rmk]; omega, by simp only [rmk]; omega⟩ dL_load_17 ?_
  refine j_widen (k' := 3 + T1.length) (n' := 100 + 1200 * T1.length) (by simp only [rmk]; omega) (by simp only [rmk]; omega) ?_
  obtain ⟨g3, hf⟩ := gd_e hf
  obtain ⟨T2, hT2, hf⟩ := bnd_e hf
  obtain ⟨g2, hf⟩ := gd_e hf
  refine jl_apI 3 100 E g3 hT2 g2 ml_L_69 ⟨le_ rfl, le_ rfl⟩ ⟨le_ rfl, le_ rfl⟩ (le_ rfl) dL_load_20 ?_
  refine j_ldcS E sl_L_72 sc_L_72 dL_load_23 ?_
  obtain ⟨T3, hT3, hf⟩ := bnd_e hf
  obtain ⟨g4, hf⟩ := gd_e hf
  refine jl_apK 3 100 E (lt_ rfl) hT3 g4 ml_L_63 ⟨le_ rfl, le_ rfl⟩ ⟨le_ rfl, le_ rfl⟩ (le_ rfl) dL_load_25 ?_
  refine j_aload_n E 1 rfl dL_load_28 ?_
  obtain ⟨r2, h2, hf⟩ := bn1_e hf
  refine j_invS [.ref (u + 1), .ref u, .ref u] [.int r2, .ref (u + 1), .ref u, .ref u] E (c_L_money h2) ml_L_74 ms_L_money rfl ⟨le_ rfl, le_ rfl⟩ rfl rfl (le_ rfl) ⟨by simp only [rmk]; omega, by simp only [rmk]; omega⟩ dL_load_29 ?_
  refine j_widen (k' := 3 + T3.length) (n' := 100 + 1200 * T3.length) (by simp only [rmk]; omega) (by simp only [rmk]; omega) ?_
  obtain ⟨g6, hf⟩ := gd_e hf
  obtain ⟨T4, hT4, hf⟩ := bnd_e hf
  obtain ⟨g5, hf⟩ := gd_e hf
  refine jl_apI 3 100 E g6 hT4 g5 ml_L_69 ⟨le_ rfl, le_ rfl⟩ ⟨le_ rfl, le_ rfl⟩ (le_ rfl) dL_load_32 ?_
  refine j_ldcS E sl_L_77 sc_L_77 dL_load_35 ?_
  obtain ⟨T5, hT5, hf⟩ := bnd_e hf
  obtain ⟨g7, hf⟩ := gd_e hf
  refine jl_apK 3 100 E (lt_ rfl) hT5 g7 ml_L_63 ⟨le_ rfl, le_ rfl⟩ ⟨le_ rfl, le_ rfl⟩ (le_ rfl) dL_load_37 ?_
  obtain ⟨g8, hf⟩ := gd_e hf
  refine j_fix fun H9 hW => ?_
  have hW9 := hW
  obtain ⟨x9, hPB, -⟩ := hW9
  have hsz9 := hPB.size
  have hul : u < H9.size := (hPB.2.2.1.now.2.2 _ List.mem_cons_self).2.2.lt
  have hBu : s.heap.size ≤ u := (hPB.2.2.1.now.2.2 _ List.mem_cons_self).1
  have hzu : z + 530 ≤ u := (hPB.2.2.1.now.2.2 _ List.mem_cons_self).2.1
  refine j_invV (P' := TSW D z (u + 2) (u + 1) X (YL D z Y s.heap.size [(u, .inr (13, [.null, .int 0, .int 0, .int 0]))]) T5 H9.size) [.ref u, .ref u] [.ref H9.size, .ref u, .ref u] E (c_toString hW (by omega)) ml_L_79 mv_J4_toString_0e30d rfl ⟨le_ rfl, le_ rfl⟩ (fun H h => by subst h; exact rcW _ hW) rfl rfl (le_ rfl) ⟨by simp only [rmk]; omega, by simp only [rmk]; omega⟩ dL_load_40 ?_
  refine j_ex (F := fun f H => sb_Fit f ∧ (∀ q, q < T5.length → f q = T5.getD q 0) ∧ SBW D z (u + 2) (u + 1) X (YL D z Y s.heap.size [(u, .inr (13, [.null, .int 0, .int 0, .int 0]))]) T5 H ∧ SO D H9.size (H9.size + 1) T5 f H) (fun H h => by obtain ⟨h1, f, h2, h3, h4⟩ := h; exact ⟨f, h2, h3, h1, h4⟩) fun ff => ?_
  refine j_pre (A := sb_Fit ff ∧ ∀ q, q < T5.length → ff q = T5.getD q 0) (fun H h => ⟨h.1, h.2.1⟩) fun hff => ?_
  refine j_invI (As := [.ref H9.size]) (rm := rmk 9 2 1400) (P2 := fun H => SBW D z H.size u X (fun H => FRB z s.heap.size Y H ∧ SO D H9.size (H9.size + 1) T5 ff H) T5) (P' := fun H => ∃ Bn, SBW D z Bn u X (fun H => FRB z s.heap.size Y H ∧ SO D H9.size (H9.size + 1) T5 ff H) T5 H) [.ref u] E (fun H h => ?_) (fun H H1 h h2 => ⟨H.size, h2⟩) ml_L_83 mi_J4s rfl ⟨le_ rfl, le_ rfl⟩ rfl (le_ rfl) ⟨by simp only [rmk]; omega, by simp only [rmk]; omega⟩ dL_load_43 ?_
  · obtain ⟨-, -, ⟨x, k1, -⟩, k2⟩ := h
    have hnow := k1.2.2.1.now
    have hraw := (hnow.2.2 _ List.mem_cons_self).2.2
    refine ci_J4s k1.2.1 (fun H2 hq => ⟨hnow.1.mv fun q q0 q1 q2 => hq q (by have := hraw.lt; have : u < H.size := hraw.lt; omega) (by omega) q1 q2, ?_, ?_⟩) k1.2.2.2.1 hzu hraw ⟨g8.1, hff.1, hff.2⟩ (fun H h => h.2) g8.2
    · have l1 : H9.size < H.size := k2.1.lt
      exact k2.1.kept (hq _ l1 (by show H9.size ≠ u; omega) l1 (by show ¬ (z ≤ H9.size ∧ H9.size < z + 530); omega))
    · have l1 : H9.size + 1 < H.size := k2.2.lt
      exact k2.2.kept (hq _ l1 (by show H9.size + 1 ≠ u; omega) l1 (by show ¬ (z ≤ H9.size + 1 ∧ H9.size + 1 < z + 530); omega))
  refine j_ex (fun H h => h) fun Bn => ?_
  refine j_astore_n (ls' := [(2, .ref u), (0, .ref (z + aX 0 0 0)), (1, .ref D.2.2.2.2.2.2.1)]) E (lt_ rfl) rfl dL_load_46 ?_
  refine j_widen (k' := 12 + T5.length) (n' := 8100 + 1200 * T5.length) (by simp only [rmk]; omega) (by simp only [rmk]; omega) ?_
  exact b_L_load_p E (fun H h => ⟨h.1, fun H' hq => (h.2.1 H' hq).1.now, h.2.2⟩) (by omega) hf
