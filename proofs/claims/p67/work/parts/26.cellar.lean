def f_L_cellar_387 (X : XT) (sc : Nat × (Nat → Int32)) (f4 : Nat → Int32) (v6 : Int32) : Nat → Int32 → Option (Sum Int32 (Unit))
  | 0, _ => none
  | n + 1, v7 => if 900 ≤ v7 then (some (.inr ())) else (bnd (((7 * v7) + (31 * v6)) - ((7 * v7) + (31 * v6)) / 200 * 200) (fun x1 => bn1 (bn1 (f_X11_loadCount X) (fun r9 => if r9 = 20 then (some (1)) else (bn1 (f_L_grade sc x1) (fun r10 => if r10 = (-1) then (some (2)) else (bn1 (f_L_wine sc v6) (fun r11 => bn1 (f_L_tank X sc r11 v7) (fun r12 => if r12 = (-1) then (some (3)) else (some (0))))))))) (fun o1 => bn1 (bn1 (f_X11_harvested X v6) (fun r5 => bn1 (f_X11_yieldLimit X v6) (fun r6 => if (r5 + v7) ≤ r6 then (bn1 (f_L_grade sc x1) (fun r7 => some (r7))) else (bn1 (f_L_grades sc) (fun r8 => some ((r8 - 1))))))) (fun o2 => bn1 (f_X11_refusal X v6 v7 x1) (fun r1 => if r1 = o1 then (bn1 (f_X11_valueIfDelivered X v6 v7 x1) (fun r2 => bn1 (if o1 ≤ 0 then (bn1 (f_L_wine sc v6) (fun r3 => bn1 (f_X11_price X r3 o2) (fun r4 => some ((v7 * r4))))) else (some ((-1)))) (fun o3 => if r2 = o3 then (f_L_cellar_387 X sc f4 v6 n (v7 + 271)) else (some (.inl 0))))) else (some (.inl 0)))))))
def f_L_cellar_374 (X : XT) (sc : Nat × (Nat → Int32)) : Nat → (Nat → Int32) → Int32 → Option Int32
  | 0, _, _ => none
  | n + 1, f4, v6 => bn1 (f_X11_plotCount X) (fun r1 => if r1 ≤ v6 then (some 1) else (bn1 (f_L_cellar_387 X sc f4 v6 2000 40) (fun u1 => jn u1 (fun v => some v) (fun _ => f_L_cellar_374 X sc n f4 (v6 + 1)))))
def f_L_cellar_326 (X : XT) (sc : Nat × (Nat → Int32)) (f4 : Nat → Int32) (v6 : Int32) : Nat → Int32 → Option (Sum Int32 (Unit))
  | 0, _ => none
  | n + 1, v8 => if 3000 ≤ v8 then (some (.inr ())) else (bn1 (f_X11_tankFor X v6 v8) (fun r1 => bn1 (f_L_tank X sc v6 v8) (fun r2 => if r1 = r2 then (f_L_cellar_326 X sc f4 v6 n (v8 + 457)) else (some (.inl 0)))))
def f_L_cellar_249 (X : XT) (sc : Nat × (Nat → Int32)) : Nat → (Nat → Int32) → Int32 → Option Int32
  | 0, _, _ => none
  | n + 1, f4, v6 => bn1 (f_X11_varietyCount X) (fun r1 => if r1 ≤ v6 then (f_L_cellar_374 X sc 2000 f4 0) else (bn1 (f_X11_greatestLoad X v6) (fun r2 => bn1 (f_X11_bottlesOf X v6) (fun r3 => gd (¬ (v6 < 0 ∨ 4 ≤ v6.toNatClampNeg)) (bnd (f4 v6.toNatClampNeg) (fun x1 => if r3 = x1 then (if r2 ≤ 0 then (if 5000 ≤ r2 then (bn1 (f_L_cellar_326 X sc f4 v6 2000 1) (fun u1 => jn u1 (fun v => some v) (fun _ => f_L_cellar_249 X sc n f4 (v6 + 1)))) else (bn1 (f_L_tank X sc v6 (r2 + 1)) (fun r4 => if r4 = (-1) then (bn1 (f_L_cellar_326 X sc f4 v6 2000 1) (fun u2 => jn u2 (fun v => some v) (fun _ => f_L_cellar_249 X sc n f4 (v6 + 1)))) else (some 0)))) else (bn1 (f_L_tank X sc v6 r2) (fun r5 => if r5 = (-1) then (some 0) else (if 5000 ≤ r2 then (bn1 (f_L_cellar_326 X sc f4 v6 2000 1) (fun u3 => jn u3 (fun v => some v) (fun _ => f_L_cellar_249 X sc n f4 (v6 + 1)))) else (bn1 (f_L_tank X sc v6 (r2 + 1)) (fun r6 => if r6 = (-1) then (bn1 (f_L_cellar_326 X sc f4 v6 2000 1) (fun u4 => jn u4 (fun v => some v) (fun _ => f_L_cellar_249 X sc n f4 (v6 + 1)))) else (some 0))))))) else (some 0)))))))
def f_L_cellar_168 (X : XT) (sc : Nat × (Nat → Int32)) : Nat → (Nat → Int32) → Int32 → Int32 → Option Int32
  | 0, _, _, _ => none
  | n + 1, f4, v5, v6 => bn1 (f_X11_lotCount X) (fun r1 => if r1 ≤ v6 then (bn1 (f_X11_sweetestLot X) (fun r2 => if r2 = v5 then (f_L_cellar_249 X sc 2000 f4 0) else (some 0))) else (bn1 (f_X11_lotVariety X v6) (fun r3 => gd (¬ (r3 < 0 ∨ 4 ≤ r3.toNatClampNeg)) (bnd (f4 r3.toNatClampNeg) (fun x1 => bn1 (f_X11_unsold X v6) (fun r4 => gd (¬ (r3 < 0 ∨ 4 ≤ r3.toNatClampNeg)) (bnd (upd f4 r3.toNatClampNeg (x1 + r4)) (fun y1 => bn1 (f_X11_unsold X v6) (fun r5 => if r5 ≤ 0 then (f_L_cellar_168 X sc n y1 v5 (v6 + 1)) else (if v5 = (-1) then (f_L_cellar_168 X sc n y1 v6 (v6 + 1)) else (bn1 (f_X11_lotSugar X v6) (fun r6 => bn1 (f_X11_lotSugar X v5) (fun r7 => if r6 ≤ r7 then (f_L_cellar_168 X sc n y1 v5 (v6 + 1)) else (f_L_cellar_168 X sc n y1 v6 (v6 + 1)))))))))))))))
def f_L_cellar_12 (X : XT) (sc : Nat × (Nat → Int32)) : Nat → (Nat → Int32) → Int32 → Int32 → Int32 → Option Int32
  | 0, _, _, _, _ => none
  | n + 1, f4, v2, v3, v5 => bn1 (f_L_tanks sc) (fun r1 => if r1 ≤ v5 then (bn1 (f_X11_fullness X) (fun r2 => bn1 (if v3 = 0 then (some (FP.fconst0)) else (gd ((FP.fdiv (FP.i2f v2) (FP.i2f v3)) &&& 0x7fffffff ≤ 0x7f800000) (some ((FP.fdiv (FP.i2f v2) (FP.i2f v3)))))) (fun o1 => if (Op.cmpValue (FP.fcmp r2 o1) .l) = 0 then (f_L_cellar_168 X sc 2000 f4 (-1) 0) else (some 0)))) else (bn1 (f_X11_content X v5) (fun r3 => bnd (v2 + r3) (fun x1 => bn1 (f_L_capacity sc v5) (fun r4 => bnd (v3 + r4) (fun x2 => bn1 (bn1 (f_X11_content X v5) (fun r8 => bn1 (f_L_capacity sc v5) (fun r9 => if r9 < r8 then (some (.inl 0)) else (bn1 (f_X11_content X v5) (fun r10 => if r10 = 0 then (bn1 (f_X11_varietyIn X v5) (fun r14 => if r14 = (-1) then (bn1 (f_X11_content X v5) (fun r15 => if r15 = 0 then (bn1 (f_X11_meanSugar X v5) (fun r16 => if r16 = 0 then (some (.inr ())) else (some (.inl 0)))) else (some (.inr ())))) else (some (.inl 0)))) else (bn1 (f_X11_varietyIn X v5) (fun r11 => if r11 = (-1) then (some (.inl 0)) else (bn1 (f_X11_content X v5) (fun r12 => if r12 = 0 then (bn1 (f_X11_meanSugar X v5) (fun r13 => if r13 = 0 then (some (.inr ())) else (some (.inl 0)))) else (some (.inr ()))))))))))) (fun u2 => jn u2 (fun v => some v) (fun _ => bn1 (bn1 (f_X11_content X v5) (fun r5 => if r5 ≤ 0 then (some (f4)) else (bn1 (f_X11_varietyIn X v5) (fun r6 => gd (¬ (r6 < 0 ∨ 4 ≤ r6.toNatClampNeg)) (bnd (f4 r6.toNatClampNeg) (fun x3 => bn1 (f_X11_content X v5) (fun r7 => gd (¬ (r6 < 0 ∨ 4 ≤ r6.toNatClampNeg)) (bnd (upd f4 r6.toNatClampNeg (x3 + r7)) (fun y1 => some (y1)))))))))) (fun o3 => f_L_cellar_12 X sc n o3 x1 x2 (v5 + 1))))))))))
def f_L_cellar (X : XT) (sc : Nat × (Nat → Int32)) : Option Int32 :=
  f_L_cellar_12 X sc 2000 (fun _ => 0) 0 0 0
set_option maxRecDepth 20000 in
theorem b_L_cellar_387 {p : Program} {l : Launch} {e : Env} {s : State} {m : MethodId} {args : Array Value} {below : List Frame} {meth : Method} {c : Code} {D : DD} {z : Nat} {Y : YT} {X : XT} {a4 : Nat} {f4 : Nat → Int32} {v6 : Int32} (E : Cx p s m args meth c D z RL cL_cellar 11 (some .boolean)) {r : Int32} {y : Sum Int32 (Unit)} (hr : ∀ v, y = .inl v → r = v) (K : ∀ o : Unit, y = .inr o → J p l e (rmk 5 1 4) s m args below meth c D z (GG D z (X, YL D z Y s.heap.size [(a4, aint D 0 4 f4)])) 1 4 (MQ below (QC z (some (.int r)) (GG D z (X, Y))) args s (rmk 5 1 4).cells (rmk 5 1 4).slots (Az z)) 11 561 [(0, .ref (z + aX 0 0 0)), (1, .ref D.2.2.2.2.2.2.1), (6, .int v6)] []) : ∀ (n : Nat) (v7 : Int32) (hf : f_L_cellar_387 X D.2.2.2.2.2.2.2 f4 v6 n v7 = some y), J p l e (rmk 5 1 4) s m args below meth c D z (GG D z (X, YL D z Y s.heap.size [(a4, aint D 0 4 f4)])) 1 4 (MQ below (QC z (some (.int r)) (GG D z (X, Y))) args s (rmk 5 1 4).cells (rmk 5 1 4).slots (Az z)) 11 387 [(0, .ref (z + aX 0 0 0)), (1, .ref D.2.2.2.2.2.2.1), (6, .int v6), (7, .int v7)] [] := by
  intro n
  induction n with
  | zero =>
    intro v7 hf
    exact none_e hf
  | succ n ih =>
    intro v7 hf
    rw [f_L_cellar_387] at hf
    refine j_iload E 3 rfl dL_cellar_387 ?_
    refine j_sipush E 900 sp_900 dL_cellar_389 ?_
    refine j_icmp_ge E 561 (by decide) dL_cellar_392 (fun c1 => ?_) (fun c1 => ?_)
    · rw [if_pos c1] at hf
      cases hf
      refine j_sub [0, 1, 2] rfl ?_
      exact K _ rfl
    · rw [if_neg c1] at hf
      refine j_bipush E 7 bp_7 dL_cellar_395 ?_
      refine j_iload E 3 rfl dL_cellar_397 ?_
      refine j_imul E dL_cellar_399 ?_
      refine j_bipush E 31 bp_31 dL_cellar_400 ?_
      refine j_iload E 2 rfl dL_cellar_402 ?_
      refine j_imul E dL_cellar_404 ?_
      refine j_iadd E dL_cellar_405 ?_
      refine j_sipush E 200 sp_200 dL_cellar_406 ?_
      refine j_irem E (by decide) dL_cellar_409 ?_
      obtain ⟨x1, hx1, hf⟩ := bnd_e hf
      refine j_name hx1 ?_
      refine j_istore (ls' := [(8, .int x1), (0, .ref (z + aX 0 0 0)), (1, .ref D.2.2.2.2.2.2.1), (6, .int v6), (7, .int v7)]) E (lt_ rfl) rfl dL_cellar_410 ?_
      obtain ⟨u1, hu1, hr1⟩ := bn1_e hf
      have K1 : ∀ o1 : Int32, u1 = o1 → J p l e (rmk 5 1 4) s m args below meth c D z (GG D z (X, YL D z Y s.heap.size [(a4, aint D 0 4 f4)])) 1 4 (MQ below (QC z (some (.int r)) (GG D z (X, Y))) args s (rmk 5 1 4).cells (rmk 5 1 4).slots (Az z)) 11 461 [(0, .ref (z + aX 0 0 0)), (1, .ref D.2.2.2.2.2.2.1), (6, .int v6), (7, .int v7), (8, .int x1)] [.int o1] := by
        intro o1 hv
        have hv := hv.symm
        subst hv
        have hf := hr1
        refine j_istore (ls' := [(9, .int o1), (0, .ref (z + aX 0 0 0)), (1, .ref D.2.2.2.2.2.2.1), (6, .int v6), (7, .int v7), (8, .int x1)]) E (lt_ rfl) rfl dL_cellar_461 ?_
        obtain ⟨u2, hu2, hr2⟩ := bn1_e hf
        have K2 : ∀ o2 : Int32, u2 = o2 → J p l e (rmk 5 1 4) s m args below meth c D z (GG D z (X, YL D z Y s.heap.size [(a4, aint D 0 4 f4)])) 1 4 (MQ below (QC z (some (.int r)) (GG D z (X, Y))) args s (rmk 5 1 4).cells (rmk 5 1 4).slots (Az z)) 11 496 [(0, .ref (z + aX 0 0 0)), (1, .ref D.2.2.2.2.2.2.1), (6, .int v6), (7, .int v7), (8, .int x1), (9, .int o1)] [.int o2] := by
          intro o2 hv
          have hv := hv.symm
          subst hv
          have hf := hr2
          refine j_istore (ls' := [(10, .int o2), (0, .ref (z + aX 0 0 0)), (1, .ref D.2.2.2.2.2.2.1), (6, .int v6), (7, .int v7), (8, .int x1), (9, .int o1)]) E (lt_ rfl) rfl dL_cellar_496 ?_
          refine j_aload_n E 1 rfl dL_cellar_498 ?_
          refine j_iload E 3 rfl dL_cellar_499 ?_
          refine j_iload E 4 rfl dL_cellar_501 ?_
          refine j_iload E 5 rfl dL_cellar_503 ?_
          obtain ⟨r1, h1, hf⟩ := bn1_e hf
          refine j_invV [] [.int r1] E (c_X11_refusal h1) ml_L_368 mv_X11_refusal rfl ⟨le_ rfl, le_ rfl⟩ (rcX ok0 cf_X11 ent0) rfl rfl (le_ rfl) ⟨le_ rfl, le_ rfl⟩ dL_cellar_505 ?_
          refine j_iload E 6 rfl dL_cellar_508 ?_
          refine j_icmp_ne E 550 (by decide) dL_cellar_510 (fun c2 => ?_) (fun c2 => ?_)
          · rw [if_neg c2] at hf
            refine j_iconst E 0 ic_0 dL_cellar_550 ?_
            cases hf
            have hf := hr _ rfl
            subst hf
            refine j_wk (P' := (GG D z (X, Y))) (fun H h => gl_out h) ?_
            exact j_iret E rfl (le_ rfl) (le_ rfl) dL_cellar_551
          · rw [if_pos c2] at hf
            refine j_aload_n E 1 rfl dL_cellar_513 ?_
            refine j_iload E 3 rfl dL_cellar_514 ?_
            refine j_iload E 4 rfl dL_cellar_516 ?_
            refine j_iload E 5 rfl dL_cellar_518 ?_
            obtain ⟨r2, h2, hf⟩ := bn1_e hf
            refine j_invV [] [.int r2] E (c_X11_valueIfDelivered h2) ml_L_371 mv_X11_valueIfDelivered rfl ⟨le_ rfl, le_ rfl⟩ (rcX ok0 cf_X11 ent0) rfl rfl (le_ rfl) ⟨le_ rfl, le_ rfl⟩ dL_cellar_520 ?_
            obtain ⟨u3, hu3, hr3⟩ := bn1_e hf
            have K3 : ∀ o3 : Int32, u3 = o3 → J p l e (rmk 5 1 4) s m args below meth c D z (GG D z (X, YL D z Y s.heap.size [(a4, aint D 0 4 f4)])) 1 4 (MQ below (QC z (some (.int r)) (GG D z (X, Y))) args s (rmk 5 1 4).cells (rmk 5 1 4).slots (Az z)) 11 547 [(0, .ref (z + aX 0 0 0)), (1, .ref D.2.2.2.2.2.2.1), (6, .int v6), (7, .int v7)] [.int o3, .int r2] := by
              intro o3 hv
              have hv := hv.symm
              subst hv
              have hf := hr3
              refine j_icmp_eq E 552 (by decide) dL_cellar_547 (fun c3 => ?_) (fun c3 => ?_)
              · rw [if_pos c3] at hf
                refine jl_iincW (ls' := [(7, .int (v7 + 271)), (0, .ref (z + aX 0 0 0)), (1, .ref D.2.2.2.2.2.2.1), (6, .int v6)]) E 3 rfl (lt_ rfl) (v7 + 271) (congrArg (fun q => v7 + q) ic271) rfl dL_cellar_552 ?_
                refine j_goto E 387 (by decide) dL_cellar_558 ?_
                refine j_sub [1, 2, 3, 0] rfl ?_
                exact ih _ hf
              · rw [if_neg c3] at hf
                refine j_iconst E 0 ic_0 dL_cellar_550 ?_
                cases hf
                have hf := hr _ rfl
                subst hf
                refine j_wk (P' := (GG D z (X, Y))) (fun H h => gl_out h) ?_
                exact j_iret E rfl (le_ rfl) (le_ rfl) dL_cellar_551
            replace hf := hu3
            refine j_iload E 6 rfl dL_cellar_523 ?_
            refine j_if_le E 532 (by decide) dL_cellar_525 (fun c4 => ?_) (fun c4 => ?_)
            · rw [if_pos c4] at hf
              refine j_iload E 4 rfl dL_cellar_532 ?_
              refine j_aload_n E 1 rfl dL_cellar_534 ?_
              refine j_aload_n E 2 rfl dL_cellar_535 ?_
              refine j_iload E 3 rfl dL_cellar_536 ?_
              obtain ⟨r3, h3, hf⟩ := bn1_e hf
              refine j_invS [.ref (z + aX 0 0 0), .int v7, .int r2] [.int r3, .ref (z + aX 0 0 0), .int v7, .int r2] E (c_L_wine h3) ml_L_112 ms_L_wine rfl ⟨le_ rfl, le_ rfl⟩ rfl rfl (le_ rfl) ⟨le_ rfl, le_ rfl⟩ dL_cellar_538 ?_
              refine j_iload E 0 rfl dL_cellar_541 ?_
              obtain ⟨r4, h4, hf⟩ := bn1_e hf
              refine j_invV [.int v7, .int r2] [.int r4, .int v7, .int r2] E (c_X11_price h4) ml_L_160 mv_X11_price rfl ⟨le_ rfl, le_ rfl⟩ (rcX ok0 cf_X11 ent0) rfl rfl (le_ rfl) ⟨le_ rfl, le_ rfl⟩ dL_cellar_543 ?_
              refine j_imul E dL_cellar_546 ?_
              cases hf
              refine j_sub [1, 2, 3, 4] rfl ?_
              exact K3 _ rfl
            · rw [if_neg c4] at hf
              refine j_iconst E (-1) ic_m1 dL_cellar_528 ?_
              refine j_goto E 547 (by decide) dL_cellar_529 ?_
              cases hf
              refine j_sub [1, 2, 3, 4] rfl ?_
              exact K3 _ rfl
        replace hf := hu2
        refine j_aload_n E 1 rfl dL_cellar_463 ?_
        refine j_iload E 3 rfl dL_cellar_464 ?_
        obtain ⟨r5, h5, hf⟩ := bn1_e hf
        refine j_invV [] [.int r5] E (c_X11_harvested h5) ml_L_166 mv_X11_harvested rfl ⟨le_ rfl, le_ rfl⟩ (rcX ok0 cf_X11 ent0) rfl rfl (le_ rfl) ⟨le_ rfl, le_ rfl⟩ dL_cellar_466 ?_
        refine j_iload E 4 rfl dL_cellar_469 ?_
        refine j_iadd E dL_cellar_471 ?_
        refine j_aload_n E 1 rfl dL_cellar_472 ?_
        refine j_iload E 3 rfl dL_cellar_473 ?_
        obtain ⟨r6, h6, hf⟩ := bn1_e hf
        refine j_invV [.int (r5 + v7)] [.int r6, .int (r5 + v7)] E (c_X11_yieldLimit h6) ml_L_163 mv_X11_yieldLimit rfl ⟨le_ rfl, le_ rfl⟩ (rcX ok0 cf_X11 ent0) rfl rfl (le_ rfl) ⟨le_ rfl, le_ rfl⟩ dL_cellar_475 ?_
        refine j_icmp_le E 490 (by decide) dL_cellar_478 (fun c5 => ?_) (fun c5 => ?_)
        · rw [if_pos c5] at hf
          refine j_aload_n E 2 rfl dL_cellar_490 ?_
          refine j_iload E 5 rfl dL_cellar_491 ?_
          obtain ⟨r7, h7, hf⟩ := bn1_e hf
          refine j_invS [] [.int r7] E (c_L_grade h7) ml_L_181 ms_L_grade rfl ⟨le_ rfl, le_ rfl⟩ rfl rfl (le_ rfl) ⟨le_ rfl, le_ rfl⟩ dL_cellar_493 ?_
          cases hf
          refine j_sub [1, 2, 3, 4, 5, 0] rfl ?_
          exact K2 _ rfl
        · rw [if_neg c5] at hf
          refine j_aload_n E 2 rfl dL_cellar_481 ?_
          obtain ⟨r8, h8, hf⟩ := bn1_e hf
          refine j_invS [] [.int r8] E (c_L_grades h8) ml_L_51 ms_L_grades rfl ⟨le_ rfl, le_ rfl⟩ rfl rfl (le_ rfl) ⟨le_ rfl, le_ rfl⟩ dL_cellar_482 ?_
          refine j_iconst E 1 ic_1 dL_cellar_485 ?_
          refine j_isub E dL_cellar_486 ?_
          refine j_goto E 496 (by decide) dL_cellar_487 ?_
          cases hf
          refine j_sub [1, 2, 3, 4, 5, 0] rfl ?_
          exact K2 _ rfl
      replace hf := hu1
      refine j_aload_n E 1 rfl dL_cellar_412 ?_
      obtain ⟨r9, h9, hf⟩ := bn1_e hf
      refine j_invV [] [.int r9] E (c_X11_loadCount h9) ml_L_151 mv_X11_loadCount rfl ⟨le_ rfl, le_ rfl⟩ (rcX ok0 cf_X11 ent0) rfl rfl (le_ rfl) ⟨le_ rfl, le_ rfl⟩ dL_cellar_413 ?_
      refine j_bipush E 20 bp_20 dL_cellar_416 ?_
      refine j_icmp_ne E 425 (by decide) dL_cellar_418 (fun c6 => ?_) (fun c6 => ?_)
      · rw [if_neg c6] at hf
        refine j_aload_n E 2 rfl dL_cellar_425 ?_
        refine j_iload E 0 rfl dL_cellar_426 ?_
        obtain ⟨r10, h10, hf⟩ := bn1_e hf
        refine j_invS [] [.int r10] E (c_L_grade h10) ml_L_181 ms_L_grade rfl ⟨le_ rfl, le_ rfl⟩ rfl rfl (le_ rfl) ⟨le_ rfl, le_ rfl⟩ dL_cellar_428 ?_
        refine j_iconst E (-1) ic_m1 dL_cellar_431 ?_
        refine j_icmp_ne E 439 (by decide) dL_cellar_432 (fun c7 => ?_) (fun c7 => ?_)
        · rw [if_neg c7] at hf
          refine j_aload_n E 1 rfl dL_cellar_439 ?_
          refine j_aload_n E 2 rfl dL_cellar_440 ?_
          refine j_aload_n E 2 rfl dL_cellar_441 ?_
          refine j_iload E 3 rfl dL_cellar_442 ?_
          obtain ⟨r11, h11, hf⟩ := bn1_e hf
          refine j_invS [.ref D.2.2.2.2.2.2.1, .ref (z + aX 0 0 0)] [.int r11, .ref D.2.2.2.2.2.2.1, .ref (z + aX 0 0 0)] E (c_L_wine h11) ml_L_112 ms_L_wine rfl ⟨le_ rfl, le_ rfl⟩ rfl rfl (le_ rfl) ⟨le_ rfl, le_ rfl⟩ dL_cellar_444 ?_
          refine j_iload E 4 rfl dL_cellar_447 ?_
          obtain ⟨r12, h12, hf⟩ := bn1_e hf
          refine j_invS [] [.int r12] E (c_L_tank h12) ml_L_361 ms_L_tank rfl ⟨le_ rfl, le_ rfl⟩ rfl rfl (le_ rfl) ⟨le_ rfl, le_ rfl⟩ dL_cellar_449 ?_
          refine j_iconst E (-1) ic_m1 dL_cellar_452 ?_
          refine j_icmp_ne E 460 (by decide) dL_cellar_453 (fun c8 => ?_) (fun c8 => ?_)
          · rw [if_neg c8] at hf
            refine j_iconst E 0 ic_0 dL_cellar_460 ?_
            cases hf
            refine j_sub [1, 2, 3, 4, 0] rfl ?_
            exact K1 _ rfl
          · rw [if_pos c8] at hf
            refine j_iconst E 3 ic_3 dL_cellar_456 ?_
            refine j_goto E 461 (by decide) dL_cellar_457 ?_
            cases hf
            refine j_sub [1, 2, 3, 4, 0] rfl ?_
            exact K1 _ rfl
        · rw [if_pos c7] at hf
          refine j_iconst E 2 ic_2 dL_cellar_435 ?_
          refine j_goto E 461 (by decide) dL_cellar_436 ?_
          cases hf
          refine j_sub [1, 2, 3, 4, 0] rfl ?_
          exact K1 _ rfl
      · rw [if_pos c6] at hf
        refine j_iconst E 1 ic_1 dL_cellar_421 ?_
        refine j_goto E 461 (by decide) dL_cellar_422 ?_
        cases hf
        refine j_sub [1, 2, 3, 4, 0] rfl ?_
        exact K1 _ rfl
set_option maxRecDepth 20000 in
theorem b_L_cellar_374 {p : Program} {l : Launch} {e : Env} {s : State} {m : MethodId} {args : Array Value} {below : List Frame} {meth : Method} {c : Code} {D : DD} {z : Nat} {Y : YT} {X : XT} {a4 : Nat} (E : Cx p s m args meth c D z RL cL_cellar 11 (some .boolean)) {r : Int32} : ∀ (n : Nat) (f4 : (Nat → Int32)) (v6 : Int32) (hf : f_L_cellar_374 X D.2.2.2.2.2.2.2 n f4 v6 = some r), J p l e (rmk 5 1 4) s m args below meth c D z (GG D z (X, YL D z Y s.heap.size [(a4, aint D 0 4 f4)])) 1 4 (MQ below (QC z (some (.int r)) (GG D z (X, Y))) args s (rmk 5 1 4).cells (rmk 5 1 4).slots (Az z)) 11 374 [(0, .ref (z + aX 0 0 0)), (1, .ref D.2.2.2.2.2.2.1), (6, .int v6)] [] := by
  intro n
  induction n with
  | zero =>
    intro f4 v6 hf
    exact none_e hf
  | succ n ih =>
    intro f4 v6 hf
    rw [f_L_cellar_374] at hf
    refine j_iload E 2 rfl dL_cellar_374 ?_
    refine j_aload_n E 0 rfl dL_cellar_376 ?_
    obtain ⟨r1, h1, hf⟩ := bn1_e hf
    refine j_invV [.int v6] [.int r1, .int v6] E (c_X11_plotCount h1) ml_L_148 mv_X11_plotCount rfl ⟨le_ rfl, le_ rfl⟩ (rcX ok0 cf_X11 ent0) rfl rfl (le_ rfl) ⟨le_ rfl, le_ rfl⟩ dL_cellar_377 ?_
    refine j_icmp_ge E 567 (by decide) dL_cellar_380 (fun c1 => ?_) (fun c1 => ?_)
    · rw [if_pos c1] at hf
      refine j_iconst E 1 ic_1 dL_cellar_567 ?_
      cases hf
      refine j_wk (P' := (GG D z (X, Y))) (fun H h => gl_out h) ?_
      exact j_iret E rfl (le_ rfl) (le_ rfl) dL_cellar_568
    · rw [if_neg c1] at hf
      refine j_bipush E 40 bp_40 dL_cellar_383 ?_
      refine j_istore (ls' := [(7, .int 40), (0, .ref (z + aX 0 0 0)), (1, .ref D.2.2.2.2.2.2.1), (6, .int v6)]) E (lt_ rfl) rfl dL_cellar_385 ?_
      obtain ⟨u1, hu1, hr1⟩ := bn1_e hf
      have K1 : ∀ o1 : Unit, u1 = .inr o1 → J p l e (rmk 5 1 4) s m args below meth c D z (GG D z (X, YL D z Y s.heap.size [(a4, aint D 0 4 f4)])) 1 4 (MQ below (QC z (some (.int r)) (GG D z (X, Y))) args s (rmk 5 1 4).cells (rmk 5 1 4).slots (Az z)) 11 561 [(0, .ref (z + aX 0 0 0)), (1, .ref D.2.2.2.2.2.2.1), (6, .int v6)] [] := by
        intro o1 hv
        rw [hv] at hr1
        have hf := jn_s hr1
        refine j_iinc (ls' := [(6, .int (v6 + 1)), (0, .ref (z + aX 0 0 0)), (1, .ref D.2.2.2.2.2.2.1)]) E 2 rfl (lt_ rfl) (v6 + 1) (congrArg (fun q => v6 + q) ic_1) rfl dL_cellar_561 ?_
        refine j_goto E 374 (by decide) dL_cellar_564 ?_
        refine j_sub [1, 2, 0] rfl ?_
        exact ih _ _ hf
      refine j_sub [1, 2, 3, 0] rfl ?_
      exact b_L_cellar_387 E (fun v hv => by rw [hv] at hr1; have hf := jn_n hr1; cases hf; rfl) K1 2000 _ hu1
set_option maxRecDepth 20000 in
theorem b_L_cellar_326 {p : Program} {l : Launch} {e : Env} {s : State} {m : MethodId} {args : Array Value} {below : List Frame} {meth : Method} {c : Code} {D : DD} {z : Nat} {Y : YT} {X : XT} {a4 : Nat} {f4 : Nat → Int32} {v6 : Int32} (E : Cx p s m args meth c D z RL cL_cellar 11 (some .boolean)) {r : Int32} {y : Sum Int32 (Unit)} (hr : ∀ v, y = .inl v → r = v) (K : ∀ o : Unit, y = .inr o → J p l e (rmk 5 1 4) s m args below meth c D z (GG D z (X, YL D z Y s.heap.size [(a4, aint D 0 4 f4)])) 1 4 (MQ below (QC z (some (.int r)) (GG D z (X, Y))) args s (rmk 5 1 4).cells (rmk 5 1 4).slots (Az z)) 11 365 [(0, .ref (z + aX 0 0 0)), (1, .ref D.2.2.2.2.2.2.1), (4, .ref a4), (6, .int v6)] []) : ∀ (n : Nat) (v8 : Int32) (hf : f_L_cellar_326 X D.2.2.2.2.2.2.2 f4 v6 n v8 = some y), J p l e (rmk 5 1 4) s m args below meth c D z (GG D z (X, YL D z Y s.heap.size [(a4, aint D 0 4 f4)])) 1 4 (MQ below (QC z (some (.int r)) (GG D z (X, Y))) args s (rmk 5 1 4).cells (rmk 5 1 4).slots (Az z)) 11 326 [(0, .ref (z + aX 0 0 0)), (1, .ref D.2.2.2.2.2.2.1), (4, .ref a4), (6, .int v6), (8, .int v8)] [] := by
  intro n
  induction n with
  | zero =>
    intro v8 hf
    exact none_e hf
  | succ n ih =>
    intro v8 hf
    rw [f_L_cellar_326] at hf
    refine j_iload E 4 rfl dL_cellar_326 ?_
    refine j_sipush E 3000 sp_3000 dL_cellar_328 ?_
    refine j_icmp_ge E 365 (by decide) dL_cellar_331 (fun c1 => ?_) (fun c1 => ?_)
    · rw [if_pos c1] at hf
      cases hf
      refine j_sub [0, 1, 2, 3] rfl ?_
      exact K _ rfl
    · rw [if_neg c1] at hf
      refine j_aload_n E 0 rfl dL_cellar_334 ?_
      refine j_iload E 3 rfl dL_cellar_335 ?_
      refine j_iload E 4 rfl dL_cellar_337 ?_
      obtain ⟨r1, h1, hf⟩ := bn1_e hf
      refine j_invV [] [.int r1] E (c_X11_tankFor h1) ml_L_365 mv_X11_tankFor rfl ⟨le_ rfl, le_ rfl⟩ (rcX ok0 cf_X11 ent0) rfl rfl (le_ rfl) ⟨le_ rfl, le_ rfl⟩ dL_cellar_339 ?_
      refine j_aload_n E 0 rfl dL_cellar_342 ?_
      refine j_aload_n E 1 rfl dL_cellar_343 ?_
      refine j_iload E 3 rfl dL_cellar_344 ?_
      refine j_iload E 4 rfl dL_cellar_346 ?_
      obtain ⟨r2, h2, hf⟩ := bn1_e hf
      refine j_invS [.int r1] [.int r2, .int r1] E (c_L_tank h2) ml_L_361 ms_L_tank rfl ⟨le_ rfl, le_ rfl⟩ rfl rfl (le_ rfl) ⟨le_ rfl, le_ rfl⟩ dL_cellar_348 ?_
      refine j_icmp_eq E 356 (by decide) dL_cellar_351 (fun c2 => ?_) (fun c2 => ?_)
      · rw [if_pos c2] at hf
        refine jl_iincW (ls' := [(8, .int (v8 + 457)), (0, .ref (z + aX 0 0 0)), (1, .ref D.2.2.2.2.2.2.1), (4, .ref a4), (6, .int v6)]) E 4 rfl (lt_ rfl) (v8 + 457) (congrArg (fun q => v8 + q) ic457) rfl dL_cellar_356 ?_
        refine j_goto E 326 (by decide) dL_cellar_362 ?_
        refine j_sub [1, 2, 3, 4, 0] rfl ?_
        exact ih _ hf
      · rw [if_neg c2] at hf
        refine j_iconst E 0 ic_0 dL_cellar_354 ?_
        cases hf
        have hf := hr _ rfl
        subst hf
        refine j_wk (P' := (GG D z (X, Y))) (fun H h => gl_out h) ?_
        exact j_iret E rfl (le_ rfl) (le_ rfl) dL_cellar_355
set_option maxRecDepth 20000 in
theorem b_L_cellar_249 {p : Program} {l : Launch} {e : Env} {s : State} {m : MethodId} {args : Array Value} {below : List Frame} {meth : Method} {c : Code} {D : DD} {z : Nat} {Y : YT} {X : XT} {a4 : Nat} (E : Cx p s m args meth c D z RL cL_cellar 11 (some .boolean)) {r : Int32} : ∀ (n : Nat) (f4 : (Nat → Int32)) (v6 : Int32) (hf : f_L_cellar_249 X D.2.2.2.2.2.2.2 n f4 v6 = some r), J p l e (rmk 5 1 4) s m args below meth c D z (GG D z (X, YL D z Y s.heap.size [(a4, aint D 0 4 f4)])) 1 4 (MQ below (QC z (some (.int r)) (GG D z (X, Y))) args s (rmk 5 1 4).cells (rmk 5 1 4).slots (Az z)) 11 249 [(0, .ref (z + aX 0 0 0)), (1, .ref D.2.2.2.2.2.2.1), (4, .ref a4), (6, .int v6)] [] := by
  intro n
  induction n with
  | zero =>
    intro f4 v6 hf
    exact none_e hf
  | succ n ih =>
    intro f4 v6 hf
    rw [f_L_cellar_249] at hf
    refine j_iload E 3 rfl dL_cellar_249 ?_
    refine j_aload_n E 0 rfl dL_cellar_251 ?_
    obtain ⟨r1, h1, hf⟩ := bn1_e hf
    refine j_invV [.int v6] [.int r1, .int v6] E (c_X11_varietyCount h1) ml_L_139 mv_X11_varietyCount rfl ⟨le_ rfl, le_ rfl⟩ (rcX ok0 cf_X11 ent0) rfl rfl (le_ rfl) ⟨le_ rfl, le_ rfl⟩ dL_cellar_252 ?_
    refine j_icmp_ge E 371 (by decide) dL_cellar_255 (fun c1 => ?_) (fun c1 => ?_)
    · rw [if_pos c1] at hf
      refine j_iconst E 0 ic_0 dL_cellar_371 ?_
      refine j_istore (ls' := [(6, .int 0), (0, .ref (z + aX 0 0 0)), (1, .ref D.2.2.2.2.2.2.1), (4, .ref a4)]) E (lt_ rfl) rfl dL_cellar_372 ?_
      refine j_sub [1, 2, 0] rfl ?_
      exact b_L_cellar_374 E 2000 _ _ hf
    · rw [if_neg c1] at hf
      refine j_aload_n E 0 rfl dL_cellar_258 ?_
      refine j_iload E 3 rfl dL_cellar_259 ?_
      obtain ⟨r2, h2, hf⟩ := bn1_e hf
      refine j_invV [] [.int r2] E (c_X11_greatestLoad h2) ml_L_355 mv_X11_greatestLoad rfl ⟨le_ rfl, le_ rfl⟩ (rcX ok0 cf_X11 ent0) rfl rfl (le_ rfl) ⟨le_ rfl, le_ rfl⟩ dL_cellar_261 ?_
      refine j_istore (ls' := [(7, .int r2), (0, .ref (z + aX 0 0 0)), (1, .ref D.2.2.2.2.2.2.1), (4, .ref a4), (6, .int v6)]) E (lt_ rfl) rfl dL_cellar_264 ?_
      refine j_aload_n E 1 rfl dL_cellar_266 ?_
      refine j_iload E 4 rfl dL_cellar_267 ?_
      obtain ⟨r3, h3, hf⟩ := bn1_e hf
      refine j_invV [] [.int r3] E (c_X11_bottlesOf h3) ml_L_358 mv_X11_bottlesOf rfl ⟨le_ rfl, le_ rfl⟩ (rcX ok0 cf_X11 ent0) rfl rfl (le_ rfl) ⟨le_ rfl, le_ rfl⟩ dL_cellar_269 ?_
      refine j_aload E 3 rfl dL_cellar_272 ?_
      refine j_iload E 4 rfl dL_cellar_274 ?_
      obtain ⟨g1, hf⟩ := gd_e hf
      obtain ⟨x1, hx1, hf⟩ := bnd_e hf
      refine jl_iald E (fun H h => gl_at h 0 rfl) g1 hx1.symm dL_cellar_276 ?_
      refine j_icmp_ne E 321 (by decide) dL_cellar_277 (fun c2 => ?_) (fun c2 => ?_)
      · rw [if_neg c2] at hf
        refine j_iconst E 0 ic_0 dL_cellar_321 ?_
        cases hf
        refine j_wk (P' := (GG D z (X, Y))) (fun H h => gl_out h) ?_
        exact j_iret E rfl (le_ rfl) (le_ rfl) dL_cellar_322
      · rw [if_pos c2] at hf
        refine j_iload E 0 rfl dL_cellar_280 ?_
        refine j_if_le E 298 (by decide) dL_cellar_282 (fun c3 => ?_) (fun c3 => ?_)
        · rw [if_pos c3] at hf
          refine j_iload E 0 rfl dL_cellar_298 ?_
          refine j_sipush E 5000 sp_5000 dL_cellar_300 ?_
          refine j_icmp_ge E 323 (by decide) dL_cellar_303 (fun c4 => ?_) (fun c4 => ?_)
          · rw [if_pos c4] at hf
            refine j_iconst E 1 ic_1 dL_cellar_323 ?_
            refine j_istore (ls' := [(8, .int 1), (7, .int r2), (0, .ref (z + aX 0 0 0)), (1, .ref D.2.2.2.2.2.2.1), (4, .ref a4), (6, .int v6)]) E (lt_ rfl) rfl dL_cellar_324 ?_
            obtain ⟨u1, hu1, hr1⟩ := bn1_e hf
            have K1 : ∀ o1 : Unit, u1 = .inr o1 → J p l e (rmk 5 1 4) s m args below meth c D z (GG D z (X, YL D z Y s.heap.size [(a4, aint D 0 4 f4)])) 1 4 (MQ below (QC z (some (.int r)) (GG D z (X, Y))) args s (rmk 5 1 4).cells (rmk 5 1 4).slots (Az z)) 11 365 [(0, .ref (z + aX 0 0 0)), (1, .ref D.2.2.2.2.2.2.1), (4, .ref a4), (6, .int v6)] [] := by
              intro o1 hv
              rw [hv] at hr1
              have hf := jn_s hr1
              refine j_iinc (ls' := [(6, .int (v6 + 1)), (0, .ref (z + aX 0 0 0)), (1, .ref D.2.2.2.2.2.2.1), (4, .ref a4)]) E 3 rfl (lt_ rfl) (v6 + 1) (congrArg (fun q => v6 + q) ic_1) rfl dL_cellar_365 ?_
              refine j_goto E 249 (by decide) dL_cellar_368 ?_
              refine j_sub [1, 2, 3, 0] rfl ?_
              exact ih _ _ hf
            refine j_sub [2, 3, 4, 5, 0] rfl ?_
            exact b_L_cellar_326 E (fun v hv => by rw [hv] at hr1; have hf := jn_n hr1; cases hf; rfl) K1 2000 _ hu1
          · rw [if_neg c4] at hf
            refine j_aload_n E 1 rfl dL_cellar_306 ?_
            refine j_aload_n E 2 rfl dL_cellar_307 ?_
            refine j_iload E 4 rfl dL_cellar_308 ?_
            refine j_iload E 0 rfl dL_cellar_310 ?_
            refine j_iconst E 1 ic_1 dL_cellar_312 ?_
            refine j_iadd E dL_cellar_313 ?_
            obtain ⟨r4, h4, hf⟩ := bn1_e hf
            refine j_invS [] [.int r4] E (c_L_tank h4) ml_L_361 ms_L_tank rfl ⟨le_ rfl, le_ rfl⟩ rfl rfl (le_ rfl) ⟨le_ rfl, le_ rfl⟩ dL_cellar_314 ?_
            refine j_iconst E (-1) ic_m1 dL_cellar_317 ?_
            refine j_icmp_eq E 323 (by decide) dL_cellar_318 (fun c5 => ?_) (fun c5 => ?_)
            · rw [if_pos c5] at hf
              refine j_iconst E 1 ic_1 dL_cellar_323 ?_
              refine j_istore (ls' := [(8, .int 1), (7, .int r2), (0, .ref (z + aX 0 0 0)), (1, .ref D.2.2.2.2.2.2.1), (4, .ref a4), (6, .int v6)]) E (lt_ rfl) rfl dL_cellar_324 ?_
              obtain ⟨u2, hu2, hr2⟩ := bn1_e hf
              have K2 : ∀ o2 : Unit, u2 = .inr o2 → J p l e (rmk 5 1 4) s m args below meth c D z (GG D z (X, YL D z Y s.heap.size [(a4, aint D 0 4 f4)])) 1 4 (MQ below (QC z (some (.int r)) (GG D z (X, Y))) args s (rmk 5 1 4).cells (rmk 5 1 4).slots (Az z)) 11 365 [(0, .ref (z + aX 0 0 0)), (1, .ref D.2.2.2.2.2.2.1), (4, .ref a4), (6, .int v6)] [] := by
                intro o2 hv
                rw [hv] at hr2
                have hf := jn_s hr2
                refine j_iinc (ls' := [(6, .int (v6 + 1)), (0, .ref (z + aX 0 0 0)), (1, .ref D.2.2.2.2.2.2.1), (4, .ref a4)]) E 3 rfl (lt_ rfl) (v6 + 1) (congrArg (fun q => v6 + q) ic_1) rfl dL_cellar_365 ?_
                refine j_goto E 249 (by decide) dL_cellar_368 ?_
                refine j_sub [1, 2, 3, 0] rfl ?_
                exact ih _ _ hf
              refine j_sub [2, 3, 4, 5, 0] rfl ?_
              exact b_L_cellar_326 E (fun v hv => by rw [hv] at hr2; have hf := jn_n hr2; cases hf; rfl) K2 2000 _ hu2
            · rw [if_neg c5] at hf
              refine j_iconst E 0 ic_0 dL_cellar_321 ?_
              cases hf
              refine j_wk (P' := (GG D z (X, Y))) (fun H h => gl_out h) ?_
              exact j_iret E rfl (le_ rfl) (le_ rfl) dL_cellar_322
        · rw [if_neg c3] at hf
          refine j_aload_n E 1 rfl dL_cellar_285 ?_
          refine j_aload_n E 2 rfl dL_cellar_286 ?_
          refine j_iload E 4 rfl dL_cellar_287 ?_
          refine j_iload E 0 rfl dL_cellar_289 ?_
          obtain ⟨r5, h5, hf⟩ := bn1_e hf
          refine j_invS [] [.int r5] E (c_L_tank h5) ml_L_361 ms_L_tank rfl ⟨le_ rfl, le_ rfl⟩ rfl rfl (le_ rfl) ⟨le_ rfl, le_ rfl⟩ dL_cellar_291 ?_
          refine j_iconst E (-1) ic_m1 dL_cellar_294 ?_
          refine j_icmp_eq E 321 (by decide) dL_cellar_295 (fun c6 => ?_) (fun c6 => ?_)
          · rw [if_pos c6] at hf
            refine j_iconst E 0 ic_0 dL_cellar_321 ?_
            cases hf
            refine j_wk (P' := (GG D z (X, Y))) (fun H h => gl_out h) ?_
            exact j_iret E rfl (le_ rfl) (le_ rfl) dL_cellar_322
          · rw [if_neg c6] at hf
            refine j_iload E 0 rfl dL_cellar_298 ?_
            refine j_sipush E 5000 sp_5000 dL_cellar_300 ?_
            refine j_icmp_ge E 323 (by decide) dL_cellar_303 (fun c7 => ?_) (fun c7 => ?_)
            · rw [if_pos c7] at hf
              refine j_iconst E 1 ic_1 dL_cellar_323 ?_
              refine j_istore (ls' := [(8, .int 1), (7, .int r2), (0, .ref (z + aX 0 0 0)), (1, .ref D.2.2.2.2.2.2.1), (4, .ref a4), (6, .int v6)]) E (lt_ rfl) rfl dL_cellar_324 ?_
              obtain ⟨u3, hu3, hr3⟩ := bn1_e hf
              have K3 : ∀ o3 : Unit, u3 = .inr o3 → J p l e (rmk 5 1 4) s m args below meth c D z (GG D z (X, YL D z Y s.heap.size [(a4, aint D 0 4 f4)])) 1 4 (MQ below (QC z (some (.int r)) (GG D z (X, Y))) args s (rmk 5 1 4).cells (rmk 5 1 4).slots (Az z)) 11 365 [(0, .ref (z + aX 0 0 0)), (1, .ref D.2.2.2.2.2.2.1), (4, .ref a4), (6, .int v6)] [] := by
                intro o3 hv
                rw [hv] at hr3
                have hf := jn_s hr3
                refine j_iinc (ls' := [(6, .int (v6 + 1)), (0, .ref (z + aX 0 0 0)), (1, .ref D.2.2.2.2.2.2.1), (4, .ref a4)]) E 3 rfl (lt_ rfl) (v6 + 1) (congrArg (fun q => v6 + q) ic_1) rfl dL_cellar_365 ?_
                refine j_goto E 249 (by decide) dL_cellar_368 ?_
                refine j_sub [1, 2, 3, 0] rfl ?_
                exact ih _ _ hf
              refine j_sub [2, 3, 4, 5, 0] rfl ?_
              exact b_L_cellar_326 E (fun v hv => by rw [hv] at hr3; have hf := jn_n hr3; cases hf; rfl) K3 2000 _ hu3
            · rw [if_neg c7] at hf
              refine j_aload_n E 1 rfl dL_cellar_306 ?_
              refine j_aload_n E 2 rfl dL_cellar_307 ?_
              refine j_iload E 4 rfl dL_cellar_308 ?_
              refine j_iload E 0 rfl dL_cellar_310 ?_
              refine j_iconst E 1 ic_1 dL_cellar_312 ?_
              refine j_iadd E dL_cellar_313 ?_
              obtain ⟨r6, h6, hf⟩ := bn1_e hf
              refine j_invS [] [.int r6] E (c_L_tank h6) ml_L_361 ms_L_tank rfl ⟨le_ rfl, le_ rfl⟩ rfl rfl (le_ rfl) ⟨le_ rfl, le_ rfl⟩ dL_cellar_314 ?_
              refine j_iconst E (-1) ic_m1 dL_cellar_317 ?_
              refine j_icmp_eq E 323 (by decide) dL_cellar_318 (fun c8 => ?_) (fun c8 => ?_)
              · rw [if_pos c8] at hf
                refine j_iconst E 1 ic_1 dL_cellar_323 ?_
                refine j_istore (ls' := [(8, .int 1), (7, .int r2), (0, .ref (z + aX 0 0 0)), (1, .ref D.2.2.2.2.2.2.1), (4, .ref a4), (6, .int v6)]) E (lt_ rfl) rfl dL_cellar_324 ?_
                obtain ⟨u4, hu4, hr4⟩ := bn1_e hf
                have K4 : ∀ o4 : Unit, u4 = .inr o4 → J p l e (rmk 5 1 4) s m args below meth c D z (GG D z (X, YL D z Y s.heap.size [(a4, aint D 0 4 f4)])) 1 4 (MQ below (QC z (some (.int r)) (GG D z (X, Y))) args s (rmk 5 1 4).cells (rmk 5 1 4).slots (Az z)) 11 365 [(0, .ref (z + aX 0 0 0)), (1, .ref D.2.2.2.2.2.2.1), (4, .ref a4), (6, .int v6)] [] := by
                  intro o4 hv
                  rw [hv] at hr4
                  have hf := jn_s hr4
                  refine j_iinc (ls' := [(6, .int (v6 + 1)), (0, .ref (z + aX 0 0 0)), (1, .ref D.2.2.2.2.2.2.1), (4, .ref a4)]) E 3 rfl (lt_ rfl) (v6 + 1) (congrArg (fun q => v6 + q) ic_1) rfl dL_cellar_365 ?_
                  refine j_goto E 249 (by decide) dL_cellar_368 ?_
                  refine j_sub [1, 2, 3, 0] rfl ?_
                  exact ih _ _ hf
                refine j_sub [2, 3, 4, 5, 0] rfl ?_
                exact b_L_cellar_326 E (fun v hv => by rw [hv] at hr4; have hf := jn_n hr4; cases hf; rfl) K4 2000 _ hu4
              · rw [if_neg c8] at hf
                refine j_iconst E 0 ic_0 dL_cellar_321 ?_
                cases hf
                refine j_wk (P' := (GG D z (X, Y))) (fun H h => gl_out h) ?_
                exact j_iret E rfl (le_ rfl) (le_ rfl) dL_cellar_322
set_option maxRecDepth 20000 in
theorem b_L_cellar_168 {p : Program} {l : Launch} {e : Env} {s : State} {m : MethodId} {args : Array Value} {below : List Frame} {meth : Method} {c : Code} {D : DD} {z : Nat} {Y : YT} {X : XT} {a4 : Nat} (E : Cx p s m args meth c D z RL cL_cellar 11 (some .boolean)) {r : Int32} : ∀ (n : Nat) (f4 : (Nat → Int32)) (v5 : Int32) (v6 : Int32) (hf : f_L_cellar_168 X D.2.2.2.2.2.2.2 n f4 v5 v6 = some r), J p l e (rmk 5 1 4) s m args below meth c D z (GG D z (X, YL D z Y s.heap.size [(a4, aint D 0 4 f4)])) 1 4 (MQ below (QC z (some (.int r)) (GG D z (X, Y))) args s (rmk 5 1 4).cells (rmk 5 1 4).slots (Az z)) 11 168 [(0, .ref (z + aX 0 0 0)), (1, .ref D.2.2.2.2.2.2.1), (4, .ref a4), (5, .int v5), (6, .int v6)] [] := by
  intro n
  induction n with
  | zero =>
    intro f4 v5 v6 hf
    exact none_e hf
  | succ n ih =>
    intro f4 v5 v6 hf
    rw [f_L_cellar_168] at hf
    refine j_iload E 4 rfl dL_cellar_168 ?_
    refine j_aload_n E 0 rfl dL_cellar_170 ?_
    obtain ⟨r1, h1, hf⟩ := bn1_e hf
    refine j_invV [.int v6] [.int r1, .int v6] E (c_X11_lotCount h1) ml_L_154 mv_X11_lotCount rfl ⟨le_ rfl, le_ rfl⟩ (rcX ok0 cf_X11 ent0) rfl rfl (le_ rfl) ⟨le_ rfl, le_ rfl⟩ dL_cellar_171 ?_
    refine j_icmp_ge E 235 (by decide) dL_cellar_174 (fun c1 => ?_) (fun c1 => ?_)
    · rw [if_pos c1] at hf
      refine j_aload_n E 0 rfl dL_cellar_235 ?_
      obtain ⟨r2, h2, hf⟩ := bn1_e hf
      refine j_invV [] [.int r2] E (c_X11_sweetestLot h2) ml_L_352 mv_X11_sweetestLot rfl ⟨le_ rfl, le_ rfl⟩ (rcX ok0 cf_X11 ent0) rfl rfl (le_ rfl) ⟨le_ rfl, le_ rfl⟩ dL_cellar_236 ?_
      refine j_iload E 3 rfl dL_cellar_239 ?_
      refine j_icmp_eq E 246 (by decide) dL_cellar_241 (fun c2 => ?_) (fun c2 => ?_)
      · rw [if_pos c2] at hf
        refine j_iconst E 0 ic_0 dL_cellar_246 ?_
        refine j_istore (ls' := [(6, .int 0), (0, .ref (z + aX 0 0 0)), (1, .ref D.2.2.2.2.2.2.1), (4, .ref a4), (5, .int v5)]) E (lt_ rfl) rfl dL_cellar_247 ?_
        refine j_sub [1, 2, 3, 0] rfl ?_
        exact b_L_cellar_249 E 2000 _ _ hf
      · rw [if_neg c2] at hf
        refine j_iconst E 0 ic_0 dL_cellar_244 ?_
        cases hf
        refine j_wk (P' := (GG D z (X, Y))) (fun H h => gl_out h) ?_
        exact j_iret E rfl (le_ rfl) (le_ rfl) dL_cellar_245
    · rw [if_neg c1] at hf
      refine j_aload E 2 rfl dL_cellar_177 ?_
      refine j_aload_n E 0 rfl dL_cellar_179 ?_
      refine j_iload E 4 rfl dL_cellar_180 ?_
      obtain ⟨r3, h3, hf⟩ := bn1_e hf
      refine j_invV [.ref a4] [.int r3, .ref a4] E (c_X11_lotVariety h3) ml_L_349 mv_X11_lotVariety rfl ⟨le_ rfl, le_ rfl⟩ (rcX ok0 cf_X11 ent0) rfl rfl (le_ rfl) ⟨le_ rfl, le_ rfl⟩ dL_cellar_182 ?_
      refine j_dup2 E rfl rfl dL_cellar_185 ?_
      obtain ⟨g1, hf⟩ := gd_e hf
      obtain ⟨x1, hx1, hf⟩ := bnd_e hf
      refine jl_iald E (fun H h => gl_at h 0 rfl) g1 hx1.symm dL_cellar_186 ?_
      refine j_aload_n E 0 rfl dL_cellar_187 ?_
      refine j_iload E 4 rfl dL_cellar_188 ?_
      obtain ⟨r4, h4, hf⟩ := bn1_e hf
      refine j_invV [.int x1, .int r3, .ref a4] [.int r4, .int x1, .int r3, .ref a4] E (c_X11_unsold h4) ml_L_213 mv_X11_unsold rfl ⟨le_ rfl, le_ rfl⟩ (rcX ok0 cf_X11 ent0) rfl rfl (le_ rfl) ⟨le_ rfl, le_ rfl⟩ dL_cellar_190 ?_
      refine j_iadd E dL_cellar_193 ?_
      obtain ⟨g2, hf⟩ := gd_e hf
      obtain ⟨y1, hy1, hf⟩ := bnd_e hf
      refine jl_iast (L' := [(a4, aint D 0 4 y1)]) E rfl 0 rfl g2 _ rfl (by rw [hy1]; rfl) dL_cellar_194 ?_
      refine j_aload_n E 0 rfl dL_cellar_195 ?_
      refine j_iload E 4 rfl dL_cellar_196 ?_
      obtain ⟨r5, h5, hf⟩ := bn1_e hf
      refine j_invV [] [.int r5] E (c_X11_unsold h5) ml_L_213 mv_X11_unsold rfl ⟨le_ rfl, le_ rfl⟩ (rcX ok0 cf_X11 ent0) rfl rfl (le_ rfl) ⟨le_ rfl, le_ rfl⟩ dL_cellar_198 ?_
      refine j_if_le E 229 (by decide) dL_cellar_201 (fun c3 => ?_) (fun c3 => ?_)
      · rw [if_pos c3] at hf
        refine j_iinc (ls' := [(6, .int (v6 + 1)), (0, .ref (z + aX 0 0 0)), (1, .ref D.2.2.2.2.2.2.1), (4, .ref a4), (5, .int v5)]) E 4 rfl (lt_ rfl) (v6 + 1) (congrArg (fun q => v6 + q) ic_1) rfl dL_cellar_229 ?_
        refine j_goto E 168 (by decide) dL_cellar_232 ?_
        refine j_sub [1, 2, 3, 4, 0] rfl ?_
        exact ih _ _ _ hf
      · rw [if_neg c3] at hf
        refine j_iload E 3 rfl dL_cellar_204 ?_
        refine j_iconst E (-1) ic_m1 dL_cellar_206 ?_
        refine j_icmp_eq E 225 (by decide) dL_cellar_207 (fun c4 => ?_) (fun c4 => ?_)
        · rw [if_pos c4] at hf
          refine j_iload E 4 rfl dL_cellar_225 ?_
          refine j_istore (ls' := [(5, .int v6), (0, .ref (z + aX 0 0 0)), (1, .ref D.2.2.2.2.2.2.1), (4, .ref a4), (6, .int v6)]) E (lt_ rfl) rfl dL_cellar_227 ?_
          refine j_iinc (ls' := [(6, .int (v6 + 1)), (5, .int v6), (0, .ref (z + aX 0 0 0)), (1, .ref D.2.2.2.2.2.2.1), (4, .ref a4)]) E 4 rfl (lt_ rfl) (v6 + 1) (congrArg (fun q => v6 + q) ic_1) rfl dL_cellar_229 ?_
          refine j_goto E 168 (by decide) dL_cellar_232 ?_
          refine j_sub [2, 3, 4, 1, 0] rfl ?_
          exact ih _ _ _ hf
        · rw [if_neg c4] at hf
          refine j_aload_n E 0 rfl dL_cellar_210 ?_
          refine j_iload E 4 rfl dL_cellar_211 ?_
          obtain ⟨r6, h6, hf⟩ := bn1_e hf
          refine j_invV [] [.int r6] E (c_X11_lotSugar h6) ml_L_216 mv_X11_lotSugar rfl ⟨le_ rfl, le_ rfl⟩ (rcX ok0 cf_X11 ent0) rfl rfl (le_ rfl) ⟨le_ rfl, le_ rfl⟩ dL_cellar_213 ?_
          refine j_aload_n E 0 rfl dL_cellar_216 ?_
          refine j_iload E 3 rfl dL_cellar_217 ?_
          obtain ⟨r7, h7, hf⟩ := bn1_e hf
          refine j_invV [.int r6] [.int r7, .int r6] E (c_X11_lotSugar h7) ml_L_216 mv_X11_lotSugar rfl ⟨le_ rfl, le_ rfl⟩ (rcX ok0 cf_X11 ent0) rfl rfl (le_ rfl) ⟨le_ rfl, le_ rfl⟩ dL_cellar_219 ?_
          refine j_icmp_le E 229 (by decide) dL_cellar_222 (fun c5 => ?_) (fun c5 => ?_)
          · rw [if_pos c5] at hf
            refine j_iinc (ls' := [(6, .int (v6 + 1)), (0, .ref (z + aX 0 0 0)), (1, .ref D.2.2.2.2.2.2.1), (4, .ref a4), (5, .int v5)]) E 4 rfl (lt_ rfl) (v6 + 1) (congrArg (fun q => v6 + q) ic_1) rfl dL_cellar_229 ?_
            refine j_goto E 168 (by decide) dL_cellar_232 ?_
            refine j_sub [1, 2, 3, 4, 0] rfl ?_
            exact ih _ _ _ hf
          · rw [if_neg c5] at hf
            refine j_iload E 4 rfl dL_cellar_225 ?_
            refine j_istore (ls' := [(5, .int v6), (0, .ref (z + aX 0 0 0)), (1, .ref D.2.2.2.2.2.2.1), (4, .ref a4), (6, .int v6)]) E (lt_ rfl) rfl dL_cellar_227 ?_
            refine j_iinc (ls' := [(6, .int (v6 + 1)), (5, .int v6), (0, .ref (z + aX 0 0 0)), (1, .ref D.2.2.2.2.2.2.1), (4, .ref a4)]) E 4 rfl (lt_ rfl) (v6 + 1) (congrArg (fun q => v6 + q) ic_1) rfl dL_cellar_229 ?_
            refine j_goto E 168 (by decide) dL_cellar_232 ?_
            refine j_sub [2, 3, 4, 1, 0] rfl ?_
            exact ih _ _ _ hf
set_option maxRecDepth 20000 in
theorem b_L_cellar_12 {p : Program} {l : Launch} {e : Env} {s : State} {m : MethodId} {args : Array Value} {below : List Frame} {meth : Method} {c : Code} {D : DD} {z : Nat} {Y : YT} {X : XT} {a4 : Nat} (E : Cx p s m args meth c D z RL cL_cellar 11 (some .boolean)) {r : Int32} : ∀ (n : Nat) (f4 : (Nat → Int32)) (v2 : Int32) (v3 : Int32) (v5 : Int32) (hf : f_L_cellar_12 X D.2.2.2.2.2.2.2 n f4 v2 v3 v5 = some r), J p l e (rmk 5 1 4) s m args below meth c D z (GG D z (X, YL D z Y s.heap.size [(a4, aint D 0 4 f4)])) 1 4 (MQ below (QC z (some (.int r)) (GG D z (X, Y))) args s (rmk 5 1 4).cells (rmk 5 1 4).slots (Az z)) 11 12 [(0, .ref (z + aX 0 0 0)), (1, .ref D.2.2.2.2.2.2.1), (2, .int v2), (3, .int v3), (4, .ref a4), (5, .int v5)] [] := by
  intro n
  induction n with
  | zero =>
    intro f4 v2 v3 v5 hf
    exact none_e hf
  | succ n ih =>
    intro f4 v2 v3 v5 hf
    rw [f_L_cellar_12] at hf
    refine j_iload E 5 rfl dL_cellar_12 ?_
    refine j_aload_n E 1 rfl dL_cellar_14 ?_
    obtain ⟨r1, h1, hf⟩ := bn1_e hf
    refine j_invS [.int v5] [.int r1, .int v5] E (c_L_tanks h1) ml_L_118 ms_L_tanks rfl ⟨le_ rfl, le_ rfl⟩ rfl rfl (le_ rfl) ⟨le_ rfl, le_ rfl⟩ dL_cellar_15 ?_
    refine j_icmp_ge E 139 (by decide) dL_cellar_18 (fun c1 => ?_) (fun c1 => ?_)
    · rw [if_pos c1] at hf
      refine j_aload_n E 0 rfl dL_cellar_139 ?_
      obtain ⟨r2, h2, hf⟩ := bn1_e hf
      refine j_invV [] [.float r2] E (c_X11_fullness h2) ml_L_345 mv_X11_fullness rfl ⟨le_ rfl, le_ rfl⟩ (rcX ok0 cf_X11 ent0) rfl rfl (le_ rfl) ⟨le_ rfl, le_ rfl⟩ dL_cellar_140 ?_
      obtain ⟨u1, hu1, hr1⟩ := bn1_e hf
      have K1 : ∀ o1 : UInt32, u1 = o1 → J p l e (rmk 5 1 4) s m args below meth c D z (GG D z (X, YL D z Y s.heap.size [(a4, aint D 0 4 f4)])) 1 4 (MQ below (QC z (some (.int r)) (GG D z (X, Y))) args s (rmk 5 1 4).cells (rmk 5 1 4).slots (Az z)) 11 156 [(0, .ref (z + aX 0 0 0)), (1, .ref D.2.2.2.2.2.2.1), (4, .ref a4)] [.float o1, .float r2] := by
        intro o1 hv
        have hv := hv.symm
        subst hv
        have hf := hr1
        refine jl_fcmp E dL_cellar_156 ?_
        refine j_if_eq E 162 (by decide) dL_cellar_157 (fun c2 => ?_) (fun c2 => ?_)
        · rw [if_pos c2] at hf
          refine j_iconst E (-1) ic_m1 dL_cellar_162 ?_
          refine j_istore (ls' := [(5, .int (-1)), (0, .ref (z + aX 0 0 0)), (1, .ref D.2.2.2.2.2.2.1), (4, .ref a4)]) E (lt_ rfl) rfl dL_cellar_163 ?_
          refine j_iconst E 0 ic_0 dL_cellar_165 ?_
          refine j_istore (ls' := [(6, .int 0), (5, .int (-1)), (0, .ref (z + aX 0 0 0)), (1, .ref D.2.2.2.2.2.2.1), (4, .ref a4)]) E (lt_ rfl) rfl dL_cellar_166 ?_
          refine j_sub [2, 3, 4, 1, 0] rfl ?_
          exact b_L_cellar_168 E 2000 _ _ _ hf
        · rw [if_neg c2] at hf
          refine j_iconst E 0 ic_0 dL_cellar_160 ?_
          cases hf
          refine j_wk (P' := (GG D z (X, Y))) (fun H h => gl_out h) ?_
          exact j_iret E rfl (le_ rfl) (le_ rfl) dL_cellar_161
      replace hf := hu1
      refine j_iload_n E 3 rfl dL_cellar_143 ?_
      refine j_if_ne E 151 (by decide) dL_cellar_144 (fun c3 => ?_) (fun c3 => ?_)
      · rw [if_neg c3] at hf
        refine j_iload_n E 2 rfl dL_cellar_151 ?_
        refine j_i2f E dL_cellar_152 ?_
        refine j_iload_n E 3 rfl dL_cellar_153 ?_
        refine j_i2f E dL_cellar_154 ?_
        obtain ⟨g1, hf⟩ := gd_e hf
        refine j_fdiv E g1 dL_cellar_155 ?_
        cases hf
        refine j_sub [0, 1, 4] rfl ?_
        exact K1 _ rfl
      · rw [if_pos c3] at hf
        refine j_fconst0 E dL_cellar_147 ?_
        refine j_goto E 156 (by decide) dL_cellar_148 ?_
        cases hf
        refine j_sub [0, 1, 4] rfl ?_
        exact K1 _ rfl
    · rw [if_neg c1] at hf
      refine j_iload_n E 2 rfl dL_cellar_21 ?_
      refine j_aload_n E 0 rfl dL_cellar_22 ?_
      refine j_iload E 5 rfl dL_cellar_23 ?_
      obtain ⟨r3, h3, hf⟩ := bn1_e hf
      refine j_invV [.int v2] [.int r3, .int v2] E (c_X11_content h3) ml_L_169 mv_X11_content rfl ⟨le_ rfl, le_ rfl⟩ (rcX ok0 cf_X11 ent0) rfl rfl (le_ rfl) ⟨le_ rfl, le_ rfl⟩ dL_cellar_25 ?_
      refine j_iadd E dL_cellar_28 ?_
      obtain ⟨x1, hx1, hf⟩ := bnd_e hf
      refine j_name hx1 ?_
      refine j_istore_n (ls' := [(2, .int x1), (0, .ref (z + aX 0 0 0)), (1, .ref D.2.2.2.2.2.2.1), (3, .int v3), (4, .ref a4), (5, .int v5)]) E (lt_ rfl) rfl dL_cellar_29 ?_
      refine j_iload_n E 3 rfl dL_cellar_30 ?_
      refine j_aload_n E 2 rfl dL_cellar_31 ?_
      refine j_iload E 5 rfl dL_cellar_32 ?_
      obtain ⟨r4, h4, hf⟩ := bn1_e hf
      refine j_invS [.int v3] [.int r4, .int v3] E (c_L_capacity h4) ml_L_123 ms_L_capacity rfl ⟨le_ rfl, le_ rfl⟩ rfl rfl (le_ rfl) ⟨le_ rfl, le_ rfl⟩ dL_cellar_34 ?_
      refine j_iadd E dL_cellar_37 ?_
      obtain ⟨x2, hx2, hf⟩ := bnd_e hf
      refine j_name hx2 ?_
      refine j_istore_n (ls' := [(3, .int x2), (2, .int x1), (0, .ref (z + aX 0 0 0)), (1, .ref D.2.2.2.2.2.2.1), (4, .ref a4), (5, .int v5)]) E (lt_ rfl) rfl dL_cellar_38 ?_
      obtain ⟨u2, hu2, hr2⟩ := bn1_e hf
      have K2 : ∀ o2 : Unit, u2 = .inr o2 → J p l e (rmk 5 1 4) s m args below meth c D z (GG D z (X, YL D z Y s.heap.size [(a4, aint D 0 4 f4)])) 1 4 (MQ below (QC z (some (.int r)) (GG D z (X, Y))) args s (rmk 5 1 4).cells (rmk 5 1 4).slots (Az z)) 11 106 [(0, .ref (z + aX 0 0 0)), (1, .ref D.2.2.2.2.2.2.1), (2, .int x1), (3, .int x2), (4, .ref a4), (5, .int v5)] [] := by
        intro o2 hv
        rw [hv] at hr2
        have hf := jn_s hr2
        obtain ⟨u3, hu3, hr3⟩ := bn1_e hf
        have K3 : ∀ o3 : (Nat → Int32), u3 = o3 → J p l e (rmk 5 1 4) s m args below meth c D z (GG D z (X, YL D z Y s.heap.size [(a4, aint D 0 4 o3)])) 1 4 (MQ below (QC z (some (.int r)) (GG D z (X, Y))) args s (rmk 5 1 4).cells (rmk 5 1 4).slots (Az z)) 11 133 [(0, .ref (z + aX 0 0 0)), (1, .ref D.2.2.2.2.2.2.1), (2, .int x1), (3, .int x2), (4, .ref a4), (5, .int v5)] [] := by
          intro o3 hv
          have hv := hv.symm
          subst hv
          have hf := hr3
          refine j_iinc (ls' := [(5, .int (v5 + 1)), (0, .ref (z + aX 0 0 0)), (1, .ref D.2.2.2.2.2.2.1), (2, .int x1), (3, .int x2), (4, .ref a4)]) E 5 rfl (lt_ rfl) (v5 + 1) (congrArg (fun q => v5 + q) ic_1) rfl dL_cellar_133 ?_
          refine j_goto E 12 (by decide) dL_cellar_136 ?_
          refine j_sub [1, 2, 3, 4, 5, 0] rfl ?_
          exact ih _ _ _ _ hf
        replace hf := hu3
        refine j_aload_n E 0 rfl dL_cellar_106 ?_
        refine j_iload E 5 rfl dL_cellar_107 ?_
        obtain ⟨r5, h5, hf⟩ := bn1_e hf
        refine j_invV [] [.int r5] E (c_X11_content h5) ml_L_169 mv_X11_content rfl ⟨le_ rfl, le_ rfl⟩ (rcX ok0 cf_X11 ent0) rfl rfl (le_ rfl) ⟨le_ rfl, le_ rfl⟩ dL_cellar_109 ?_
        refine j_if_le E 133 (by decide) dL_cellar_112 (fun c4 => ?_) (fun c4 => ?_)
        · rw [if_pos c4] at hf
          cases hf
          exact K3 _ rfl
        · rw [if_neg c4] at hf
          refine j_aload E 4 rfl dL_cellar_115 ?_
          refine j_aload_n E 0 rfl dL_cellar_117 ?_
          refine j_iload E 5 rfl dL_cellar_118 ?_
          obtain ⟨r6, h6, hf⟩ := bn1_e hf
          refine j_invV [.ref a4] [.int r6, .ref a4] E (c_X11_varietyIn h6) ml_L_172 mv_X11_varietyIn rfl ⟨le_ rfl, le_ rfl⟩ (rcX ok0 cf_X11 ent0) rfl rfl (le_ rfl) ⟨le_ rfl, le_ rfl⟩ dL_cellar_120 ?_
          refine j_dup2 E rfl rfl dL_cellar_123 ?_
          obtain ⟨g2, hf⟩ := gd_e hf
          obtain ⟨x3, hx3, hf⟩ := bnd_e hf
          refine jl_iald E (fun H h => gl_at h 0 rfl) g2 hx3.symm dL_cellar_124 ?_
          refine j_aload_n E 0 rfl dL_cellar_125 ?_
          refine j_iload E 5 rfl dL_cellar_126 ?_
          obtain ⟨r7, h7, hf⟩ := bn1_e hf
          refine j_invV [.int x3, .int r6, .ref a4] [.int r7, .int x3, .int r6, .ref a4] E (c_X11_content h7) ml_L_169 mv_X11_content rfl ⟨le_ rfl, le_ rfl⟩ (rcX ok0 cf_X11 ent0) rfl rfl (le_ rfl) ⟨le_ rfl, le_ rfl⟩ dL_cellar_128 ?_
          refine j_iadd E dL_cellar_131 ?_
          obtain ⟨g3, hf⟩ := gd_e hf
          obtain ⟨y1, hy1, hf⟩ := bnd_e hf
          refine jl_iast (L' := [(a4, aint D 0 4 y1)]) E rfl 0 rfl g3 _ rfl (by rw [hy1]; rfl) dL_cellar_132 ?_
          cases hf
          exact K3 _ rfl
      replace hf := hu2
      refine j_aload_n E 2 rfl dL_cellar_39 ?_
      refine j_iload E 5 rfl dL_cellar_40 ?_
      obtain ⟨r8, h8, hf⟩ := bn1_e hf
      refine j_invV [] [.int r8] E (c_X11_content h8) ml_L_169 mv_X11_content rfl ⟨le_ rfl, le_ rfl⟩ (rcX ok0 cf_X11 ent0) rfl rfl (le_ rfl) ⟨le_ rfl, le_ rfl⟩ dL_cellar_42 ?_
      refine j_aload_n E 3 rfl dL_cellar_45 ?_
      refine j_iload E 5 rfl dL_cellar_46 ?_
      obtain ⟨r9, h9, hf⟩ := bn1_e hf
      refine j_invS [.int r8] [.int r9, .int r8] E (c_L_capacity h9) ml_L_123 ms_L_capacity rfl ⟨le_ rfl, le_ rfl⟩ rfl rfl (le_ rfl) ⟨le_ rfl, le_ rfl⟩ dL_cellar_48 ?_
      refine j_icmp_gt E 104 (by decide) dL_cellar_51 (fun c5 => ?_) (fun c5 => ?_)
      · rw [if_pos c5] at hf
        refine j_iconst E 0 ic_0 dL_cellar_104 ?_
        cases hf
        have hf := jn_n hr2
        cases hf
        refine j_wk (P' := (GG D z (X, Y))) (fun H h => gl_out h) ?_
        exact j_iret E rfl (le_ rfl) (le_ rfl) dL_cellar_105
      · rw [if_neg c5] at hf
        refine j_aload_n E 2 rfl dL_cellar_54 ?_
        refine j_iload E 5 rfl dL_cellar_55 ?_
        obtain ⟨r10, h10, hf⟩ := bn1_e hf
        refine j_invV [] [.int r10] E (c_X11_content h10) ml_L_169 mv_X11_content rfl ⟨le_ rfl, le_ rfl⟩ (rcX ok0 cf_X11 ent0) rfl rfl (le_ rfl) ⟨le_ rfl, le_ rfl⟩ dL_cellar_57 ?_
        refine j_if_ne E 67 (by decide) dL_cellar_60 (fun c6 => ?_) (fun c6 => ?_)
        · rw [if_neg c6] at hf
          refine j_iconst E 0 ic_0 dL_cellar_67 ?_
          refine j_aload_n E 2 rfl dL_cellar_68 ?_
          refine j_iload E 5 rfl dL_cellar_69 ?_
          obtain ⟨r11, h11, hf⟩ := bn1_e hf
          refine j_invV [.int 0] [.int r11, .int 0] E (c_X11_varietyIn h11) ml_L_172 mv_X11_varietyIn rfl ⟨le_ rfl, le_ rfl⟩ (rcX ok0 cf_X11 ent0) rfl rfl (le_ rfl) ⟨le_ rfl, le_ rfl⟩ dL_cellar_71 ?_
          refine j_iconst E (-1) ic_m1 dL_cellar_74 ?_
          refine j_icmp_ne E 82 (by decide) dL_cellar_75 (fun c7 => ?_) (fun c7 => ?_)
          · rw [if_neg c7] at hf
            refine j_iconst E 0 ic_0 dL_cellar_82 ?_
            refine j_icmp_ne E 104 (by decide) dL_cellar_83 (fun q => absurd q (by decide)) (fun _ => ?_)
            refine j_aload_n E 2 rfl dL_cellar_86 ?_
            refine j_iload E 5 rfl dL_cellar_87 ?_
            obtain ⟨r12, h12, hf⟩ := bn1_e hf
            refine j_invV [] [.int r12] E (c_X11_content h12) ml_L_169 mv_X11_content rfl ⟨le_ rfl, le_ rfl⟩ (rcX ok0 cf_X11 ent0) rfl rfl (le_ rfl) ⟨le_ rfl, le_ rfl⟩ dL_cellar_89 ?_
            refine j_if_ne E 106 (by decide) dL_cellar_92 (fun c8 => ?_) (fun c8 => ?_)
            · rw [if_neg c8] at hf
              cases hf
              refine j_sub [2, 3, 1, 0, 4, 5] rfl ?_
              exact K2 _ rfl
            · rw [if_pos c8] at hf
              refine j_aload_n E 2 rfl dL_cellar_95 ?_
              refine j_iload E 5 rfl dL_cellar_96 ?_
              obtain ⟨r13, h13, hf⟩ := bn1_e hf
              refine j_invV [] [.int r13] E (c_X11_meanSugar h13) ml_L_175 mv_X11_meanSugar rfl ⟨le_ rfl, le_ rfl⟩ (rcX ok0 cf_X11 ent0) rfl rfl (le_ rfl) ⟨le_ rfl, le_ rfl⟩ dL_cellar_98 ?_
              refine j_if_eq E 106 (by decide) dL_cellar_101 (fun c9 => ?_) (fun c9 => ?_)
              · rw [if_pos c9] at hf
                cases hf
                refine j_sub [2, 3, 1, 0, 4, 5] rfl ?_
                exact K2 _ rfl
              · rw [if_neg c9] at hf
                refine j_iconst E 0 ic_0 dL_cellar_104 ?_
                cases hf
                have hf := jn_n hr2
                cases hf
                refine j_wk (P' := (GG D z (X, Y))) (fun H h => gl_out h) ?_
                exact j_iret E rfl (le_ rfl) (le_ rfl) dL_cellar_105
          · rw [if_pos c7] at hf
            refine j_iconst E 1 ic_1 dL_cellar_78 ?_
            refine j_goto E 83 (by decide) dL_cellar_79 ?_
            refine j_icmp_ne E 104 (by decide) dL_cellar_83 (fun _ => ?_) (fun q => absurd q (by decide))
            refine j_iconst E 0 ic_0 dL_cellar_104 ?_
            cases hf
            have hf := jn_n hr2
            cases hf
            refine j_wk (P' := (GG D z (X, Y))) (fun H h => gl_out h) ?_
            exact j_iret E rfl (le_ rfl) (le_ rfl) dL_cellar_105
        · rw [if_pos c6] at hf
          refine j_iconst E 1 ic_1 dL_cellar_63 ?_
          refine j_goto E 68 (by decide) dL_cellar_64 ?_
          refine j_aload_n E 2 rfl dL_cellar_68 ?_
          refine j_iload E 5 rfl dL_cellar_69 ?_
          obtain ⟨r14, h14, hf⟩ := bn1_e hf
          refine j_invV [.int 1] [.int r14, .int 1] E (c_X11_varietyIn h14) ml_L_172 mv_X11_varietyIn rfl ⟨le_ rfl, le_ rfl⟩ (rcX ok0 cf_X11 ent0) rfl rfl (le_ rfl) ⟨le_ rfl, le_ rfl⟩ dL_cellar_71 ?_
          refine j_iconst E (-1) ic_m1 dL_cellar_74 ?_
          refine j_icmp_ne E 82 (by decide) dL_cellar_75 (fun c10 => ?_) (fun c10 => ?_)
          · rw [if_neg c10] at hf
            refine j_iconst E 0 ic_0 dL_cellar_82 ?_
            refine j_icmp_ne E 104 (by decide) dL_cellar_83 (fun _ => ?_) (fun q => absurd q (by decide))
            refine j_iconst E 0 ic_0 dL_cellar_104 ?_
            cases hf
            have hf := jn_n hr2
            cases hf
            refine j_wk (P' := (GG D z (X, Y))) (fun H h => gl_out h) ?_
            exact j_iret E rfl (le_ rfl) (le_ rfl) dL_cellar_105
          · rw [if_pos c10] at hf
            refine j_iconst E 1 ic_1 dL_cellar_78 ?_
            refine j_goto E 83 (by decide) dL_cellar_79 ?_
            refine j_icmp_ne E 104 (by decide) dL_cellar_83 (fun q => absurd q (by decide)) (fun _ => ?_)
            refine j_aload_n E 2 rfl dL_cellar_86 ?_
            refine j_iload E 5 rfl dL_cellar_87 ?_
            obtain ⟨r15, h15, hf⟩ := bn1_e hf
            refine j_invV [] [.int r15] E (c_X11_content h15) ml_L_169 mv_X11_content rfl ⟨le_ rfl, le_ rfl⟩ (rcX ok0 cf_X11 ent0) rfl rfl (le_ rfl) ⟨le_ rfl, le_ rfl⟩ dL_cellar_89 ?_
            refine j_if_ne E 106 (by decide) dL_cellar_92 (fun c11 => ?_) (fun c11 => ?_)
            · rw [if_neg c11] at hf
              cases hf
              refine j_sub [2, 3, 1, 0, 4, 5] rfl ?_
              exact K2 _ rfl
            · rw [if_pos c11] at hf
              refine j_aload_n E 2 rfl dL_cellar_95 ?_
              refine j_iload E 5 rfl dL_cellar_96 ?_
              obtain ⟨r16, h16, hf⟩ := bn1_e hf
              refine j_invV [] [.int r16] E (c_X11_meanSugar h16) ml_L_175 mv_X11_meanSugar rfl ⟨le_ rfl, le_ rfl⟩ (rcX ok0 cf_X11 ent0) rfl rfl (le_ rfl) ⟨le_ rfl, le_ rfl⟩ dL_cellar_98 ?_
              refine j_if_eq E 106 (by decide) dL_cellar_101 (fun c12 => ?_) (fun c12 => ?_)
              · rw [if_pos c12] at hf
                cases hf
                refine j_sub [2, 3, 1, 0, 4, 5] rfl ?_
                exact K2 _ rfl
              · rw [if_neg c12] at hf
                refine j_iconst E 0 ic_0 dL_cellar_104 ?_
                cases hf
                have hf := jn_n hr2
                cases hf
                refine j_wk (P' := (GG D z (X, Y))) (fun H h => gl_out h) ?_
                exact j_iret E rfl (le_ rfl) (le_ rfl) dL_cellar_105
set_option maxRecDepth 20000 in
theorem c_L_cellar {l : Launch} {D : DD} {z : Nat} {Y : YT} {X : XT} {r : Int32} (hf : f_L_cellar X D.2.2.2.2.2.2.2 = some r) : CC l yL_cellar cL_cellar 11 (some .boolean) (rmk 5 1 4) D z [.ref (z + aX 0 0 0), .ref D.2.2.2.2.2.2.1] (GG D z (X, Y)) (some (.int r)) (GG D z (X, Y)) := by
  unfold f_L_cellar at hf
  refine cc_ofL pn_L (le_ rfl) (ls := [(0, .ref (z + aX 0 0 0)), (1, .ref D.2.2.2.2.2.2.1)]) rfl ?_
  intro p e s m args below meth c E
  refine j_iconst E 0 ic_0 dL_cellar_0 ?_
  refine j_istore_n (ls' := [(2, .int 0), (0, .ref (z + aX 0 0 0)), (1, .ref D.2.2.2.2.2.2.1)]) E (lt_ rfl) rfl dL_cellar_1 ?_
  refine j_iconst E 0 ic_0 dL_cellar_2 ?_
  refine j_istore_n (ls' := [(3, .int 0), (2, .int 0), (0, .ref (z + aX 0 0 0)), (1, .ref D.2.2.2.2.2.2.1)]) E (lt_ rfl) rfl dL_cellar_3 ?_
  refine j_iconst E 4 ic_4 dL_cellar_4 ?_
  refine jl_newi E (by decide) tn_4 (le_ rfl) (le_ rfl) (le_ rfl) dL_cellar_5 (fun a4 => ?_)
  refine j_wk (P' := (GG D z (X, YL D z Y s.heap.size [(a4, aint D 0 4 (fun _ => 0))]))) (fun H h => h) ?_
  refine j_astore (ls' := [(4, .ref a4), (3, .int 0), (2, .int 0), (0, .ref (z + aX 0 0 0)), (1, .ref D.2.2.2.2.2.2.1)]) E (lt_ rfl) rfl dL_cellar_7 ?_
  refine j_iconst E 0 ic_0 dL_cellar_9 ?_
  refine j_istore (ls' := [(5, .int 0), (4, .ref a4), (3, .int 0), (2, .int 0), (0, .ref (z + aX 0 0 0)), (1, .ref D.2.2.2.2.2.2.1)]) E (lt_ rfl) rfl dL_cellar_10 ?_
  refine j_sub [4, 5, 3, 2, 1, 0] rfl ?_
  exact b_L_cellar_12 E 2000 _ _ _ _ hf
