def f_L_holds_771 (X : XT) (sc : Nat × (Nat → Int32)) (W : Nat → Int32) (S : Nat → Int32) (v17 : Int32) (v18 : Int32) (v20 : Int32) : Nat → (Nat → Int32) → (Nat → Int32) → (Nat → Int32) → (Nat → Int32) → (Nat → Int32) → (Nat → Int32) → (Nat → Int32) → Int32 → Option Int32
  | 0, _, _, _, _, _, _, _, _ => none
  | n + 1, f6, f7, f8, f9, f10, f11, f12, v22 => bn1 (f_X11_plotCount X) (fun r1 => if r1 ≤ v22 then (bn1 (f_X11_greatestGrower X) (fun r2 => if r2 = v17 then (bn1 (f_X11_owedToAll X) (fun r3 => if r3 = v18 then (bn1 (f_X11_missingCash X) (fun r4 => bn1 (f_X11_cash X) (fun r5 => if r4 = (if 0 < (v18 - r5) then (v18 - r5) else 0) then (bn1 (f_X11_payableGrowers X) (fun r6 => if r6 = v20 then (bn1 (f_L_cellar X sc) (fun r7 => if r7 = 0 then (some 0) else (some 1))) else (some 0))) else (some 0)))) else (some 0))) else (some 0))) else (bn1 (f_X11_harvested X v22) (fun r8 => gd (¬ (v22 < 0 ∨ 9 ≤ v22.toNatClampNeg)) (bnd (f6 v22.toNatClampNeg) (fun x1 => if r8 = x1 then (bn1 (f_X11_yieldLeft X v22) (fun r9 => bn1 (f_X11_yieldLimit X v22) (fun r10 => gd (¬ (v22 < 0 ∨ 9 ≤ v22.toNatClampNeg)) (bnd (f6 v22.toNatClampNeg) (fun x2 => if r9 = (if (if 0 < (r10 - x2) then (r10 - x2) else 0) < 5000 then (if 0 < (r10 - x2) then (r10 - x2) else 0) else 5000) then (f_L_holds_771 X sc W S v17 v18 v20 n f6 f7 f8 f9 f10 f11 f12 (v22 + 1)) else (some 0)))))) else (some 0))))))
def f_L_holds_570 (X : XT) (sc : Nat × (Nat → Int32)) (W : Nat → Int32) (S : Nat → Int32) (f6 : Nat → Int32) (f7 : Nat → Int32) (f8 : Nat → Int32) (f9 : Nat → Int32) (f10 : Nat → Int32) (f11 : Nat → Int32) (f12 : Nat → Int32) (v5 : Int32) (v17 : Int32) (v18 : Int32) (v19 : Int32) (v20 : Int32) (v21 : Int32) (v22 : Int32) : Nat → Int32 → Int32 → Option (Int32)
  | 0, _, _ => none
  | n + 1, v23, v24 => bn1 (f_X11_plotCount X) (fun r1 => if r1 ≤ v24 then (some (v23)) else (bn1 (f_L_owner sc v24) (fun r2 => if r2 = v22 then (bnd (v23 + 1) (fun x2 => f_L_holds_570 X sc W S f6 f7 f8 f9 f10 f11 f12 v5 v17 v18 v19 v20 v21 v22 n x2 (v24 + 1))) else (bnd (v23 + 0) (fun x1 => f_L_holds_570 X sc W S f6 f7 f8 f9 f10 f11 f12 v5 v17 v18 v19 v20 v21 v22 n x1 (v24 + 1))))))
def f_L_holds_557 (X : XT) (sc : Nat × (Nat → Int32)) (W : Nat → Int32) (S : Nat → Int32) (v5 : Int32) : Nat → (Nat → Int32) → (Nat → Int32) → (Nat → Int32) → (Nat → Int32) → (Nat → Int32) → (Nat → Int32) → (Nat → Int32) → Int32 → Int32 → Int32 → Int32 → Int32 → Int32 → Option Int32
  | 0, _, _, _, _, _, _, _, _, _, _, _, _, _ => none
  | n + 1, f6, f7, f8, f9, f10, f11, f12, v17, v18, v19, v20, v21, v22 => if v5 ≤ v22 then (f_L_holds_771 X sc W S v17 v18 v20 2000 f6 f7 f8 f9 f10 f11 f12 0) else (bn1 (f_L_holds_570 X sc W S f6 f7 f8 f9 f10 f11 f12 v5 v17 v18 v19 v20 v21 v22 2000 0 0) (fun o1 => bn1 (f_X11_plotsOf X v22) (fun r1 => if r1 = o1 then (bn1 (f_X11_weightOf X v22) (fun r2 => gd (¬ (v22 < 0 ∨ 5 ≤ v22.toNatClampNeg)) (bnd (f9 v22.toNatClampNeg) (fun x1 => if r2 = x1 then (bn1 (f_X11_owed X v22) (fun r3 => gd (¬ (v22 < 0 ∨ 5 ≤ v22.toNatClampNeg)) (bnd (f7 v22.toNatClampNeg) (fun x2 => if r3 = x2 then (bn1 (f_X11_paidTo X v22) (fun r4 => gd (¬ (v22 < 0 ∨ 5 ≤ v22.toNatClampNeg)) (bnd (f8 v22.toNatClampNeg) (fun x3 => if r4 = x3 then (bn1 (f_X11_varietiesOf X v22) (fun r5 => gd (¬ (v22 < 0 ∨ 5 ≤ v22.toNatClampNeg)) (bnd (f10 v22.toNatClampNeg) (fun x4 => bn1 (f_J6_bitCount_0f7a4 x4) (fun r6 => if r5 = r6 then (bn1 (if v17 = (-1) then (some (v22)) else (gd (¬ (v22 < 0 ∨ 5 ≤ v22.toNatClampNeg)) (bnd (f9 v22.toNatClampNeg) (fun x11 => gd (¬ (v17 < 0 ∨ 5 ≤ v17.toNatClampNeg)) (bnd (f9 v17.toNatClampNeg) (fun x12 => if x11 ≤ x12 then (some (v17)) else (some (v22)))))))) (fun o2 => gd (¬ (v22 < 0 ∨ 5 ≤ v22.toNatClampNeg)) (bnd (f7 v22.toNatClampNeg) (fun x5 => bnd (v18 + x5) (fun x6 => bn1 (if v21 = 0 then (gd (¬ (v22 < 0 ∨ 5 ≤ v22.toNatClampNeg)) (bnd (f7 v22.toNatClampNeg) (fun x10 => if x10 ≤ v19 then (some (0)) else (some (1))))) else (some (1))) (fun o3 => bn1 (if o3 = 0 then (gd (¬ (v22 < 0 ∨ 5 ≤ v22.toNatClampNeg)) (bnd (f7 v22.toNatClampNeg) (fun x7 => if x7 = 0 then (some (v19, v20)) else (gd (¬ (v22 < 0 ∨ 5 ≤ v22.toNatClampNeg)) (bnd (f7 v22.toNatClampNeg) (fun x8 => bnd (v19 - x8) (fun x9 => some (x9, (v20 + 1))))))))) else (some (v19, v20))) (fun o4 => f_L_holds_557 X sc W S v5 n f6 f7 f8 f9 f10 f11 f12 o2 x6 o4.1 o4.2 o3 (v22 + 1)))))))) else (some 0)))))) else (some 0))))) else (some 0))))) else (some 0))))) else (some 0))))
def f_L_holds_491 (X : XT) (sc : Nat × (Nat → Int32)) (W : Nat → Int32) (S : Nat → Int32) (f6 : Nat → Int32) (f7 : Nat → Int32) (f8 : Nat → Int32) (f9 : Nat → Int32) (f10 : Nat → Int32) (f11 : Nat → Int32) (f12 : Nat → Int32) (v5 : Int32) (v17 : Int32) : Nat → Int32 → Option (Sum Int32 (Unit))
  | 0, _ => none
  | n + 1, v18 => bn1 (f_X11_classCount X) (fun r1 => if r1 ≤ v18 then (some (.inr ())) else (bn1 (f_X11_weightOfClass X v17 v18) (fun r2 => bnd ((10 * v17) + v18) (fun x1 => gd (¬ (x1 < 0 ∨ 100 ≤ x1.toNatClampNeg)) (bnd (f11 x1.toNatClampNeg) (fun x2 => if r2 = x2 then (f_L_holds_491 X sc W S f6 f7 f8 f9 f10 f11 f12 v5 v17 n (v18 + 1)) else (some (.inl 0))))))))
def f_L_holds_479 (X : XT) (sc : Nat × (Nat → Int32)) (W : Nat → Int32) (S : Nat → Int32) (v5 : Int32) : Nat → (Nat → Int32) → (Nat → Int32) → (Nat → Int32) → (Nat → Int32) → (Nat → Int32) → (Nat → Int32) → (Nat → Int32) → Int32 → Option Int32
  | 0, _, _, _, _, _, _, _, _ => none
  | n + 1, f6, f7, f8, f9, f10, f11, f12, v17 => bn1 (f_X11_varietyCount X) (fun r1 => if r1 ≤ v17 then (bn1 (f_X11_cash X) (fun r2 => f_L_holds_557 X sc W S v5 2000 f6 f7 f8 f9 f10 f11 f12 (-1) 0 r2 0 0 0)) else (bn1 (f_L_holds_491 X sc W S f6 f7 f8 f9 f10 f11 f12 v5 v17 2000 0) (fun u1 => jn u1 (fun v => some v) (fun _ => f_L_holds_479 X sc W S v5 n f6 f7 f8 f9 f10 f11 f12 (v17 + 1)))))
def f_L_holds_407 (X : XT) (sc : Nat × (Nat → Int32)) (W : Nat → Int32) (S : Nat → Int32) (v5 : Int32) (v13 : Int32) : Nat → (Nat → Int32) → (Nat → Int32) → (Nat → Int32) → (Nat → Int32) → (Nat → Int32) → (Nat → Int32) → (Nat → Int32) → Int32 → Int32 → Option Int32
  | 0, _, _, _, _, _, _, _, _, _ => none
  | n + 1, f6, f7, f8, f9, f10, f11, f12, v16, v17 => if v13 ≤ v17 then (bn1 (f_X11_greatestClass X) (fun r1 => if r1 = v16 then (f_L_holds_479 X sc W S v5 2000 f6 f7 f8 f9 f10 f11 f12 0) else (some 0))) else (bn1 (f_X11_classInOrder X v17) (fun r2 => gd (¬ (v17 < 0 ∨ 20 ≤ v17.toNatClampNeg)) (bnd (f12 v17.toNatClampNeg) (fun x1 => if r2 = x1 then (if v16 = (-1) then (gd (¬ (v17 < 0 ∨ 20 ≤ v17.toNatClampNeg)) (bnd (f12 v17.toNatClampNeg) (fun x2 => f_L_holds_407 X sc W S v5 v13 n f6 f7 f8 f9 f10 f11 f12 x2 (v17 + 1)))) else (gd (¬ (v17 < 0 ∨ 20 ≤ v17.toNatClampNeg)) (bnd (f12 v17.toNatClampNeg) (fun x3 => gd (¬ (x3 < 0 ∨ 100 ≤ x3.toNatClampNeg)) (bnd (f11 x3.toNatClampNeg) (fun x4 => gd (¬ (v16 < 0 ∨ 100 ≤ v16.toNatClampNeg)) (bnd (f11 v16.toNatClampNeg) (fun x5 => if x4 ≤ x5 then (f_L_holds_407 X sc W S v5 v13 n f6 f7 f8 f9 f10 f11 f12 v16 (v17 + 1)) else (gd (¬ (v17 < 0 ∨ 20 ≤ v17.toNatClampNeg)) (bnd (f12 v17.toNatClampNeg) (fun x6 => f_L_holds_407 X sc W S v5 v13 n f6 f7 f8 f9 f10 f11 f12 x6 (v17 + 1)))))))))))) else (some 0)))))
def f_L_holds_85 (X : XT) (sc : Nat × (Nat → Int32)) (W : Nat → Int32) (S : Nat → Int32) (v4 : Int32) (v5 : Int32) : Nat → (Nat → Int32) → (Nat → Int32) → (Nat → Int32) → (Nat → Int32) → (Nat → Int32) → (Nat → Int32) → (Nat → Int32) → Int32 → Int32 → Int32 → Int32 → Option Int32
  | 0, _, _, _, _, _, _, _, _, _, _, _ => none
  | n + 1, f6, f7, f8, f9, f10, f11, f12, v13, v14, v15, v16 => if v4 ≤ v16 then (bn1 (f_X11_deliveredClasses X) (fun r1 => if r1 = v13 then (bn1 (f_X11_averageSugar X) (fun r2 => bn1 (if v4 = 0 then (some (FP.dconst0)) else (gd ((FP.ddiv (FP.i2d v15) (FP.i2d v14)) &&& 0x7fffffffffffffff ≤ 0x7ff0000000000000) (some ((FP.ddiv (FP.i2d v15) (FP.i2d v14)))))) (fun o1 => if (Op.cmpValue (FP.dcmp r2 o1) .l) = 0 then (f_L_holds_407 X sc W S v5 v13 2000 f6 f7 f8 f9 f10 f11 f12 (-1) 0) else (some 0)))) else (some 0))) else (bn1 (f_X11_plotOfLoad X v16) (fun r3 => bn1 (f_L_wine sc r3) (fun r4 => bn1 (f_L_owner sc r3) (fun r5 => gd (¬ (v16 < 0 ∨ 21 ≤ v16.toNatClampNeg)) (bnd (S v16.toNatClampNeg) (fun x1 => bn1 (f_L_grade sc x1) (fun r6 => gd (¬ (r3 < 0 ∨ 9 ≤ r3.toNatClampNeg)) (bnd (f6 r3.toNatClampNeg) (fun x2 => gd (¬ (v16 < 0 ∨ 21 ≤ v16.toNatClampNeg)) (bnd (W v16.toNatClampNeg) (fun x3 => gd (¬ (r3 < 0 ∨ 9 ≤ r3.toNatClampNeg)) (bnd (upd f6 r3.toNatClampNeg (x2 + x3)) (fun y1 => bn1 (gd (¬ (r3 < 0 ∨ 9 ≤ r3.toNatClampNeg)) (bnd (y1 r3.toNatClampNeg) (fun x20 => bn1 (f_L_area sc r3) (fun r15 => bn1 (f_L_yields sc) (fun r16 => if x20 ≤ (r15 * r16) then (some (r6)) else (bn1 (f_L_grades sc) (fun r17 => some ((r17 - 1))))))))) (fun o2 => bn1 (bn1 (f_X11_classOfLoad X v16) (fun r13 => if r13 = o2 then (bn1 (f_X11_isLowered X v16) (fun r14 => if o2 = r6 then (if r14 = 0 then (some (.inr ())) else (some (.inl 0))) else (if r14 = 1 then (some (.inr ())) else (some (.inl 0))))) else (some (.inl 0)))) (fun u3 => jn u3 (fun v => some v) (fun _ => bn1 (bn1 (f_X11_isPaid X v16) (fun r10 => if r10 = 0 then (bn1 (f_X11_valueOf X v16) (fun r11 => gd (¬ (v16 < 0 ∨ 21 ≤ v16.toNatClampNeg)) (bnd (W v16.toNatClampNeg) (fun x19 => bn1 (f_X11_price X r4 o2) (fun r12 => if r11 = (x19 * r12) then (some (.inr ())) else (some (.inl 0))))))) else (some (.inr ())))) (fun u4 => jn u4 (fun v => some v) (fun _ => bn1 (bn1 (f_X11_isPaid X v16) (fun r7 => if r7 = 0 then (gd (¬ (r5 < 0 ∨ 5 ≤ r5.toNatClampNeg)) (bnd (f7 r5.toNatClampNeg) (fun x17 => bn1 (f_X11_valueOf X v16) (fun r8 => gd (¬ (r5 < 0 ∨ 5 ≤ r5.toNatClampNeg)) (bnd (upd f7 r5.toNatClampNeg (x17 + r8)) (fun y6 => some (f8, y6))))))) else (gd (¬ (r5 < 0 ∨ 5 ≤ r5.toNatClampNeg)) (bnd (f8 r5.toNatClampNeg) (fun x18 => bn1 (f_X11_valueOf X v16) (fun r9 => gd (¬ (r5 < 0 ∨ 5 ≤ r5.toNatClampNeg)) (bnd (upd f8 r5.toNatClampNeg (x18 + r9)) (fun y7 => some (y7, f7))))))))) (fun o5 => gd (¬ (r5 < 0 ∨ 5 ≤ r5.toNatClampNeg)) (bnd (f9 r5.toNatClampNeg) (fun x4 => gd (¬ (v16 < 0 ∨ 21 ≤ v16.toNatClampNeg)) (bnd (W v16.toNatClampNeg) (fun x5 => gd (¬ (r5 < 0 ∨ 5 ≤ r5.toNatClampNeg)) (bnd (upd f9 r5.toNatClampNeg (x4 + x5)) (fun y2 => gd (¬ (r5 < 0 ∨ 5 ≤ r5.toNatClampNeg)) (bnd (f10 r5.toNatClampNeg) (fun x6 => gd (¬ (r5 < 0 ∨ 5 ≤ r5.toNatClampNeg)) (bnd (upd f10 r5.toNatClampNeg (x6 ||| (1 <<< (r4 &&& 31)))) (fun y3 => bn1 (bnd ((10 * r4) + o2) (fun x15 => gd (¬ (x15 < 0 ∨ 100 ≤ x15.toNatClampNeg)) (bnd (f11 x15.toNatClampNeg) (fun x16 => if x16 = 0 then (gd (¬ (v13 < 0 ∨ 20 ≤ v13.toNatClampNeg)) (bnd (upd f12 v13.toNatClampNeg ((10 * r4) + o2)) (fun y5 => some (y5, (v13 + 1))))) else (some (f12, v13)))))) (fun o6 => bnd ((10 * r4) + o2) (fun x7 => gd (¬ (x7 < 0 ∨ 100 ≤ x7.toNatClampNeg)) (bnd (f11 x7.toNatClampNeg) (fun x8 => gd (¬ (v16 < 0 ∨ 21 ≤ v16.toNatClampNeg)) (bnd (W v16.toNatClampNeg) (fun x9 => gd (¬ (x7 < 0 ∨ 100 ≤ x7.toNatClampNeg)) (bnd (upd f11 x7.toNatClampNeg (x8 + x9)) (fun y4 => gd (¬ (v16 < 0 ∨ 21 ≤ v16.toNatClampNeg)) (bnd (W v16.toNatClampNeg) (fun x10 => bnd (v14 + x10) (fun x11 => gd (¬ (v16 < 0 ∨ 21 ≤ v16.toNatClampNeg)) (bnd (W v16.toNatClampNeg) (fun x12 => gd (¬ (v16 < 0 ∨ 21 ≤ v16.toNatClampNeg)) (bnd (S v16.toNatClampNeg) (fun x13 => bnd (v15 + (x12 * x13)) (fun x14 => f_L_holds_85 X sc W S v4 v5 n y1 o5.2 o5.1 y2 y3 y4 o6.1 o6.2 x11 x14 (v16 + 1))))))))))))))))))))))))))))))))))))))))))))))
def f_L_holds (X : XT) (sc : Nat × (Nat → Int32)) (W : Nat → Int32) (S : Nat → Int32) : Option Int32 :=
  bn1 (f_X11_bottleDifference X) (fun r1 => if r1 = 0 then (bn1 (f_X11_cashDifference X) (fun r2 => if r2 = 0 then (bn1 (f_X11_cash X) (fun r3 => if 0 ≤ r3 then (bn1 (f_X11_loadCount X) (fun r4 => bn1 (f_X11_growerCount X) (fun r5 => f_L_holds_85 X sc W S r4 r5 2000 (fun _ => 0) (fun _ => 0) (fun _ => 0) (fun _ => 0) (fun _ => 0) (fun _ => 0) (fun _ => 0) 0 0 0 0))) else (some 0))) else (some 0))) else (some 0))
set_option maxRecDepth 20000 in
theorem b_L_holds_771 {p : Program} {l : Launch} {e : Env} {s : State} {m : MethodId} {args : Array Value} {below : List Frame} {meth : Method} {c : Code} {D : DD} {z : Nat} {Y : YT} {aw : Nat} {W : Nat → Int32} {au : Nat} {S : Nat → Int32} {X : XT} {a6 : Nat} {a7 : Nat} {a8 : Nat} {a9 : Nat} {a10 : Nat} {a11 : Nat} {a12 : Nat} {v17 : Int32} {v18 : Int32} {v20 : Int32} (hW : ∀ H, Y H → va_at (gD D) cls (aw, aint D 0 21 W) H) (hS : ∀ H, Y H → va_at (gD D) cls (au, aint D 0 21 S) H) (E : Cx p s m args meth c D z RL cL_holds 25 (some .boolean)) {r : Int32} : ∀ (n : Nat) (f6 : (Nat → Int32)) (f7 : (Nat → Int32)) (f8 : (Nat → Int32)) (f9 : (Nat → Int32)) (f10 : (Nat → Int32)) (f11 : (Nat → Int32)) (f12 : (Nat → Int32)) (v22 : Int32) (hf : f_L_holds_771 X D.2.2.2.2.2.2.2 W S v17 v18 v20 n f6 f7 f8 f9 f10 f11 f12 v22 = some r), J p l e (rmk 6 8 153) s m args below meth c D z (GG D z (X, YL D z Y s.heap.size [(a6, aint D 0 9 f6), (a7, aint D 0 5 f7), (a8, aint D 0 5 f8), (a9, aint D 0 5 f9), (a10, aint D 0 5 f10), (a11, aint D 0 100 f11), (a12, aint D 0 20 f12)])) 7 149 (MQ below (QC z (some (.int r)) (GG D z (X, Y))) args s (rmk 6 8 153).cells (rmk 6 8 153).slots (Az z)) 25 771 [(0, .ref (z + aX 0 0 0)), (1, .ref D.2.2.2.2.2.2.1), (6, .ref a6), (17, .int v17), (18, .int v18), (20, .int v20), (22, .int v22)] [] := by
  intro n
  induction n with
  | zero =>
    intro f6 f7 f8 f9 f10 f11 f12 v22 hf
    exact none_e hf
  | succ n ih =>
    intro f6 f7 f8 f9 f10 f11 f12 v22 hf
    rw [f_L_holds_771] at hf
    refine j_iload E 6 rfl dL_holds_771 ?_
    refine j_aload_n E 0 rfl dL_holds_773 ?_
    obtain ⟨r1, h1, hf⟩ := bn1_e hf
    refine j_invV [.int v22] [.int r1, .int v22] E (c_X11_plotCount h1) ml_L_148 mv_X11_plotCount rfl ⟨le_ rfl, le_ rfl⟩ (rcX ok0 cf_X11 ent0) rfl rfl (le_ rfl) ⟨le_ rfl, le_ rfl⟩ dL_holds_774 ?_
    refine j_icmp_ge E 833 (by decide) dL_holds_777 (fun c1 => ?_) (fun c1 => ?_)
    · rw [if_pos c1] at hf
      refine j_aload_n E 0 rfl dL_holds_833 ?_
      obtain ⟨r2, h2, hf⟩ := bn1_e hf
      refine j_invV [] [.int r2] E (c_X11_greatestGrower h2) ml_L_329 mv_X11_greatestGrower rfl ⟨le_ rfl, le_ rfl⟩ (rcX ok0 cf_X11 ent0) rfl rfl (le_ rfl) ⟨le_ rfl, le_ rfl⟩ dL_holds_834 ?_
      refine j_iload E 3 rfl dL_holds_837 ?_
      refine j_icmp_ne E 890 (by decide) dL_holds_839 (fun c2 => ?_) (fun c2 => ?_)
      · rw [if_neg c2] at hf
        refine j_iconst E 0 ic_0 dL_holds_890 ?_
        cases hf
        refine j_wk (P' := (GG D z (X, Y))) (fun H h => gl_out h) ?_
        exact j_iret E rfl (le_ rfl) (le_ rfl) dL_holds_891
      · rw [if_pos c2] at hf
        refine j_aload_n E 0 rfl dL_holds_842 ?_
        obtain ⟨r3, h3, hf⟩ := bn1_e hf
        refine j_invV [] [.int r3] E (c_X11_owedToAll h3) ml_L_332 mv_X11_owedToAll rfl ⟨le_ rfl, le_ rfl⟩ (rcX ok0 cf_X11 ent0) rfl rfl (le_ rfl) ⟨le_ rfl, le_ rfl⟩ dL_holds_843 ?_
        refine j_iload E 4 rfl dL_holds_846 ?_
        refine j_icmp_ne E 890 (by decide) dL_holds_848 (fun c3 => ?_) (fun c3 => ?_)
        · rw [if_neg c3] at hf
          refine j_iconst E 0 ic_0 dL_holds_890 ?_
          cases hf
          refine j_wk (P' := (GG D z (X, Y))) (fun H h => gl_out h) ?_
          exact j_iret E rfl (le_ rfl) (le_ rfl) dL_holds_891
        · rw [if_pos c3] at hf
          refine j_aload_n E 0 rfl dL_holds_851 ?_
          obtain ⟨r4, h4, hf⟩ := bn1_e hf
          refine j_invV [] [.int r4] E (c_X11_missingCash h4) ml_L_335 mv_X11_missingCash rfl ⟨le_ rfl, le_ rfl⟩ (rcX ok0 cf_X11 ent0) rfl rfl (le_ rfl) ⟨le_ rfl, le_ rfl⟩ dL_holds_852 ?_
          refine j_iconst E 0 ic_0 dL_holds_855 ?_
          refine j_iload E 4 rfl dL_holds_856 ?_
          refine j_aload_n E 0 rfl dL_holds_858 ?_
          obtain ⟨r5, h5, hf⟩ := bn1_e hf
          refine j_invV [.int v18, .int 0, .int r4] [.int r5, .int v18, .int 0, .int r4] E (c_X11_cash h5) ml_L_157 mv_X11_cash rfl ⟨le_ rfl, le_ rfl⟩ (rcX ok0 cf_X11 ent0) rfl rfl (le_ rfl) ⟨le_ rfl, le_ rfl⟩ dL_holds_859 ?_
          refine j_isub E dL_holds_862 ?_
          refine j_max [.int r4] E ml_L_326 st_Lib_Math_max_name in_J9 cd_Lib_Math_max_name (le_ rfl) (le_ rfl) (le_ rfl) (le_ rfl) dL_holds_863 ?_
          refine j_icmp_ne E 890 (by decide) dL_holds_866 (fun c4 => ?_) (fun c4 => ?_)
          · rw [if_neg c4] at hf
            refine j_iconst E 0 ic_0 dL_holds_890 ?_
            cases hf
            refine j_wk (P' := (GG D z (X, Y))) (fun H h => gl_out h) ?_
            exact j_iret E rfl (le_ rfl) (le_ rfl) dL_holds_891
          · rw [if_pos c4] at hf
            refine j_aload_n E 0 rfl dL_holds_869 ?_
            obtain ⟨r6, h6, hf⟩ := bn1_e hf
            refine j_invV [] [.int r6] E (c_X11_payableGrowers h6) ml_L_338 mv_X11_payableGrowers rfl ⟨le_ rfl, le_ rfl⟩ (rcX ok0 cf_X11 ent0) rfl rfl (le_ rfl) ⟨le_ rfl, le_ rfl⟩ dL_holds_870 ?_
            refine j_iload E 5 rfl dL_holds_873 ?_
            refine j_icmp_ne E 890 (by decide) dL_holds_875 (fun c5 => ?_) (fun c5 => ?_)
            · rw [if_neg c5] at hf
              refine j_iconst E 0 ic_0 dL_holds_890 ?_
              cases hf
              refine j_wk (P' := (GG D z (X, Y))) (fun H h => gl_out h) ?_
              exact j_iret E rfl (le_ rfl) (le_ rfl) dL_holds_891
            · rw [if_pos c5] at hf
              refine j_aload_n E 0 rfl dL_holds_878 ?_
              refine j_aload_n E 1 rfl dL_holds_879 ?_
              obtain ⟨r7, h7, hf⟩ := bn1_e hf
              refine j_invS [] [.int r7] E (c_L_cellar h7) ml_L_341 ms_L_cellar rfl ⟨le_ rfl, le_ rfl⟩ rfl rfl (le_ rfl) ⟨le_ rfl, le_ rfl⟩ dL_holds_880 ?_
              refine j_if_eq E 890 (by decide) dL_holds_883 (fun c6 => ?_) (fun c6 => ?_)
              · rw [if_pos c6] at hf
                refine j_iconst E 0 ic_0 dL_holds_890 ?_
                cases hf
                refine j_wk (P' := (GG D z (X, Y))) (fun H h => gl_out h) ?_
                exact j_iret E rfl (le_ rfl) (le_ rfl) dL_holds_891
              · rw [if_neg c6] at hf
                refine j_iconst E 1 ic_1 dL_holds_886 ?_
                refine j_goto E 891 (by decide) dL_holds_887 ?_
                cases hf
                refine j_wk (P' := (GG D z (X, Y))) (fun H h => gl_out h) ?_
                exact j_iret E rfl (le_ rfl) (le_ rfl) dL_holds_891
    · rw [if_neg c1] at hf
      refine j_aload_n E 0 rfl dL_holds_780 ?_
      refine j_iload E 6 rfl dL_holds_781 ?_
      obtain ⟨r8, h8, hf⟩ := bn1_e hf
      refine j_invV [] [.int r8] E (c_X11_harvested h8) ml_L_166 mv_X11_harvested rfl ⟨le_ rfl, le_ rfl⟩ (rcX ok0 cf_X11 ent0) rfl rfl (le_ rfl) ⟨le_ rfl, le_ rfl⟩ dL_holds_783 ?_
      refine j_aload E 2 rfl dL_holds_786 ?_
      refine j_iload E 6 rfl dL_holds_788 ?_
      obtain ⟨g1, hf⟩ := gd_e hf
      obtain ⟨x1, hx1, hf⟩ := bnd_e hf
      refine jl_iald E (fun H h => gl_at h 0 rfl) g1 hx1.symm dL_holds_790 ?_
      refine j_icmp_ne E 825 (by decide) dL_holds_791 (fun c7 => ?_) (fun c7 => ?_)
      · rw [if_neg c7] at hf
        refine j_iconst E 0 ic_0 dL_holds_825 ?_
        cases hf
        refine j_wk (P' := (GG D z (X, Y))) (fun H h => gl_out h) ?_
        exact j_iret E rfl (le_ rfl) (le_ rfl) dL_holds_826
      · rw [if_pos c7] at hf
        refine j_aload_n E 0 rfl dL_holds_794 ?_
        refine j_iload E 6 rfl dL_holds_795 ?_
        obtain ⟨r9, h9, hf⟩ := bn1_e hf
        refine j_invV [] [.int r9] E (c_X11_yieldLeft h9) ml_L_323 mv_X11_yieldLeft rfl ⟨le_ rfl, le_ rfl⟩ (rcX ok0 cf_X11 ent0) rfl rfl (le_ rfl) ⟨le_ rfl, le_ rfl⟩ dL_holds_797 ?_
        refine j_sipush E 5000 sp_5000 dL_holds_800 ?_
        refine j_iconst E 0 ic_0 dL_holds_803 ?_
        refine j_aload_n E 0 rfl dL_holds_804 ?_
        refine j_iload E 6 rfl dL_holds_805 ?_
        obtain ⟨r10, h10, hf⟩ := bn1_e hf
        refine j_invV [.int 0, .int 5000, .int r9] [.int r10, .int 0, .int 5000, .int r9] E (c_X11_yieldLimit h10) ml_L_163 mv_X11_yieldLimit rfl ⟨le_ rfl, le_ rfl⟩ (rcX ok0 cf_X11 ent0) rfl rfl (le_ rfl) ⟨le_ rfl, le_ rfl⟩ dL_holds_807 ?_
        refine j_aload E 2 rfl dL_holds_810 ?_
        refine j_iload E 6 rfl dL_holds_812 ?_
        obtain ⟨g2, hf⟩ := gd_e hf
        obtain ⟨x2, hx2, hf⟩ := bnd_e hf
        refine jl_iald E (fun H h => gl_at h 0 rfl) g2 hx2.symm dL_holds_814 ?_
        refine j_isub E dL_holds_815 ?_
        refine j_max [.int 5000, .int r9] E ml_L_326 st_Lib_Math_max_name in_J9 cd_Lib_Math_max_name (le_ rfl) (le_ rfl) (le_ rfl) (le_ rfl) dL_holds_816 ?_
        refine j_min [.int r9] E ml_L_30 st_Lib_Math_min_name in_J9 cd_Lib_Math_min_name (le_ rfl) (le_ rfl) (le_ rfl) (le_ rfl) dL_holds_819 ?_
        refine j_icmp_eq E 827 (by decide) dL_holds_822 (fun c8 => ?_) (fun c8 => ?_)
        · rw [if_pos c8] at hf
          refine j_iinc (ls' := [(22, .int (v22 + 1)), (0, .ref (z + aX 0 0 0)), (1, .ref D.2.2.2.2.2.2.1), (6, .ref a6), (17, .int v17), (18, .int v18), (20, .int v20)]) E 6 rfl (lt_ rfl) (v22 + 1) (congrArg (fun q => v22 + q) ic_1) rfl dL_holds_827 ?_
          refine j_goto E 771 (by decide) dL_holds_830 ?_
          refine j_sub [1, 2, 3, 4, 5, 6, 0] rfl ?_
          exact ih _ _ _ _ _ _ _ _ hf
        · rw [if_neg c8] at hf
          refine j_iconst E 0 ic_0 dL_holds_825 ?_
          cases hf
          refine j_wk (P' := (GG D z (X, Y))) (fun H h => gl_out h) ?_
          exact j_iret E rfl (le_ rfl) (le_ rfl) dL_holds_826
set_option maxRecDepth 20000 in
theorem b_L_holds_570 {p : Program} {l : Launch} {e : Env} {s : State} {m : MethodId} {args : Array Value} {below : List Frame} {meth : Method} {c : Code} {D : DD} {z : Nat} {Y : YT} {aw : Nat} {W : Nat → Int32} {au : Nat} {S : Nat → Int32} {X : XT} {a6 : Nat} {a7 : Nat} {a8 : Nat} {a9 : Nat} {a10 : Nat} {a11 : Nat} {a12 : Nat} {f6 : Nat → Int32} {f7 : Nat → Int32} {f8 : Nat → Int32} {f9 : Nat → Int32} {f10 : Nat → Int32} {f11 : Nat → Int32} {f12 : Nat → Int32} {v5 : Int32} {v17 : Int32} {v18 : Int32} {v19 : Int32} {v20 : Int32} {v21 : Int32} {v22 : Int32} (hW : ∀ H, Y H → va_at (gD D) cls (aw, aint D 0 21 W) H) (hS : ∀ H, Y H → va_at (gD D) cls (au, aint D 0 21 S) H) (E : Cx p s m args meth c D z RL cL_holds 25 (some .boolean)) {r : Int32} {y : Int32} (K : ∀ o : Int32, y = o → J p l e (rmk 6 8 153) s m args below meth c D z (GG D z (X, YL D z Y s.heap.size [(a6, aint D 0 9 f6), (a7, aint D 0 5 f7), (a8, aint D 0 5 f8), (a9, aint D 0 5 f9), (a10, aint D 0 5 f10), (a11, aint D 0 100 f11), (a12, aint D 0 20 f12)])) 7 149 (MQ below (QC z (some (.int r)) (GG D z (X, Y))) args s (rmk 6 8 153).cells (rmk 6 8 153).slots (Az z)) 25 606 [(0, .ref (z + aX 0 0 0)), (1, .ref D.2.2.2.2.2.2.1), (5, .int v5), (6, .ref a6), (7, .ref a7), (8, .ref a8), (9, .ref a9), (10, .ref a10), (17, .int v17), (18, .int v18), (19, .int v19), (20, .int v20), (21, .int v21), (22, .int v22), (23, .int o)] []) : ∀ (n : Nat) (v23 : Int32) (v24 : Int32) (hf : f_L_holds_570 X D.2.2.2.2.2.2.2 W S f6 f7 f8 f9 f10 f11 f12 v5 v17 v18 v19 v20 v21 v22 n v23 v24 = some y), J p l e (rmk 6 8 153) s m args below meth c D z (GG D z (X, YL D z Y s.heap.size [(a6, aint D 0 9 f6), (a7, aint D 0 5 f7), (a8, aint D 0 5 f8), (a9, aint D 0 5 f9), (a10, aint D 0 5 f10), (a11, aint D 0 100 f11), (a12, aint D 0 20 f12)])) 7 149 (MQ below (QC z (some (.int r)) (GG D z (X, Y))) args s (rmk 6 8 153).cells (rmk 6 8 153).slots (Az z)) 25 570 [(0, .ref (z + aX 0 0 0)), (1, .ref D.2.2.2.2.2.2.1), (5, .int v5), (6, .ref a6), (7, .ref a7), (8, .ref a8), (9, .ref a9), (10, .ref a10), (17, .int v17), (18, .int v18), (19, .int v19), (20, .int v20), (21, .int v21), (22, .int v22), (23, .int v23), (24, .int v24)] [] := by
  intro n
  induction n with
  | zero =>
    intro v23 v24 hf
    exact none_e hf
  | succ n ih =>
    intro v23 v24 hf
    rw [f_L_holds_570] at hf
    refine j_iload E 15 rfl dL_holds_570 ?_
    refine j_aload_n E 0 rfl dL_holds_572 ?_
    obtain ⟨r1, h1, hf⟩ := bn1_e hf
    refine j_invV [.int v24] [.int r1, .int v24] E (c_X11_plotCount h1) ml_L_148 mv_X11_plotCount rfl ⟨le_ rfl, le_ rfl⟩ (rcX ok0 cf_X11 ent0) rfl rfl (le_ rfl) ⟨le_ rfl, le_ rfl⟩ dL_holds_573 ?_
    refine j_icmp_ge E 606 (by decide) dL_holds_576 (fun c1 => ?_) (fun c1 => ?_)
    · rw [if_pos c1] at hf
      cases hf
      refine j_sub [0, 1, 2, 3, 4, 5, 6, 7, 8, 9, 10, 11, 12, 13, 14] rfl ?_
      exact K _ rfl
    · rw [if_neg c1] at hf
      refine j_iload E 14 rfl dL_holds_579 ?_
      refine j_aload_n E 1 rfl dL_holds_581 ?_
      refine j_iload E 15 rfl dL_holds_582 ?_
      obtain ⟨r2, h2, hf⟩ := bn1_e hf
      refine j_invS [.int v23] [.int r2, .int v23] E (c_L_owner h2) ml_L_109 ms_L_owner rfl ⟨le_ rfl, le_ rfl⟩ rfl rfl (le_ rfl) ⟨le_ rfl, le_ rfl⟩ dL_holds_584 ?_
      refine j_iload E 13 rfl dL_holds_587 ?_
      refine j_icmp_ne E 596 (by decide) dL_holds_589 (fun c2 => ?_) (fun c2 => ?_)
      · rw [if_neg c2] at hf
        refine j_iconst E 0 ic_0 dL_holds_596 ?_
        refine j_iadd E dL_holds_597 ?_
        obtain ⟨x1, hx1, hf⟩ := bnd_e hf
        refine j_name hx1 ?_
        refine j_istore (ls' := [(23, .int x1), (0, .ref (z + aX 0 0 0)), (1, .ref D.2.2.2.2.2.2.1), (5, .int v5), (6, .ref a6), (7, .ref a7), (8, .ref a8), (9, .ref a9), (10, .ref a10), (17, .int v17), (18, .int v18), (19, .int v19), (20, .int v20), (21, .int v21), (22, .int v22), (24, .int v24)]) E (lt_ rfl) rfl dL_holds_598 ?_
        refine j_iinc (ls' := [(24, .int (v24 + 1)), (23, .int x1), (0, .ref (z + aX 0 0 0)), (1, .ref D.2.2.2.2.2.2.1), (5, .int v5), (6, .ref a6), (7, .ref a7), (8, .ref a8), (9, .ref a9), (10, .ref a10), (17, .int v17), (18, .int v18), (19, .int v19), (20, .int v20), (21, .int v21), (22, .int v22)]) E 15 rfl (lt_ rfl) (v24 + 1) (congrArg (fun q => v24 + q) ic_1) rfl dL_holds_600 ?_
        refine j_goto E 570 (by decide) dL_holds_603 ?_
        refine j_sub [2, 3, 4, 5, 6, 7, 8, 9, 10, 11, 12, 13, 14, 15, 1, 0] rfl ?_
        exact ih _ _ hf
      · rw [if_pos c2] at hf
        refine j_iconst E 1 ic_1 dL_holds_592 ?_
        refine j_goto E 597 (by decide) dL_holds_593 ?_
        refine j_iadd E dL_holds_597 ?_
        obtain ⟨x2, hx2, hf⟩ := bnd_e hf
        refine j_name hx2 ?_
        refine j_istore (ls' := [(23, .int x2), (0, .ref (z + aX 0 0 0)), (1, .ref D.2.2.2.2.2.2.1), (5, .int v5), (6, .ref a6), (7, .ref a7), (8, .ref a8), (9, .ref a9), (10, .ref a10), (17, .int v17), (18, .int v18), (19, .int v19), (20, .int v20), (21, .int v21), (22, .int v22), (24, .int v24)]) E (lt_ rfl) rfl dL_holds_598 ?_
        refine j_iinc (ls' := [(24, .int (v24 + 1)), (23, .int x2), (0, .ref (z + aX 0 0 0)), (1, .ref D.2.2.2.2.2.2.1), (5, .int v5), (6, .ref a6), (7, .ref a7), (8, .ref a8), (9, .ref a9), (10, .ref a10), (17, .int v17), (18, .int v18), (19, .int v19), (20, .int v20), (21, .int v21), (22, .int v22)]) E 15 rfl (lt_ rfl) (v24 + 1) (congrArg (fun q => v24 + q) ic_1) rfl dL_holds_600 ?_
        refine j_goto E 570 (by decide) dL_holds_603 ?_
        refine j_sub [2, 3, 4, 5, 6, 7, 8, 9, 10, 11, 12, 13, 14, 15, 1, 0] rfl ?_
        exact ih _ _ hf
set_option maxRecDepth 20000 in
theorem b_L_holds_557 {p : Program} {l : Launch} {e : Env} {s : State} {m : MethodId} {args : Array Value} {below : List Frame} {meth : Method} {c : Code} {D : DD} {z : Nat} {Y : YT} {aw : Nat} {W : Nat → Int32} {au : Nat} {S : Nat → Int32} {X : XT} {a6 : Nat} {a7 : Nat} {a8 : Nat} {a9 : Nat} {a10 : Nat} {a11 : Nat} {a12 : Nat} {v5 : Int32} (hW : ∀ H, Y H → va_at (gD D) cls (aw, aint D 0 21 W) H) (hS : ∀ H, Y H → va_at (gD D) cls (au, aint D 0 21 S) H) (E : Cx p s m args meth c D z RL cL_holds 25 (some .boolean)) {r : Int32} : ∀ (n : Nat) (f6 : (Nat → Int32)) (f7 : (Nat → Int32)) (f8 : (Nat → Int32)) (f9 : (Nat → Int32)) (f10 : (Nat → Int32)) (f11 : (Nat → Int32)) (f12 : (Nat → Int32)) (v17 : Int32) (v18 : Int32) (v19 : Int32) (v20 : Int32) (v21 : Int32) (v22 : Int32) (hf : f_L_holds_557 X D.2.2.2.2.2.2.2 W S v5 n f6 f7 f8 f9 f10 f11 f12 v17 v18 v19 v20 v21 v22 = some r), J p l e (rmk 6 8 153) s m args below meth c D z (GG D z (X, YL D z Y s.heap.size [(a6, aint D 0 9 f6), (a7, aint D 0 5 f7), (a8, aint D 0 5 f8), (a9, aint D 0 5 f9), (a10, aint D 0 5 f10), (a11, aint D 0 100 f11), (a12, aint D 0 20 f12)])) 7 149 (MQ below (QC z (some (.int r)) (GG D z (X, Y))) args s (rmk 6 8 153).cells (rmk 6 8 153).slots (Az z)) 25 557 [(0, .ref (z + aX 0 0 0)), (1, .ref D.2.2.2.2.2.2.1), (5, .int v5), (6, .ref a6), (7, .ref a7), (8, .ref a8), (9, .ref a9), (10, .ref a10), (17, .int v17), (18, .int v18), (19, .int v19), (20, .int v20), (21, .int v21), (22, .int v22)] [] := by
  intro n
  induction n with
  | zero =>
    intro f6 f7 f8 f9 f10 f11 f12 v17 v18 v19 v20 v21 v22 hf
    exact none_e hf
  | succ n ih =>
    intro f6 f7 f8 f9 f10 f11 f12 v17 v18 v19 v20 v21 v22 hf
    rw [f_L_holds_557] at hf
    refine j_iload E 13 rfl dL_holds_557 ?_
    refine j_iload E 2 rfl dL_holds_559 ?_
    refine j_icmp_ge E 768 (by decide) dL_holds_561 (fun c1 => ?_) (fun c1 => ?_)
    · rw [if_pos c1] at hf
      refine j_iconst E 0 ic_0 dL_holds_768 ?_
      refine j_istore (ls' := [(22, .int 0), (0, .ref (z + aX 0 0 0)), (1, .ref D.2.2.2.2.2.2.1), (5, .int v5), (6, .ref a6), (7, .ref a7), (8, .ref a8), (9, .ref a9), (10, .ref a10), (17, .int v17), (18, .int v18), (19, .int v19), (20, .int v20), (21, .int v21)]) E (lt_ rfl) rfl dL_holds_769 ?_
      refine j_sub [1, 2, 4, 9, 10, 12, 0] rfl ?_
      exact b_L_holds_771 hW hS E 2000 _ _ _ _ _ _ _ _ hf
    · rw [if_neg c1] at hf
      refine j_iconst E 0 ic_0 dL_holds_564 ?_
      refine j_istore (ls' := [(23, .int 0), (0, .ref (z + aX 0 0 0)), (1, .ref D.2.2.2.2.2.2.1), (5, .int v5), (6, .ref a6), (7, .ref a7), (8, .ref a8), (9, .ref a9), (10, .ref a10), (17, .int v17), (18, .int v18), (19, .int v19), (20, .int v20), (21, .int v21), (22, .int v22)]) E (lt_ rfl) rfl dL_holds_565 ?_
      refine j_iconst E 0 ic_0 dL_holds_567 ?_
      refine j_istore (ls' := [(24, .int 0), (23, .int 0), (0, .ref (z + aX 0 0 0)), (1, .ref D.2.2.2.2.2.2.1), (5, .int v5), (6, .ref a6), (7, .ref a7), (8, .ref a8), (9, .ref a9), (10, .ref a10), (17, .int v17), (18, .int v18), (19, .int v19), (20, .int v20), (21, .int v21), (22, .int v22)]) E (lt_ rfl) rfl dL_holds_568 ?_
      obtain ⟨u1, hu1, hr1⟩ := bn1_e hf
      have K1 : ∀ o1 : Int32, u1 = o1 → J p l e (rmk 6 8 153) s m args below meth c D z (GG D z (X, YL D z Y s.heap.size [(a6, aint D 0 9 f6), (a7, aint D 0 5 f7), (a8, aint D 0 5 f8), (a9, aint D 0 5 f9), (a10, aint D 0 5 f10), (a11, aint D 0 100 f11), (a12, aint D 0 20 f12)])) 7 149 (MQ below (QC z (some (.int r)) (GG D z (X, Y))) args s (rmk 6 8 153).cells (rmk 6 8 153).slots (Az z)) 25 606 [(0, .ref (z + aX 0 0 0)), (1, .ref D.2.2.2.2.2.2.1), (5, .int v5), (6, .ref a6), (7, .ref a7), (8, .ref a8), (9, .ref a9), (10, .ref a10), (17, .int v17), (18, .int v18), (19, .int v19), (20, .int v20), (21, .int v21), (22, .int v22), (23, .int o1)] [] := by
        intro o1 hv
        have hv := hv.symm
        subst hv
        have hf := hr1
        refine j_aload_n E 0 rfl dL_holds_606 ?_
        refine j_iload E 13 rfl dL_holds_607 ?_
        obtain ⟨r1, h1, hf⟩ := bn1_e hf
        refine j_invV [] [.int r1] E (c_X11_plotsOf h1) ml_L_303 mv_X11_plotsOf rfl ⟨le_ rfl, le_ rfl⟩ (rcX ok0 cf_X11 ent0) rfl rfl (le_ rfl) ⟨le_ rfl, le_ rfl⟩ dL_holds_609 ?_
        refine j_iload E 14 rfl dL_holds_612 ?_
        refine j_icmp_ne E 676 (by decide) dL_holds_614 (fun c2 => ?_) (fun c2 => ?_)
        · rw [if_neg c2] at hf
          refine j_iconst E 0 ic_0 dL_holds_676 ?_
          cases hf
          refine j_wk (P' := (GG D z (X, Y))) (fun H h => gl_out h) ?_
          exact j_iret E rfl (le_ rfl) (le_ rfl) dL_holds_677
        · rw [if_pos c2] at hf
          refine j_aload_n E 0 rfl dL_holds_617 ?_
          refine j_iload E 13 rfl dL_holds_618 ?_
          obtain ⟨r2, h2, hf⟩ := bn1_e hf
          refine j_invV [] [.int r2] E (c_X11_weightOf h2) ml_L_306 mv_X11_weightOf rfl ⟨le_ rfl, le_ rfl⟩ (rcX ok0 cf_X11 ent0) rfl rfl (le_ rfl) ⟨le_ rfl, le_ rfl⟩ dL_holds_620 ?_
          refine j_aload E 6 rfl dL_holds_623 ?_
          refine j_iload E 13 rfl dL_holds_625 ?_
          obtain ⟨g1, hf⟩ := gd_e hf
          obtain ⟨x1, hx1, hf⟩ := bnd_e hf
          refine jl_iald E (fun H h => gl_at h 3 rfl) g1 hx1.symm dL_holds_627 ?_
          refine j_icmp_ne E 676 (by decide) dL_holds_628 (fun c3 => ?_) (fun c3 => ?_)
          · rw [if_neg c3] at hf
            refine j_iconst E 0 ic_0 dL_holds_676 ?_
            cases hf
            refine j_wk (P' := (GG D z (X, Y))) (fun H h => gl_out h) ?_
            exact j_iret E rfl (le_ rfl) (le_ rfl) dL_holds_677
          · rw [if_pos c3] at hf
            refine j_aload_n E 0 rfl dL_holds_631 ?_
            refine j_iload E 13 rfl dL_holds_632 ?_
            obtain ⟨r3, h3, hf⟩ := bn1_e hf
            refine j_invV [] [.int r3] E (c_X11_owed h3) ml_L_309 mv_X11_owed rfl ⟨le_ rfl, le_ rfl⟩ (rcX ok0 cf_X11 ent0) rfl rfl (le_ rfl) ⟨le_ rfl, le_ rfl⟩ dL_holds_634 ?_
            refine j_aload E 4 rfl dL_holds_637 ?_
            refine j_iload E 13 rfl dL_holds_639 ?_
            obtain ⟨g2, hf⟩ := gd_e hf
            obtain ⟨x2, hx2, hf⟩ := bnd_e hf
            refine jl_iald E (fun H h => gl_at h 1 rfl) g2 hx2.symm dL_holds_641 ?_
            refine j_icmp_ne E 676 (by decide) dL_holds_642 (fun c4 => ?_) (fun c4 => ?_)
            · rw [if_neg c4] at hf
              refine j_iconst E 0 ic_0 dL_holds_676 ?_
              cases hf
              refine j_wk (P' := (GG D z (X, Y))) (fun H h => gl_out h) ?_
              exact j_iret E rfl (le_ rfl) (le_ rfl) dL_holds_677
            · rw [if_pos c4] at hf
              refine j_aload_n E 0 rfl dL_holds_645 ?_
              refine j_iload E 13 rfl dL_holds_646 ?_
              obtain ⟨r4, h4, hf⟩ := bn1_e hf
              refine j_invV [] [.int r4] E (c_X11_paidTo h4) ml_L_312 mv_X11_paidTo rfl ⟨le_ rfl, le_ rfl⟩ (rcX ok0 cf_X11 ent0) rfl rfl (le_ rfl) ⟨le_ rfl, le_ rfl⟩ dL_holds_648 ?_
              refine j_aload E 5 rfl dL_holds_651 ?_
              refine j_iload E 13 rfl dL_holds_653 ?_
              obtain ⟨g3, hf⟩ := gd_e hf
              obtain ⟨x3, hx3, hf⟩ := bnd_e hf
              refine jl_iald E (fun H h => gl_at h 2 rfl) g3 hx3.symm dL_holds_655 ?_
              refine j_icmp_ne E 676 (by decide) dL_holds_656 (fun c5 => ?_) (fun c5 => ?_)
              · rw [if_neg c5] at hf
                refine j_iconst E 0 ic_0 dL_holds_676 ?_
                cases hf
                refine j_wk (P' := (GG D z (X, Y))) (fun H h => gl_out h) ?_
                exact j_iret E rfl (le_ rfl) (le_ rfl) dL_holds_677
              · rw [if_pos c5] at hf
                refine j_aload_n E 0 rfl dL_holds_659 ?_
                refine j_iload E 13 rfl dL_holds_660 ?_
                obtain ⟨r5, h5, hf⟩ := bn1_e hf
                refine j_invV [] [.int r5] E (c_X11_varietiesOf h5) ml_L_315 mv_X11_varietiesOf rfl ⟨le_ rfl, le_ rfl⟩ (rcX ok0 cf_X11 ent0) rfl rfl (le_ rfl) ⟨le_ rfl, le_ rfl⟩ dL_holds_662 ?_
                refine j_aload E 7 rfl dL_holds_665 ?_
                refine j_iload E 13 rfl dL_holds_667 ?_
                obtain ⟨g4, hf⟩ := gd_e hf
                obtain ⟨x4, hx4, hf⟩ := bnd_e hf
                refine jl_iald E (fun H h => gl_at h 4 rfl) g4 hx4.symm dL_holds_669 ?_
                obtain ⟨r6, h6, hf⟩ := bn1_e hf
                refine j_invT [.int r5] [.int r6, .int r5] E (c_J6_bitCount_0f7a4 h6) ml_L_318 ms_J6_bitCount_0f7a4 rfl ⟨le_ rfl, le_ rfl⟩ rfl rfl (le_ rfl) ⟨le_ rfl, le_ rfl⟩ dL_holds_670 ?_
                refine j_icmp_eq E 678 (by decide) dL_holds_673 (fun c6 => ?_) (fun c6 => ?_)
                · rw [if_pos c6] at hf
                  obtain ⟨u2, hu2, hr2⟩ := bn1_e hf
                  have K2 : ∀ o2 : Int32, u2 = o2 → J p l e (rmk 6 8 153) s m args below meth c D z (GG D z (X, YL D z Y s.heap.size [(a6, aint D 0 9 f6), (a7, aint D 0 5 f7), (a8, aint D 0 5 f8), (a9, aint D 0 5 f9), (a10, aint D 0 5 f10), (a11, aint D 0 100 f11), (a12, aint D 0 20 f12)])) 7 149 (MQ below (QC z (some (.int r)) (GG D z (X, Y))) args s (rmk 6 8 153).cells (rmk 6 8 153).slots (Az z)) 25 701 [(0, .ref (z + aX 0 0 0)), (1, .ref D.2.2.2.2.2.2.1), (5, .int v5), (6, .ref a6), (7, .ref a7), (8, .ref a8), (9, .ref a9), (10, .ref a10), (17, .int o2), (18, .int v18), (19, .int v19), (20, .int v20), (21, .int v21), (22, .int v22)] [] := by
                    intro o2 hv
                    have hv := hv.symm
                    subst hv
                    have hf := hr2
                    refine j_iload E 9 rfl dL_holds_701 ?_
                    refine j_aload E 4 rfl dL_holds_703 ?_
                    refine j_iload E 13 rfl dL_holds_705 ?_
                    obtain ⟨g5, hf⟩ := gd_e hf
                    obtain ⟨x5, hx5, hf⟩ := bnd_e hf
                    refine jl_iald E (fun H h => gl_at h 1 rfl) g5 hx5.symm dL_holds_707 ?_
                    refine j_iadd E dL_holds_708 ?_
                    obtain ⟨x6, hx6, hf⟩ := bnd_e hf
                    refine j_name hx6 ?_
                    refine j_istore (ls' := [(18, .int x6), (0, .ref (z + aX 0 0 0)), (1, .ref D.2.2.2.2.2.2.1), (5, .int v5), (6, .ref a6), (7, .ref a7), (8, .ref a8), (9, .ref a9), (10, .ref a10), (17, .int o2), (19, .int v19), (20, .int v20), (21, .int v21), (22, .int v22)]) E (lt_ rfl) rfl dL_holds_709 ?_
                    obtain ⟨u3, hu3, hr3⟩ := bn1_e hf
                    have K3 : ∀ o3 : Int32, u3 = o3 → J p l e (rmk 6 8 153) s m args below meth c D z (GG D z (X, YL D z Y s.heap.size [(a6, aint D 0 9 f6), (a7, aint D 0 5 f7), (a8, aint D 0 5 f8), (a9, aint D 0 5 f9), (a10, aint D 0 5 f10), (a11, aint D 0 100 f11), (a12, aint D 0 20 f12)])) 7 149 (MQ below (QC z (some (.int r)) (GG D z (X, Y))) args s (rmk 6 8 153).cells (rmk 6 8 153).slots (Az z)) 25 731 [(0, .ref (z + aX 0 0 0)), (1, .ref D.2.2.2.2.2.2.1), (5, .int v5), (6, .ref a6), (7, .ref a7), (8, .ref a8), (9, .ref a9), (10, .ref a10), (17, .int o2), (18, .int x6), (19, .int v19), (20, .int v20), (22, .int v22)] [.int o3] := by
                      intro o3 hv
                      have hv := hv.symm
                      subst hv
                      have hf := hr3
                      refine j_istore (ls' := [(21, .int o3), (0, .ref (z + aX 0 0 0)), (1, .ref D.2.2.2.2.2.2.1), (5, .int v5), (6, .ref a6), (7, .ref a7), (8, .ref a8), (9, .ref a9), (10, .ref a10), (17, .int o2), (18, .int x6), (19, .int v19), (20, .int v20), (22, .int v22)]) E (lt_ rfl) rfl dL_holds_731 ?_
                      obtain ⟨u4, hu4, hr4⟩ := bn1_e hf
                      have K4 : ∀ o4 : Int32 × Int32, u4 = o4 → J p l e (rmk 6 8 153) s m args below meth c D z (GG D z (X, YL D z Y s.heap.size [(a6, aint D 0 9 f6), (a7, aint D 0 5 f7), (a8, aint D 0 5 f8), (a9, aint D 0 5 f9), (a10, aint D 0 5 f10), (a11, aint D 0 100 f11), (a12, aint D 0 20 f12)])) 7 149 (MQ below (QC z (some (.int r)) (GG D z (X, Y))) args s (rmk 6 8 153).cells (rmk 6 8 153).slots (Az z)) 25 762 [(0, .ref (z + aX 0 0 0)), (1, .ref D.2.2.2.2.2.2.1), (5, .int v5), (6, .ref a6), (7, .ref a7), (8, .ref a8), (9, .ref a9), (10, .ref a10), (17, .int o2), (18, .int x6), (19, .int o4.1), (20, .int o4.2), (21, .int o3), (22, .int v22)] [] := by
                        intro o4 hv
                        have hv := hv.symm
                        subst hv
                        have hf := hr4
                        refine j_iinc (ls' := [(22, .int (v22 + 1)), (0, .ref (z + aX 0 0 0)), (1, .ref D.2.2.2.2.2.2.1), (5, .int v5), (6, .ref a6), (7, .ref a7), (8, .ref a8), (9, .ref a9), (10, .ref a10), (17, .int o2), (18, .int x6), (19, .int o4.1), (20, .int o4.2), (21, .int o3)]) E 13 rfl (lt_ rfl) (v22 + 1) (congrArg (fun q => v22 + q) ic_1) rfl dL_holds_762 ?_
                        refine j_goto E 557 (by decide) dL_holds_765 ?_
                        refine j_sub [1, 2, 3, 4, 5, 6, 7, 8, 9, 10, 11, 12, 13, 0] rfl ?_
                        exact ih _ _ _ _ _ _ _ _ _ _ _ _ _ hf
                      replace hf := hu4
                      refine j_iload E 0 rfl dL_holds_733 ?_
                      refine j_if_ne E 762 (by decide) dL_holds_735 (fun c7 => ?_) (fun c7 => ?_)
                      · rw [if_neg c7] at hf
                        cases hf
                        refine j_sub [1, 2, 3, 4, 5, 6, 7, 8, 9, 10, 11, 12, 0, 13] rfl ?_
                        exact K4 _ rfl
                      · rw [if_pos c7] at hf
                        refine j_aload E 5 rfl dL_holds_738 ?_
                        refine j_iload E 13 rfl dL_holds_740 ?_
                        obtain ⟨g6, hf⟩ := gd_e hf
                        obtain ⟨x7, hx7, hf⟩ := bnd_e hf
                        refine jl_iald E (fun H h => gl_at h 1 rfl) g6 hx7.symm dL_holds_742 ?_
                        refine j_if_ne E 749 (by decide) dL_holds_743 (fun c8 => ?_) (fun c8 => ?_)
                        · rw [if_neg c8] at hf
                          refine j_iload E 11 rfl dL_holds_749 ?_
                          refine j_aload E 5 rfl dL_holds_751 ?_
                          refine j_iload E 13 rfl dL_holds_753 ?_
                          obtain ⟨g7, hf⟩ := gd_e hf
                          obtain ⟨x8, hx8, hf⟩ := bnd_e hf
                          refine jl_iald E (fun H h => gl_at h 1 rfl) g7 hx8.symm dL_holds_755 ?_
                          refine j_isub E dL_holds_756 ?_
                          obtain ⟨x9, hx9, hf⟩ := bnd_e hf
                          refine j_name hx9 ?_
                          refine j_istore (ls' := [(19, .int x9), (21, .int o3), (0, .ref (z + aX 0 0 0)), (1, .ref D.2.2.2.2.2.2.1), (5, .int v5), (6, .ref a6), (7, .ref a7), (8, .ref a8), (9, .ref a9), (10, .ref a10), (17, .int o2), (18, .int x6), (20, .int v20), (22, .int v22)]) E (lt_ rfl) rfl dL_holds_757 ?_
                          refine j_iinc (ls' := [(20, .int (v20 + 1)), (19, .int x9), (21, .int o3), (0, .ref (z + aX 0 0 0)), (1, .ref D.2.2.2.2.2.2.1), (5, .int v5), (6, .ref a6), (7, .ref a7), (8, .ref a8), (9, .ref a9), (10, .ref a10), (17, .int o2), (18, .int x6), (22, .int v22)]) E 12 rfl (lt_ rfl) (v20 + 1) (congrArg (fun q => v20 + q) ic_1) rfl dL_holds_759 ?_
                          cases hf
                          refine j_sub [3, 4, 5, 6, 7, 8, 9, 10, 11, 12, 1, 0, 2, 13] rfl ?_
                          exact K4 _ rfl
                        · rw [if_pos c8] at hf
                          refine j_goto E 762 (by decide) dL_holds_746 ?_
                          cases hf
                          refine j_sub [1, 2, 3, 4, 5, 6, 7, 8, 9, 10, 11, 12, 0, 13] rfl ?_
                          exact K4 _ rfl
                    replace hf := hu3
                    refine j_iload E 12 rfl dL_holds_711 ?_
                    refine j_if_ne E 726 (by decide) dL_holds_713 (fun c9 => ?_) (fun c9 => ?_)
                    · rw [if_neg c9] at hf
                      refine j_iconst E 1 ic_1 dL_holds_726 ?_
                      refine j_goto E 731 (by decide) dL_holds_727 ?_
                      cases hf
                      refine j_sub [1, 2, 3, 4, 5, 6, 7, 8, 9, 0, 10, 11, 13] rfl ?_
                      exact K3 _ rfl
                    · rw [if_pos c9] at hf
                      refine j_aload E 5 rfl dL_holds_716 ?_
                      refine j_iload E 13 rfl dL_holds_718 ?_
                      obtain ⟨g8, hf⟩ := gd_e hf
                      obtain ⟨x10, hx10, hf⟩ := bnd_e hf
                      refine jl_iald E (fun H h => gl_at h 1 rfl) g8 hx10.symm dL_holds_720 ?_
                      refine j_iload E 10 rfl dL_holds_721 ?_
                      refine j_icmp_le E 730 (by decide) dL_holds_723 (fun c10 => ?_) (fun c10 => ?_)
                      · rw [if_pos c10] at hf
                        refine j_iconst E 0 ic_0 dL_holds_730 ?_
                        cases hf
                        refine j_sub [1, 2, 3, 4, 5, 6, 7, 8, 9, 0, 10, 11, 13] rfl ?_
                        exact K3 _ rfl
                      · rw [if_neg c10] at hf
                        refine j_iconst E 1 ic_1 dL_holds_726 ?_
                        refine j_goto E 731 (by decide) dL_holds_727 ?_
                        cases hf
                        refine j_sub [1, 2, 3, 4, 5, 6, 7, 8, 9, 0, 10, 11, 13] rfl ?_
                        exact K3 _ rfl
                  replace hf := hu2
                  refine j_iload E 8 rfl dL_holds_678 ?_
                  refine j_iconst E (-1) ic_m1 dL_holds_680 ?_
                  refine j_icmp_eq E 697 (by decide) dL_holds_681 (fun c11 => ?_) (fun c11 => ?_)
                  · rw [if_pos c11] at hf
                    refine j_iload E 13 rfl dL_holds_697 ?_
                    refine j_istore (ls' := [(17, .int v22), (0, .ref (z + aX 0 0 0)), (1, .ref D.2.2.2.2.2.2.1), (5, .int v5), (6, .ref a6), (7, .ref a7), (8, .ref a8), (9, .ref a9), (10, .ref a10), (18, .int v18), (19, .int v19), (20, .int v20), (21, .int v21), (22, .int v22), (23, .int o1)]) E (lt_ rfl) rfl dL_holds_699 ?_
                    cases hf
                    refine j_sub [1, 2, 3, 4, 5, 6, 7, 8, 0, 9, 10, 11, 12, 13] rfl ?_
                    exact K2 _ rfl
                  · rw [if_neg c11] at hf
                    refine j_aload E 6 rfl dL_holds_684 ?_
                    refine j_iload E 13 rfl dL_holds_686 ?_
                    obtain ⟨g9, hf⟩ := gd_e hf
                    obtain ⟨x11, hx11, hf⟩ := bnd_e hf
                    refine jl_iald E (fun H h => gl_at h 3 rfl) g9 hx11.symm dL_holds_688 ?_
                    refine j_aload E 6 rfl dL_holds_689 ?_
                    refine j_iload E 8 rfl dL_holds_691 ?_
                    obtain ⟨g10, hf⟩ := gd_e hf
                    obtain ⟨x12, hx12, hf⟩ := bnd_e hf
                    refine jl_iald E (fun H h => gl_at h 3 rfl) g10 hx12.symm dL_holds_693 ?_
                    refine j_icmp_le E 701 (by decide) dL_holds_694 (fun c12 => ?_) (fun c12 => ?_)
                    · rw [if_pos c12] at hf
                      cases hf
                      refine j_sub [0, 1, 2, 3, 4, 5, 6, 7, 8, 9, 10, 11, 12, 13] rfl ?_
                      exact K2 _ rfl
                    · rw [if_neg c12] at hf
                      refine j_iload E 13 rfl dL_holds_697 ?_
                      refine j_istore (ls' := [(17, .int v22), (0, .ref (z + aX 0 0 0)), (1, .ref D.2.2.2.2.2.2.1), (5, .int v5), (6, .ref a6), (7, .ref a7), (8, .ref a8), (9, .ref a9), (10, .ref a10), (18, .int v18), (19, .int v19), (20, .int v20), (21, .int v21), (22, .int v22), (23, .int o1)]) E (lt_ rfl) rfl dL_holds_699 ?_
                      cases hf
                      refine j_sub [1, 2, 3, 4, 5, 6, 7, 8, 0, 9, 10, 11, 12, 13] rfl ?_
                      exact K2 _ rfl
                · rw [if_neg c6] at hf
                  refine j_iconst E 0 ic_0 dL_holds_676 ?_
                  cases hf
                  refine j_wk (P' := (GG D z (X, Y))) (fun H h => gl_out h) ?_
                  exact j_iret E rfl (le_ rfl) (le_ rfl) dL_holds_677
      refine j_sub [2, 3, 4, 5, 6, 7, 8, 9, 10, 11, 12, 13, 14, 15, 1, 0] rfl ?_
      exact b_L_holds_570 hW hS E K1 2000 _ _ hu1
set_option maxRecDepth 20000 in
theorem b_L_holds_491 {p : Program} {l : Launch} {e : Env} {s : State} {m : MethodId} {args : Array Value} {below : List Frame} {meth : Method} {c : Code} {D : DD} {z : Nat} {Y : YT} {aw : Nat} {W : Nat → Int32} {au : Nat} {S : Nat → Int32} {X : XT} {a6 : Nat} {a7 : Nat} {a8 : Nat} {a9 : Nat} {a10 : Nat} {a11 : Nat} {a12 : Nat} {f6 : Nat → Int32} {f7 : Nat → Int32} {f8 : Nat → Int32} {f9 : Nat → Int32} {f10 : Nat → Int32} {f11 : Nat → Int32} {f12 : Nat → Int32} {v5 : Int32} {v17 : Int32} (hW : ∀ H, Y H → va_at (gD D) cls (aw, aint D 0 21 W) H) (hS : ∀ H, Y H → va_at (gD D) cls (au, aint D 0 21 S) H) (E : Cx p s m args meth c D z RL cL_holds 25 (some .boolean)) {r : Int32} {y : Sum Int32 (Unit)} (hr : ∀ v, y = .inl v → r = v) (K : ∀ o : Unit, y = .inr o → J p l e (rmk 6 8 153) s m args below meth c D z (GG D z (X, YL D z Y s.heap.size [(a6, aint D 0 9 f6), (a7, aint D 0 5 f7), (a8, aint D 0 5 f8), (a9, aint D 0 5 f9), (a10, aint D 0 5 f10), (a11, aint D 0 100 f11), (a12, aint D 0 20 f12)])) 7 149 (MQ below (QC z (some (.int r)) (GG D z (X, Y))) args s (rmk 6 8 153).cells (rmk 6 8 153).slots (Az z)) 25 530 [(0, .ref (z + aX 0 0 0)), (1, .ref D.2.2.2.2.2.2.1), (5, .int v5), (6, .ref a6), (7, .ref a7), (8, .ref a8), (9, .ref a9), (10, .ref a10), (11, .ref a11), (17, .int v17)] []) : ∀ (n : Nat) (v18 : Int32) (hf : f_L_holds_491 X D.2.2.2.2.2.2.2 W S f6 f7 f8 f9 f10 f11 f12 v5 v17 n v18 = some y), J p l e (rmk 6 8 153) s m args below meth c D z (GG D z (X, YL D z Y s.heap.size [(a6, aint D 0 9 f6), (a7, aint D 0 5 f7), (a8, aint D 0 5 f8), (a9, aint D 0 5 f9), (a10, aint D 0 5 f10), (a11, aint D 0 100 f11), (a12, aint D 0 20 f12)])) 7 149 (MQ below (QC z (some (.int r)) (GG D z (X, Y))) args s (rmk 6 8 153).cells (rmk 6 8 153).slots (Az z)) 25 491 [(0, .ref (z + aX 0 0 0)), (1, .ref D.2.2.2.2.2.2.1), (5, .int v5), (6, .ref a6), (7, .ref a7), (8, .ref a8), (9, .ref a9), (10, .ref a10), (11, .ref a11), (17, .int v17), (18, .int v18)] [] := by
  intro n
  induction n with
  | zero =>
    intro v18 hf
    exact none_e hf
  | succ n ih =>
    intro v18 hf
    rw [f_L_holds_491] at hf
    refine j_iload E 10 rfl dL_holds_491 ?_
    refine j_aload_n E 0 rfl dL_holds_493 ?_
    obtain ⟨r1, h1, hf⟩ := bn1_e hf
    refine j_invV [.int v18] [.int r1, .int v18] E (c_X11_classCount h1) ml_L_142 mv_X11_classCount rfl ⟨le_ rfl, le_ rfl⟩ (rcX ok0 cf_X11 ent0) rfl rfl (le_ rfl) ⟨le_ rfl, le_ rfl⟩ dL_holds_494 ?_
    refine j_icmp_ge E 530 (by decide) dL_holds_497 (fun c1 => ?_) (fun c1 => ?_)
    · rw [if_pos c1] at hf
      cases hf
      refine j_sub [0, 1, 2, 3, 4, 5, 6, 7, 8, 9] rfl ?_
      exact K _ rfl
    · rw [if_neg c1] at hf
      refine j_aload_n E 0 rfl dL_holds_500 ?_
      refine j_iload E 9 rfl dL_holds_501 ?_
      refine j_iload E 10 rfl dL_holds_503 ?_
      obtain ⟨r2, h2, hf⟩ := bn1_e hf
      refine j_invV [] [.int r2] E (c_X11_weightOfClass h2) ml_L_300 mv_X11_weightOfClass rfl ⟨le_ rfl, le_ rfl⟩ (rcX ok0 cf_X11 ent0) rfl rfl (le_ rfl) ⟨le_ rfl, le_ rfl⟩ dL_holds_505 ?_
      refine j_aload E 8 rfl dL_holds_508 ?_
      refine j_bipush E 10 bp_10 dL_holds_510 ?_
      refine j_iload E 9 rfl dL_holds_512 ?_
      refine j_imul E dL_holds_514 ?_
      refine j_iload E 10 rfl dL_holds_515 ?_
      refine j_iadd E dL_holds_517 ?_
      obtain ⟨x1, hx1, hf⟩ := bnd_e hf
      refine j_name hx1 ?_
      obtain ⟨g1, hf⟩ := gd_e hf
      obtain ⟨x2, hx2, hf⟩ := bnd_e hf
      refine jl_iald E (fun H h => gl_at h 5 rfl) g1 hx2.symm dL_holds_518 ?_
      refine j_icmp_eq E 524 (by decide) dL_holds_519 (fun c2 => ?_) (fun c2 => ?_)
      · rw [if_pos c2] at hf
        refine j_iinc (ls' := [(18, .int (v18 + 1)), (0, .ref (z + aX 0 0 0)), (1, .ref D.2.2.2.2.2.2.1), (5, .int v5), (6, .ref a6), (7, .ref a7), (8, .ref a8), (9, .ref a9), (10, .ref a10), (11, .ref a11), (17, .int v17)]) E 10 rfl (lt_ rfl) (v18 + 1) (congrArg (fun q => v18 + q) ic_1) rfl dL_holds_524 ?_
        refine j_goto E 491 (by decide) dL_holds_527 ?_
        refine j_sub [1, 2, 3, 4, 5, 6, 7, 8, 9, 10, 0] rfl ?_
        exact ih _ hf
      · rw [if_neg c2] at hf
        refine j_iconst E 0 ic_0 dL_holds_522 ?_
        cases hf
        have hf := hr _ rfl
        subst hf
        refine j_wk (P' := (GG D z (X, Y))) (fun H h => gl_out h) ?_
        exact j_iret E rfl (le_ rfl) (le_ rfl) dL_holds_523
set_option maxRecDepth 20000 in
theorem b_L_holds_479 {p : Program} {l : Launch} {e : Env} {s : State} {m : MethodId} {args : Array Value} {below : List Frame} {meth : Method} {c : Code} {D : DD} {z : Nat} {Y : YT} {aw : Nat} {W : Nat → Int32} {au : Nat} {S : Nat → Int32} {X : XT} {a6 : Nat} {a7 : Nat} {a8 : Nat} {a9 : Nat} {a10 : Nat} {a11 : Nat} {a12 : Nat} {v5 : Int32} (hW : ∀ H, Y H → va_at (gD D) cls (aw, aint D 0 21 W) H) (hS : ∀ H, Y H → va_at (gD D) cls (au, aint D 0 21 S) H) (E : Cx p s m args meth c D z RL cL_holds 25 (some .boolean)) {r : Int32} : ∀ (n : Nat) (f6 : (Nat → Int32)) (f7 : (Nat → Int32)) (f8 : (Nat → Int32)) (f9 : (Nat → Int32)) (f10 : (Nat → Int32)) (f11 : (Nat → Int32)) (f12 : (Nat → Int32)) (v17 : Int32) (hf : f_L_holds_479 X D.2.2.2.2.2.2.2 W S v5 n f6 f7 f8 f9 f10 f11 f12 v17 = some r), J p l e (rmk 6 8 153) s m args below meth c D z (GG D z (X, YL D z Y s.heap.size [(a6, aint D 0 9 f6), (a7, aint D 0 5 f7), (a8, aint D 0 5 f8), (a9, aint D 0 5 f9), (a10, aint D 0 5 f10), (a11, aint D 0 100 f11), (a12, aint D 0 20 f12)])) 7 149 (MQ below (QC z (some (.int r)) (GG D z (X, Y))) args s (rmk 6 8 153).cells (rmk 6 8 153).slots (Az z)) 25 479 [(0, .ref (z + aX 0 0 0)), (1, .ref D.2.2.2.2.2.2.1), (5, .int v5), (6, .ref a6), (7, .ref a7), (8, .ref a8), (9, .ref a9), (10, .ref a10), (11, .ref a11), (17, .int v17)] [] := by
  intro n
  induction n with
  | zero =>
    intro f6 f7 f8 f9 f10 f11 f12 v17 hf
    exact none_e hf
  | succ n ih =>
    intro f6 f7 f8 f9 f10 f11 f12 v17 hf
    rw [f_L_holds_479] at hf
    refine j_iload E 9 rfl dL_holds_479 ?_
    refine j_aload_n E 0 rfl dL_holds_481 ?_
    obtain ⟨r1, h1, hf⟩ := bn1_e hf
    refine j_invV [.int v17] [.int r1, .int v17] E (c_X11_varietyCount h1) ml_L_139 mv_X11_varietyCount rfl ⟨le_ rfl, le_ rfl⟩ (rcX ok0 cf_X11 ent0) rfl rfl (le_ rfl) ⟨le_ rfl, le_ rfl⟩ dL_holds_482 ?_
    refine j_icmp_ge E 536 (by decide) dL_holds_485 (fun c1 => ?_) (fun c1 => ?_)
    · rw [if_pos c1] at hf
      refine j_iconst E (-1) ic_m1 dL_holds_536 ?_
      refine j_istore (ls' := [(17, .int (-1)), (0, .ref (z + aX 0 0 0)), (1, .ref D.2.2.2.2.2.2.1), (5, .int v5), (6, .ref a6), (7, .ref a7), (8, .ref a8), (9, .ref a9), (10, .ref a10), (11, .ref a11)]) E (lt_ rfl) rfl dL_holds_537 ?_
      refine j_iconst E 0 ic_0 dL_holds_539 ?_
      refine j_istore (ls' := [(18, .int 0), (17, .int (-1)), (0, .ref (z + aX 0 0 0)), (1, .ref D.2.2.2.2.2.2.1), (5, .int v5), (6, .ref a6), (7, .ref a7), (8, .ref a8), (9, .ref a9), (10, .ref a10), (11, .ref a11)]) E (lt_ rfl) rfl dL_holds_540 ?_
      refine j_aload_n E 2 rfl dL_holds_542 ?_
      obtain ⟨r2, h2, hf⟩ := bn1_e hf
      refine j_invV [] [.int r2] E (c_X11_cash h2) ml_L_157 mv_X11_cash rfl ⟨le_ rfl, le_ rfl⟩ (rcX ok0 cf_X11 ent0) rfl rfl (le_ rfl) ⟨le_ rfl, le_ rfl⟩ dL_holds_543 ?_
      refine j_istore (ls' := [(19, .int r2), (18, .int 0), (17, .int (-1)), (0, .ref (z + aX 0 0 0)), (1, .ref D.2.2.2.2.2.2.1), (5, .int v5), (6, .ref a6), (7, .ref a7), (8, .ref a8), (9, .ref a9), (10, .ref a10), (11, .ref a11)]) E (lt_ rfl) rfl dL_holds_546 ?_
      refine j_iconst E 0 ic_0 dL_holds_548 ?_
      refine j_istore (ls' := [(20, .int 0), (19, .int r2), (18, .int 0), (17, .int (-1)), (0, .ref (z + aX 0 0 0)), (1, .ref D.2.2.2.2.2.2.1), (5, .int v5), (6, .ref a6), (7, .ref a7), (8, .ref a8), (9, .ref a9), (10, .ref a10), (11, .ref a11)]) E (lt_ rfl) rfl dL_holds_549 ?_
      refine j_iconst E 0 ic_0 dL_holds_551 ?_
      refine j_istore (ls' := [(21, .int 0), (20, .int 0), (19, .int r2), (18, .int 0), (17, .int (-1)), (0, .ref (z + aX 0 0 0)), (1, .ref D.2.2.2.2.2.2.1), (5, .int v5), (6, .ref a6), (7, .ref a7), (8, .ref a8), (9, .ref a9), (10, .ref a10), (11, .ref a11)]) E (lt_ rfl) rfl dL_holds_552 ?_
      refine j_iconst E 0 ic_0 dL_holds_554 ?_
      refine j_istore (ls' := [(22, .int 0), (21, .int 0), (20, .int 0), (19, .int r2), (18, .int 0), (17, .int (-1)), (0, .ref (z + aX 0 0 0)), (1, .ref D.2.2.2.2.2.2.1), (5, .int v5), (6, .ref a6), (7, .ref a7), (8, .ref a8), (9, .ref a9), (10, .ref a10), (11, .ref a11)]) E (lt_ rfl) rfl dL_holds_555 ?_
      refine j_sub [6, 7, 8, 9, 10, 11, 12, 13, 5, 4, 3, 2, 1, 0] rfl ?_
      exact b_L_holds_557 hW hS E 2000 _ _ _ _ _ _ _ _ _ _ _ _ _ hf
    · rw [if_neg c1] at hf
      refine j_iconst E 0 ic_0 dL_holds_488 ?_
      refine j_istore (ls' := [(18, .int 0), (0, .ref (z + aX 0 0 0)), (1, .ref D.2.2.2.2.2.2.1), (5, .int v5), (6, .ref a6), (7, .ref a7), (8, .ref a8), (9, .ref a9), (10, .ref a10), (11, .ref a11), (17, .int v17)]) E (lt_ rfl) rfl dL_holds_489 ?_
      obtain ⟨u1, hu1, hr1⟩ := bn1_e hf
      have K1 : ∀ o1 : Unit, u1 = .inr o1 → J p l e (rmk 6 8 153) s m args below meth c D z (GG D z (X, YL D z Y s.heap.size [(a6, aint D 0 9 f6), (a7, aint D 0 5 f7), (a8, aint D 0 5 f8), (a9, aint D 0 5 f9), (a10, aint D 0 5 f10), (a11, aint D 0 100 f11), (a12, aint D 0 20 f12)])) 7 149 (MQ below (QC z (some (.int r)) (GG D z (X, Y))) args s (rmk 6 8 153).cells (rmk 6 8 153).slots (Az z)) 25 530 [(0, .ref (z + aX 0 0 0)), (1, .ref D.2.2.2.2.2.2.1), (5, .int v5), (6, .ref a6), (7, .ref a7), (8, .ref a8), (9, .ref a9), (10, .ref a10), (11, .ref a11), (17, .int v17)] [] := by
        intro o1 hv
        rw [hv] at hr1
        have hf := jn_s hr1
        refine j_iinc (ls' := [(17, .int (v17 + 1)), (0, .ref (z + aX 0 0 0)), (1, .ref D.2.2.2.2.2.2.1), (5, .int v5), (6, .ref a6), (7, .ref a7), (8, .ref a8), (9, .ref a9), (10, .ref a10), (11, .ref a11)]) E 9 rfl (lt_ rfl) (v17 + 1) (congrArg (fun q => v17 + q) ic_1) rfl dL_holds_530 ?_
        refine j_goto E 479 (by decide) dL_holds_533 ?_
        refine j_sub [1, 2, 3, 4, 5, 6, 7, 8, 9, 0] rfl ?_
        exact ih _ _ _ _ _ _ _ _ hf
      refine j_sub [1, 2, 3, 4, 5, 6, 7, 8, 9, 10, 0] rfl ?_
      exact b_L_holds_491 hW hS E (fun v hv => by rw [hv] at hr1; have hf := jn_n hr1; cases hf; rfl) K1 2000 _ hu1
set_option maxRecDepth 20000 in
theorem b_L_holds_407 {p : Program} {l : Launch} {e : Env} {s : State} {m : MethodId} {args : Array Value} {below : List Frame} {meth : Method} {c : Code} {D : DD} {z : Nat} {Y : YT} {aw : Nat} {W : Nat → Int32} {au : Nat} {S : Nat → Int32} {X : XT} {a6 : Nat} {a7 : Nat} {a8 : Nat} {a9 : Nat} {a10 : Nat} {a11 : Nat} {a12 : Nat} {v5 : Int32} {v13 : Int32} (hW : ∀ H, Y H → va_at (gD D) cls (aw, aint D 0 21 W) H) (hS : ∀ H, Y H → va_at (gD D) cls (au, aint D 0 21 S) H) (E : Cx p s m args meth c D z RL cL_holds 25 (some .boolean)) {r : Int32} : ∀ (n : Nat) (f6 : (Nat → Int32)) (f7 : (Nat → Int32)) (f8 : (Nat → Int32)) (f9 : (Nat → Int32)) (f10 : (Nat → Int32)) (f11 : (Nat → Int32)) (f12 : (Nat → Int32)) (v16 : Int32) (v17 : Int32) (hf : f_L_holds_407 X D.2.2.2.2.2.2.2 W S v5 v13 n f6 f7 f8 f9 f10 f11 f12 v16 v17 = some r), J p l e (rmk 6 8 153) s m args below meth c D z (GG D z (X, YL D z Y s.heap.size [(a6, aint D 0 9 f6), (a7, aint D 0 5 f7), (a8, aint D 0 5 f8), (a9, aint D 0 5 f9), (a10, aint D 0 5 f10), (a11, aint D 0 100 f11), (a12, aint D 0 20 f12)])) 7 149 (MQ below (QC z (some (.int r)) (GG D z (X, Y))) args s (rmk 6 8 153).cells (rmk 6 8 153).slots (Az z)) 25 407 [(0, .ref (z + aX 0 0 0)), (1, .ref D.2.2.2.2.2.2.1), (5, .int v5), (6, .ref a6), (7, .ref a7), (8, .ref a8), (9, .ref a9), (10, .ref a10), (11, .ref a11), (12, .ref a12), (13, .int v13), (16, .int v16), (17, .int v17)] [] := by
  intro n
  induction n with
  | zero =>
    intro f6 f7 f8 f9 f10 f11 f12 v16 v17 hf
    exact none_e hf
  | succ n ih =>
    intro f6 f7 f8 f9 f10 f11 f12 v16 v17 hf
    rw [f_L_holds_407] at hf
    refine j_iload E 12 rfl dL_holds_407 ?_
    refine j_iload E 10 rfl dL_holds_409 ?_
    refine j_icmp_ge E 465 (by decide) dL_holds_411 (fun c1 => ?_) (fun c1 => ?_)
    · rw [if_pos c1] at hf
      refine j_aload_n E 0 rfl dL_holds_465 ?_
      obtain ⟨r1, h1, hf⟩ := bn1_e hf
      refine j_invV [] [.int r1] E (c_X11_greatestClass h1) ml_L_297 mv_X11_greatestClass rfl ⟨le_ rfl, le_ rfl⟩ (rcX ok0 cf_X11 ent0) rfl rfl (le_ rfl) ⟨le_ rfl, le_ rfl⟩ dL_holds_466 ?_
      refine j_iload E 11 rfl dL_holds_469 ?_
      refine j_icmp_eq E 476 (by decide) dL_holds_471 (fun c2 => ?_) (fun c2 => ?_)
      · rw [if_pos c2] at hf
        refine j_iconst E 0 ic_0 dL_holds_476 ?_
        refine j_istore (ls' := [(17, .int 0), (0, .ref (z + aX 0 0 0)), (1, .ref D.2.2.2.2.2.2.1), (5, .int v5), (6, .ref a6), (7, .ref a7), (8, .ref a8), (9, .ref a9), (10, .ref a10), (11, .ref a11), (12, .ref a12), (13, .int v13), (16, .int v16)]) E (lt_ rfl) rfl dL_holds_477 ?_
        refine j_sub [1, 2, 3, 4, 5, 6, 7, 8, 9, 0] rfl ?_
        exact b_L_holds_479 hW hS E 2000 _ _ _ _ _ _ _ _ hf
      · rw [if_neg c2] at hf
        refine j_iconst E 0 ic_0 dL_holds_474 ?_
        cases hf
        refine j_wk (P' := (GG D z (X, Y))) (fun H h => gl_out h) ?_
        exact j_iret E rfl (le_ rfl) (le_ rfl) dL_holds_475
    · rw [if_neg c1] at hf
      refine j_aload_n E 0 rfl dL_holds_414 ?_
      refine j_iload E 12 rfl dL_holds_415 ?_
      obtain ⟨r2, h2, hf⟩ := bn1_e hf
      refine j_invV [] [.int r2] E (c_X11_classInOrder h2) ml_L_294 mv_X11_classInOrder rfl ⟨le_ rfl, le_ rfl⟩ (rcX ok0 cf_X11 ent0) rfl rfl (le_ rfl) ⟨le_ rfl, le_ rfl⟩ dL_holds_417 ?_
      refine j_aload E 9 rfl dL_holds_420 ?_
      refine j_iload E 12 rfl dL_holds_422 ?_
      obtain ⟨g1, hf⟩ := gd_e hf
      obtain ⟨x1, hx1, hf⟩ := bnd_e hf
      refine jl_iald E (fun H h => gl_at h 6 rfl) g1 hx1.symm dL_holds_424 ?_
      refine j_icmp_eq E 430 (by decide) dL_holds_425 (fun c3 => ?_) (fun c3 => ?_)
      · rw [if_pos c3] at hf
        refine j_iload E 11 rfl dL_holds_430 ?_
        refine j_iconst E (-1) ic_m1 dL_holds_432 ?_
        refine j_icmp_eq E 452 (by decide) dL_holds_433 (fun c4 => ?_) (fun c4 => ?_)
        · rw [if_pos c4] at hf
          refine j_aload E 9 rfl dL_holds_452 ?_
          refine j_iload E 12 rfl dL_holds_454 ?_
          obtain ⟨g2, hf⟩ := gd_e hf
          obtain ⟨x2, hx2, hf⟩ := bnd_e hf
          refine jl_iald E (fun H h => gl_at h 6 rfl) g2 hx2.symm dL_holds_456 ?_
          refine j_istore (ls' := [(16, .int x2), (0, .ref (z + aX 0 0 0)), (1, .ref D.2.2.2.2.2.2.1), (5, .int v5), (6, .ref a6), (7, .ref a7), (8, .ref a8), (9, .ref a9), (10, .ref a10), (11, .ref a11), (12, .ref a12), (13, .int v13), (17, .int v17)]) E (lt_ rfl) rfl dL_holds_457 ?_
          refine j_iinc (ls' := [(17, .int (v17 + 1)), (16, .int x2), (0, .ref (z + aX 0 0 0)), (1, .ref D.2.2.2.2.2.2.1), (5, .int v5), (6, .ref a6), (7, .ref a7), (8, .ref a8), (9, .ref a9), (10, .ref a10), (11, .ref a11), (12, .ref a12), (13, .int v13)]) E 12 rfl (lt_ rfl) (v17 + 1) (congrArg (fun q => v17 + q) ic_1) rfl dL_holds_459 ?_
          refine j_goto E 407 (by decide) dL_holds_462 ?_
          refine j_sub [2, 3, 4, 5, 6, 7, 8, 9, 10, 11, 12, 1, 0] rfl ?_
          exact ih _ _ _ _ _ _ _ _ _ hf
        · rw [if_neg c4] at hf
          refine j_aload E 8 rfl dL_holds_436 ?_
          refine j_aload E 9 rfl dL_holds_438 ?_
          refine j_iload E 12 rfl dL_holds_440 ?_
          obtain ⟨g3, hf⟩ := gd_e hf
          obtain ⟨x3, hx3, hf⟩ := bnd_e hf
          refine jl_iald E (fun H h => gl_at h 6 rfl) g3 hx3.symm dL_holds_442 ?_
          obtain ⟨g4, hf⟩ := gd_e hf
          obtain ⟨x4, hx4, hf⟩ := bnd_e hf
          refine jl_iald E (fun H h => gl_at h 5 rfl) g4 hx4.symm dL_holds_443 ?_
          refine j_aload E 8 rfl dL_holds_444 ?_
          refine j_iload E 11 rfl dL_holds_446 ?_
          obtain ⟨g5, hf⟩ := gd_e hf
          obtain ⟨x5, hx5, hf⟩ := bnd_e hf
          refine jl_iald E (fun H h => gl_at h 5 rfl) g5 hx5.symm dL_holds_448 ?_
          refine j_icmp_le E 459 (by decide) dL_holds_449 (fun c5 => ?_) (fun c5 => ?_)
          · rw [if_pos c5] at hf
            refine j_iinc (ls' := [(17, .int (v17 + 1)), (0, .ref (z + aX 0 0 0)), (1, .ref D.2.2.2.2.2.2.1), (5, .int v5), (6, .ref a6), (7, .ref a7), (8, .ref a8), (9, .ref a9), (10, .ref a10), (11, .ref a11), (12, .ref a12), (13, .int v13), (16, .int v16)]) E 12 rfl (lt_ rfl) (v17 + 1) (congrArg (fun q => v17 + q) ic_1) rfl dL_holds_459 ?_
            refine j_goto E 407 (by decide) dL_holds_462 ?_
            refine j_sub [1, 2, 3, 4, 5, 6, 7, 8, 9, 10, 11, 12, 0] rfl ?_
            exact ih _ _ _ _ _ _ _ _ _ hf
          · rw [if_neg c5] at hf
            refine j_aload E 9 rfl dL_holds_452 ?_
            refine j_iload E 12 rfl dL_holds_454 ?_
            obtain ⟨g6, hf⟩ := gd_e hf
            obtain ⟨x6, hx6, hf⟩ := bnd_e hf
            refine jl_iald E (fun H h => gl_at h 6 rfl) g6 hx6.symm dL_holds_456 ?_
            refine j_istore (ls' := [(16, .int x6), (0, .ref (z + aX 0 0 0)), (1, .ref D.2.2.2.2.2.2.1), (5, .int v5), (6, .ref a6), (7, .ref a7), (8, .ref a8), (9, .ref a9), (10, .ref a10), (11, .ref a11), (12, .ref a12), (13, .int v13), (17, .int v17)]) E (lt_ rfl) rfl dL_holds_457 ?_
            refine j_iinc (ls' := [(17, .int (v17 + 1)), (16, .int x6), (0, .ref (z + aX 0 0 0)), (1, .ref D.2.2.2.2.2.2.1), (5, .int v5), (6, .ref a6), (7, .ref a7), (8, .ref a8), (9, .ref a9), (10, .ref a10), (11, .ref a11), (12, .ref a12), (13, .int v13)]) E 12 rfl (lt_ rfl) (v17 + 1) (congrArg (fun q => v17 + q) ic_1) rfl dL_holds_459 ?_
            refine j_goto E 407 (by decide) dL_holds_462 ?_
            refine j_sub [2, 3, 4, 5, 6, 7, 8, 9, 10, 11, 12, 1, 0] rfl ?_
            exact ih _ _ _ _ _ _ _ _ _ hf
      · rw [if_neg c3] at hf
        refine j_iconst E 0 ic_0 dL_holds_428 ?_
        cases hf
        refine j_wk (P' := (GG D z (X, Y))) (fun H h => gl_out h) ?_
        exact j_iret E rfl (le_ rfl) (le_ rfl) dL_holds_429
set_option maxRecDepth 20000 in
theorem b_L_holds_85 {p : Program} {l : Launch} {e : Env} {s : State} {m : MethodId} {args : Array Value} {below : List Frame} {meth : Method} {c : Code} {D : DD} {z : Nat} {Y : YT} {aw : Nat} {W : Nat → Int32} {au : Nat} {S : Nat → Int32} {X : XT} {a6 : Nat} {a7 : Nat} {a8 : Nat} {a9 : Nat} {a10 : Nat} {a11 : Nat} {a12 : Nat} {v4 : Int32} {v5 : Int32} (hW : ∀ H, Y H → va_at (gD D) cls (aw, aint D 0 21 W) H) (hS : ∀ H, Y H → va_at (gD D) cls (au, aint D 0 21 S) H) (E : Cx p s m args meth c D z RL cL_holds 25 (some .boolean)) {r : Int32} : ∀ (n : Nat) (f6 : (Nat → Int32)) (f7 : (Nat → Int32)) (f8 : (Nat → Int32)) (f9 : (Nat → Int32)) (f10 : (Nat → Int32)) (f11 : (Nat → Int32)) (f12 : (Nat → Int32)) (v13 : Int32) (v14 : Int32) (v15 : Int32) (v16 : Int32) (hf : f_L_holds_85 X D.2.2.2.2.2.2.2 W S v4 v5 n f6 f7 f8 f9 f10 f11 f12 v13 v14 v15 v16 = some r), J p l e (rmk 6 8 153) s m args below meth c D z (GG D z (X, YL D z Y s.heap.size [(a6, aint D 0 9 f6), (a7, aint D 0 5 f7), (a8, aint D 0 5 f8), (a9, aint D 0 5 f9), (a10, aint D 0 5 f10), (a11, aint D 0 100 f11), (a12, aint D 0 20 f12)])) 7 149 (MQ below (QC z (some (.int r)) (GG D z (X, Y))) args s (rmk 6 8 153).cells (rmk 6 8 153).slots (Az z)) 25 85 [(0, .ref (z + aX 0 0 0)), (1, .ref D.2.2.2.2.2.2.1), (2, .ref aw), (3, .ref au), (4, .int v4), (5, .int v5), (6, .ref a6), (7, .ref a7), (8, .ref a8), (9, .ref a9), (10, .ref a10), (11, .ref a11), (12, .ref a12), (13, .int v13), (14, .int v14), (15, .int v15), (16, .int v16)] [] := by
  intro n
  induction n with
  | zero =>
    intro f6 f7 f8 f9 f10 f11 f12 v13 v14 v15 v16 hf
    exact none_e hf
  | succ n ih =>
    intro f6 f7 f8 f9 f10 f11 f12 v13 v14 v15 v16 hf
    rw [f_L_holds_85] at hf
    refine j_iload E 16 rfl dL_holds_85 ?_
    refine j_iload E 4 rfl dL_holds_87 ?_
    refine j_icmp_ge E 366 (by decide) dL_holds_89 (fun c1 => ?_) (fun c1 => ?_)
    · rw [if_pos c1] at hf
      refine j_aload_n E 0 rfl dL_holds_366 ?_
      obtain ⟨r1, h1, hf⟩ := bn1_e hf
      refine j_invV [] [.int r1] E (c_X11_deliveredClasses h1) ml_L_287 mv_X11_deliveredClasses rfl ⟨le_ rfl, le_ rfl⟩ (rcX ok0 cf_X11 ent0) rfl rfl (le_ rfl) ⟨le_ rfl, le_ rfl⟩ dL_holds_367 ?_
      refine j_iload E 13 rfl dL_holds_370 ?_
      refine j_icmp_ne E 399 (by decide) dL_holds_372 (fun c2 => ?_) (fun c2 => ?_)
      · rw [if_neg c2] at hf
        refine j_iconst E 0 ic_0 dL_holds_399 ?_
        cases hf
        refine j_wk (P' := (GG D z (X, Y))) (fun H h => gl_out h) ?_
        exact j_iret E rfl (le_ rfl) (le_ rfl) dL_holds_400
      · rw [if_pos c2] at hf
        refine j_aload_n E 0 rfl dL_holds_375 ?_
        obtain ⟨r2, h2, hf⟩ := bn1_e hf
        refine j_invV [] [.double r2] E (c_X11_averageSugar h2) ml_L_290 mv_X11_averageSugar rfl ⟨le_ rfl, le_ rfl⟩ (rcX ok0 cf_X11 ent0) rfl rfl (le_ rfl) ⟨le_ rfl, le_ rfl⟩ dL_holds_376 ?_
        obtain ⟨u1, hu1, hr1⟩ := bn1_e hf
        have K1 : ∀ o1 : UInt64, u1 = o1 → J p l e (rmk 6 8 153) s m args below meth c D z (GG D z (X, YL D z Y s.heap.size [(a6, aint D 0 9 f6), (a7, aint D 0 5 f7), (a8, aint D 0 5 f8), (a9, aint D 0 5 f9), (a10, aint D 0 5 f10), (a11, aint D 0 100 f11), (a12, aint D 0 20 f12)])) 7 149 (MQ below (QC z (some (.int r)) (GG D z (X, Y))) args s (rmk 6 8 153).cells (rmk 6 8 153).slots (Az z)) 25 395 [(0, .ref (z + aX 0 0 0)), (1, .ref D.2.2.2.2.2.2.1), (5, .int v5), (6, .ref a6), (7, .ref a7), (8, .ref a8), (9, .ref a9), (10, .ref a10), (11, .ref a11), (12, .ref a12), (13, .int v13)] [.double o1, .double r2] := by
          intro o1 hv
          have hv := hv.symm
          subst hv
          have hf := hr1
          refine jl_dcmp E dL_holds_395 ?_
          refine j_if_eq E 401 (by decide) dL_holds_396 (fun c3 => ?_) (fun c3 => ?_)
          · rw [if_pos c3] at hf
            refine j_iconst E (-1) ic_m1 dL_holds_401 ?_
            refine j_istore (ls' := [(16, .int (-1)), (0, .ref (z + aX 0 0 0)), (1, .ref D.2.2.2.2.2.2.1), (5, .int v5), (6, .ref a6), (7, .ref a7), (8, .ref a8), (9, .ref a9), (10, .ref a10), (11, .ref a11), (12, .ref a12), (13, .int v13)]) E (lt_ rfl) rfl dL_holds_402 ?_
            refine j_iconst E 0 ic_0 dL_holds_404 ?_
            refine j_istore (ls' := [(17, .int 0), (16, .int (-1)), (0, .ref (z + aX 0 0 0)), (1, .ref D.2.2.2.2.2.2.1), (5, .int v5), (6, .ref a6), (7, .ref a7), (8, .ref a8), (9, .ref a9), (10, .ref a10), (11, .ref a11), (12, .ref a12), (13, .int v13)]) E (lt_ rfl) rfl dL_holds_405 ?_
            refine j_sub [2, 3, 4, 5, 6, 7, 8, 9, 10, 11, 12, 1, 0] rfl ?_
            exact b_L_holds_407 hW hS E 2000 _ _ _ _ _ _ _ _ _ hf
          · rw [if_neg c3] at hf
            refine j_iconst E 0 ic_0 dL_holds_399 ?_
            cases hf
            refine j_wk (P' := (GG D z (X, Y))) (fun H h => gl_out h) ?_
            exact j_iret E rfl (le_ rfl) (le_ rfl) dL_holds_400
        replace hf := hu1
        refine j_iload E 4 rfl dL_holds_379 ?_
        refine j_if_ne E 388 (by decide) dL_holds_381 (fun c4 => ?_) (fun c4 => ?_)
        · rw [if_neg c4] at hf
          refine j_iload E 15 rfl dL_holds_388 ?_
          refine j_i2d E dL_holds_390 ?_
          refine j_iload E 14 rfl dL_holds_391 ?_
          refine j_i2d E dL_holds_393 ?_
          obtain ⟨g1, hf⟩ := gd_e hf
          refine j_ddiv E g1 dL_holds_394 ?_
          cases hf
          refine j_sub [0, 1, 5, 6, 7, 8, 9, 10, 11, 12, 13] rfl ?_
          exact K1 _ rfl
        · rw [if_pos c4] at hf
          refine j_dconst0 E dL_holds_384 ?_
          refine j_goto E 395 (by decide) dL_holds_385 ?_
          cases hf
          refine j_sub [0, 1, 5, 6, 7, 8, 9, 10, 11, 12, 13] rfl ?_
          exact K1 _ rfl
    · rw [if_neg c1] at hf
      refine j_aload_n E 0 rfl dL_holds_92 ?_
      refine j_iload E 16 rfl dL_holds_93 ?_
      obtain ⟨r3, h3, hf⟩ := bn1_e hf
      refine j_invV [] [.int r3] E (c_X11_plotOfLoad h3) ml_L_281 mv_X11_plotOfLoad rfl ⟨le_ rfl, le_ rfl⟩ (rcX ok0 cf_X11 ent0) rfl rfl (le_ rfl) ⟨le_ rfl, le_ rfl⟩ dL_holds_95 ?_
      refine j_istore (ls' := [(17, .int r3), (0, .ref (z + aX 0 0 0)), (1, .ref D.2.2.2.2.2.2.1), (2, .ref aw), (3, .ref au), (4, .int v4), (5, .int v5), (6, .ref a6), (7, .ref a7), (8, .ref a8), (9, .ref a9), (10, .ref a10), (11, .ref a11), (12, .ref a12), (13, .int v13), (14, .int v14), (15, .int v15), (16, .int v16)]) E (lt_ rfl) rfl dL_holds_98 ?_
      refine j_aload_n E 2 rfl dL_holds_100 ?_
      refine j_iload E 0 rfl dL_holds_101 ?_
      obtain ⟨r4, h4, hf⟩ := bn1_e hf
      refine j_invS [] [.int r4] E (c_L_wine h4) ml_L_112 ms_L_wine rfl ⟨le_ rfl, le_ rfl⟩ rfl rfl (le_ rfl) ⟨le_ rfl, le_ rfl⟩ dL_holds_103 ?_
      refine j_istore (ls' := [(18, .int r4), (17, .int r3), (0, .ref (z + aX 0 0 0)), (1, .ref D.2.2.2.2.2.2.1), (2, .ref aw), (3, .ref au), (4, .int v4), (5, .int v5), (6, .ref a6), (7, .ref a7), (8, .ref a8), (9, .ref a9), (10, .ref a10), (11, .ref a11), (12, .ref a12), (13, .int v13), (14, .int v14), (15, .int v15), (16, .int v16)]) E (lt_ rfl) rfl dL_holds_106 ?_
      refine j_aload_n E 3 rfl dL_holds_108 ?_
      refine j_iload E 1 rfl dL_holds_109 ?_
      obtain ⟨r5, h5, hf⟩ := bn1_e hf
      refine j_invS [] [.int r5] E (c_L_owner h5) ml_L_109 ms_L_owner rfl ⟨le_ rfl, le_ rfl⟩ rfl rfl (le_ rfl) ⟨le_ rfl, le_ rfl⟩ dL_holds_111 ?_
      refine j_istore (ls' := [(19, .int r5), (18, .int r4), (17, .int r3), (0, .ref (z + aX 0 0 0)), (1, .ref D.2.2.2.2.2.2.1), (2, .ref aw), (3, .ref au), (4, .int v4), (5, .int v5), (6, .ref a6), (7, .ref a7), (8, .ref a8), (9, .ref a9), (10, .ref a10), (11, .ref a11), (12, .ref a12), (13, .int v13), (14, .int v14), (15, .int v15), (16, .int v16)]) E (lt_ rfl) rfl dL_holds_114 ?_
      refine j_aload_n E 4 rfl dL_holds_116 ?_
      refine j_aload_n E 6 rfl dL_holds_117 ?_
      refine j_iload E 19 rfl dL_holds_118 ?_
      obtain ⟨g2, hf⟩ := gd_e hf
      obtain ⟨x1, hx1, hf⟩ := bnd_e hf
      refine jl_iald E (fun H h => hS H (gl_y h)) g2 hx1.symm dL_holds_120 ?_
      obtain ⟨r6, h6, hf⟩ := bn1_e hf
      refine j_invS [] [.int r6] E (c_L_grade h6) ml_L_181 ms_L_grade rfl ⟨le_ rfl, le_ rfl⟩ rfl rfl (le_ rfl) ⟨le_ rfl, le_ rfl⟩ dL_holds_121 ?_
      refine j_istore (ls' := [(20, .int r6), (19, .int r5), (18, .int r4), (17, .int r3), (0, .ref (z + aX 0 0 0)), (1, .ref D.2.2.2.2.2.2.1), (2, .ref aw), (3, .ref au), (4, .int v4), (5, .int v5), (6, .ref a6), (7, .ref a7), (8, .ref a8), (9, .ref a9), (10, .ref a10), (11, .ref a11), (12, .ref a12), (13, .int v13), (14, .int v14), (15, .int v15), (16, .int v16)]) E (lt_ rfl) rfl dL_holds_124 ?_
      refine j_aload E 10 rfl dL_holds_126 ?_
      refine j_iload E 3 rfl dL_holds_128 ?_
      refine j_dup2 E rfl rfl dL_holds_130 ?_
      obtain ⟨g3, hf⟩ := gd_e hf
      obtain ⟨x2, hx2, hf⟩ := bnd_e hf
      refine jl_iald E (fun H h => gl_at h 0 rfl) g3 hx2.symm dL_holds_131 ?_
      refine j_aload_n E 6 rfl dL_holds_132 ?_
      refine j_iload E 20 rfl dL_holds_133 ?_
      obtain ⟨g4, hf⟩ := gd_e hf
      obtain ⟨x3, hx3, hf⟩ := bnd_e hf
      refine jl_iald E (fun H h => hW H (gl_y h)) g4 hx3.symm dL_holds_135 ?_
      refine j_iadd E dL_holds_136 ?_
      obtain ⟨g5, hf⟩ := gd_e hf
      obtain ⟨y1, hy1, hf⟩ := bnd_e hf
      refine jl_iast (L' := [(a6, aint D 0 9 y1), (a7, aint D 0 5 f7), (a8, aint D 0 5 f8), (a9, aint D 0 5 f9), (a10, aint D 0 5 f10), (a11, aint D 0 100 f11), (a12, aint D 0 20 f12)]) E rfl 0 rfl g5 _ rfl (by rw [hy1]; rfl) dL_holds_137 ?_
      obtain ⟨u2, hu2, hr2⟩ := bn1_e hf
      have K2 : ∀ o2 : Int32, u2 = o2 → J p l e (rmk 6 8 153) s m args below meth c D z (GG D z (X, YL D z Y s.heap.size [(a6, aint D 0 9 y1), (a7, aint D 0 5 f7), (a8, aint D 0 5 f8), (a9, aint D 0 5 f9), (a10, aint D 0 5 f10), (a11, aint D 0 100 f11), (a12, aint D 0 20 f12)])) 7 149 (MQ below (QC z (some (.int r)) (GG D z (X, Y))) args s (rmk 6 8 153).cells (rmk 6 8 153).slots (Az z)) 25 168 [(0, .ref (z + aX 0 0 0)), (1, .ref D.2.2.2.2.2.2.1), (2, .ref aw), (3, .ref au), (4, .int v4), (5, .int v5), (6, .ref a6), (7, .ref a7), (8, .ref a8), (9, .ref a9), (10, .ref a10), (11, .ref a11), (12, .ref a12), (13, .int v13), (14, .int v14), (15, .int v15), (16, .int v16), (18, .int r4), (19, .int r5), (20, .int r6)] [.int o2] := by
        intro o2 hv
        have hv := hv.symm
        subst hv
        have hf := hr2
        refine j_istore (ls' := [(21, .int o2), (0, .ref (z + aX 0 0 0)), (1, .ref D.2.2.2.2.2.2.1), (2, .ref aw), (3, .ref au), (4, .int v4), (5, .int v5), (6, .ref a6), (7, .ref a7), (8, .ref a8), (9, .ref a9), (10, .ref a10), (11, .ref a11), (12, .ref a12), (13, .int v13), (14, .int v14), (15, .int v15), (16, .int v16), (18, .int r4), (19, .int r5), (20, .int r6)]) E (lt_ rfl) rfl dL_holds_168 ?_
        obtain ⟨u3, hu3, hr3⟩ := bn1_e hf
        have K3 : ∀ o3 : Unit, u3 = .inr o3 → J p l e (rmk 6 8 153) s m args below meth c D z (GG D z (X, YL D z Y s.heap.size [(a6, aint D 0 9 y1), (a7, aint D 0 5 f7), (a8, aint D 0 5 f8), (a9, aint D 0 5 f9), (a10, aint D 0 5 f10), (a11, aint D 0 100 f11), (a12, aint D 0 20 f12)])) 7 149 (MQ below (QC z (some (.int r)) (GG D z (X, Y))) args s (rmk 6 8 153).cells (rmk 6 8 153).slots (Az z)) 25 204 [(0, .ref (z + aX 0 0 0)), (1, .ref D.2.2.2.2.2.2.1), (2, .ref aw), (3, .ref au), (4, .int v4), (5, .int v5), (6, .ref a6), (7, .ref a7), (8, .ref a8), (9, .ref a9), (10, .ref a10), (11, .ref a11), (12, .ref a12), (13, .int v13), (14, .int v14), (15, .int v15), (16, .int v16), (18, .int r4), (19, .int r5), (21, .int o2)] [] := by
          intro o3 hv
          rw [hv] at hr3
          have hf := jn_s hr3
          obtain ⟨u4, hu4, hr4⟩ := bn1_e hf
          have K4 : ∀ o4 : Unit, u4 = .inr o4 → J p l e (rmk 6 8 153) s m args below meth c D z (GG D z (X, YL D z Y s.heap.size [(a6, aint D 0 9 y1), (a7, aint D 0 5 f7), (a8, aint D 0 5 f8), (a9, aint D 0 5 f9), (a10, aint D 0 5 f10), (a11, aint D 0 100 f11), (a12, aint D 0 20 f12)])) 7 149 (MQ below (QC z (some (.int r)) (GG D z (X, Y))) args s (rmk 6 8 153).cells (rmk 6 8 153).slots (Az z)) 25 237 [(0, .ref (z + aX 0 0 0)), (1, .ref D.2.2.2.2.2.2.1), (2, .ref aw), (3, .ref au), (4, .int v4), (5, .int v5), (6, .ref a6), (7, .ref a7), (8, .ref a8), (9, .ref a9), (10, .ref a10), (11, .ref a11), (12, .ref a12), (13, .int v13), (14, .int v14), (15, .int v15), (16, .int v16), (18, .int r4), (19, .int r5), (21, .int o2)] [] := by
            intro o4 hv
            rw [hv] at hr4
            have hf := jn_s hr4
            obtain ⟨u5, hu5, hr5⟩ := bn1_e hf
            have K5 : ∀ o5 : (Nat → Int32) × (Nat → Int32), u5 = o5 → J p l e (rmk 6 8 153) s m args below meth c D z (GG D z (X, YL D z Y s.heap.size [(a6, aint D 0 9 y1), (a7, aint D 0 5 (o5.2)), (a8, aint D 0 5 (o5.1)), (a9, aint D 0 5 f9), (a10, aint D 0 5 f10), (a11, aint D 0 100 f11), (a12, aint D 0 20 f12)])) 7 149 (MQ below (QC z (some (.int r)) (GG D z (X, Y))) args s (rmk 6 8 153).cells (rmk 6 8 153).slots (Az z)) 25 265 [(0, .ref (z + aX 0 0 0)), (1, .ref D.2.2.2.2.2.2.1), (2, .ref aw), (3, .ref au), (4, .int v4), (5, .int v5), (6, .ref a6), (7, .ref a7), (8, .ref a8), (9, .ref a9), (10, .ref a10), (11, .ref a11), (12, .ref a12), (13, .int v13), (14, .int v14), (15, .int v15), (16, .int v16), (18, .int r4), (19, .int r5), (21, .int o2)] [] := by
              intro o5 hv
              have hv := hv.symm
              subst hv
              have hf := hr5
              refine j_aload E 9 rfl dL_holds_265 ?_
              refine j_iload E 18 rfl dL_holds_267 ?_
              refine j_dup2 E rfl rfl dL_holds_269 ?_
              obtain ⟨g6, hf⟩ := gd_e hf
              obtain ⟨x4, hx4, hf⟩ := bnd_e hf
              refine jl_iald E (fun H h => gl_at h 3 rfl) g6 hx4.symm dL_holds_270 ?_
              refine j_aload_n E 2 rfl dL_holds_271 ?_
              refine j_iload E 16 rfl dL_holds_272 ?_
              obtain ⟨g7, hf⟩ := gd_e hf
              obtain ⟨x5, hx5, hf⟩ := bnd_e hf
              refine jl_iald E (fun H h => hW H (gl_y h)) g7 hx5.symm dL_holds_274 ?_
              refine j_iadd E dL_holds_275 ?_
              obtain ⟨g8, hf⟩ := gd_e hf
              obtain ⟨y2, hy2, hf⟩ := bnd_e hf
              refine jl_iast (L' := [(a6, aint D 0 9 y1), (a7, aint D 0 5 (o5.2)), (a8, aint D 0 5 (o5.1)), (a9, aint D 0 5 y2), (a10, aint D 0 5 f10), (a11, aint D 0 100 f11), (a12, aint D 0 20 f12)]) E rfl 3 rfl g8 _ rfl (by rw [hy2]; rfl) dL_holds_276 ?_
              refine j_aload E 10 rfl dL_holds_277 ?_
              refine j_iload E 18 rfl dL_holds_279 ?_
              refine j_dup2 E rfl rfl dL_holds_281 ?_
              obtain ⟨g9, hf⟩ := gd_e hf
              obtain ⟨x6, hx6, hf⟩ := bnd_e hf
              refine jl_iald E (fun H h => gl_at h 4 rfl) g9 hx6.symm dL_holds_282 ?_
              refine j_iconst E 1 ic_1 dL_holds_283 ?_
              refine j_iload E 17 rfl dL_holds_284 ?_
              refine j_ishl E dL_holds_286 ?_
              refine j_ior E dL_holds_287 ?_
              obtain ⟨g10, hf⟩ := gd_e hf
              obtain ⟨y3, hy3, hf⟩ := bnd_e hf
              refine jl_iast (L' := [(a6, aint D 0 9 y1), (a7, aint D 0 5 (o5.2)), (a8, aint D 0 5 (o5.1)), (a9, aint D 0 5 y2), (a10, aint D 0 5 y3), (a11, aint D 0 100 f11), (a12, aint D 0 20 f12)]) E rfl 4 rfl g10 _ rfl (by rw [hy3]; rfl) dL_holds_288 ?_
              obtain ⟨u6, hu6, hr6⟩ := bn1_e hf
              have K6 : ∀ o6 : (Nat → Int32) × Int32, u6 = o6 → J p l e (rmk 6 8 153) s m args below meth c D z (GG D z (X, YL D z Y s.heap.size [(a6, aint D 0 9 y1), (a7, aint D 0 5 (o5.2)), (a8, aint D 0 5 (o5.1)), (a9, aint D 0 5 y2), (a10, aint D 0 5 y3), (a11, aint D 0 100 f11), (a12, aint D 0 20 (o6.1))])) 7 149 (MQ below (QC z (some (.int r)) (GG D z (X, Y))) args s (rmk 6 8 153).cells (rmk 6 8 153).slots (Az z)) 25 319 [(0, .ref (z + aX 0 0 0)), (1, .ref D.2.2.2.2.2.2.1), (2, .ref aw), (3, .ref au), (4, .int v4), (5, .int v5), (6, .ref a6), (7, .ref a7), (8, .ref a8), (9, .ref a9), (10, .ref a10), (11, .ref a11), (12, .ref a12), (13, .int o6.2), (14, .int v14), (15, .int v15), (16, .int v16), (18, .int r4), (21, .int o2)] [] := by
                intro o6 hv
                have hv := hv.symm
                subst hv
                have hf := hr6
                refine j_aload E 11 rfl dL_holds_319 ?_
                refine j_bipush E 10 bp_10 dL_holds_321 ?_
                refine j_iload E 17 rfl dL_holds_323 ?_
                refine j_imul E dL_holds_325 ?_
                refine j_iload E 18 rfl dL_holds_326 ?_
                refine j_iadd E dL_holds_328 ?_
                obtain ⟨x7, hx7, hf⟩ := bnd_e hf
                refine j_name hx7 ?_
                refine j_dup2 E rfl rfl dL_holds_329 ?_
                obtain ⟨g11, hf⟩ := gd_e hf
                obtain ⟨x8, hx8, hf⟩ := bnd_e hf
                refine jl_iald E (fun H h => gl_at h 5 rfl) g11 hx8.symm dL_holds_330 ?_
                refine j_aload_n E 2 rfl dL_holds_331 ?_
                refine j_iload E 16 rfl dL_holds_332 ?_
                obtain ⟨g12, hf⟩ := gd_e hf
                obtain ⟨x9, hx9, hf⟩ := bnd_e hf
                refine jl_iald E (fun H h => hW H (gl_y h)) g12 hx9.symm dL_holds_334 ?_
                refine j_iadd E dL_holds_335 ?_
                obtain ⟨g13, hf⟩ := gd_e hf
                obtain ⟨y4, hy4, hf⟩ := bnd_e hf
                refine jl_iast (L' := [(a6, aint D 0 9 y1), (a7, aint D 0 5 (o5.2)), (a8, aint D 0 5 (o5.1)), (a9, aint D 0 5 y2), (a10, aint D 0 5 y3), (a11, aint D 0 100 y4), (a12, aint D 0 20 (o6.1))]) E rfl 5 rfl g13 _ rfl (by rw [hy4]; rfl) dL_holds_336 ?_
                refine j_iload E 14 rfl dL_holds_337 ?_
                refine j_aload_n E 2 rfl dL_holds_339 ?_
                refine j_iload E 16 rfl dL_holds_340 ?_
                obtain ⟨g14, hf⟩ := gd_e hf
                obtain ⟨x10, hx10, hf⟩ := bnd_e hf
                refine jl_iald E (fun H h => hW H (gl_y h)) g14 hx10.symm dL_holds_342 ?_
                refine j_iadd E dL_holds_343 ?_
                obtain ⟨x11, hx11, hf⟩ := bnd_e hf
                refine j_name hx11 ?_
                refine j_istore (ls' := [(14, .int x11), (0, .ref (z + aX 0 0 0)), (1, .ref D.2.2.2.2.2.2.1), (2, .ref aw), (3, .ref au), (4, .int v4), (5, .int v5), (6, .ref a6), (7, .ref a7), (8, .ref a8), (9, .ref a9), (10, .ref a10), (11, .ref a11), (12, .ref a12), (13, .int o6.2), (15, .int v15), (16, .int v16), (18, .int r4), (21, .int o2)]) E (lt_ rfl) rfl dL_holds_344 ?_
                refine j_iload E 15 rfl dL_holds_346 ?_
                refine j_aload_n E 3 rfl dL_holds_348 ?_
                refine j_iload E 16 rfl dL_holds_349 ?_
                obtain ⟨g15, hf⟩ := gd_e hf
                obtain ⟨x12, hx12, hf⟩ := bnd_e hf
                refine jl_iald E (fun H h => hW H (gl_y h)) g15 hx12.symm dL_holds_351 ?_
                refine j_aload_n E 4 rfl dL_holds_352 ?_
                refine j_iload E 16 rfl dL_holds_353 ?_
                obtain ⟨g16, hf⟩ := gd_e hf
                obtain ⟨x13, hx13, hf⟩ := bnd_e hf
                refine jl_iald E (fun H h => hS H (gl_y h)) g16 hx13.symm dL_holds_355 ?_
                refine j_imul E dL_holds_356 ?_
                refine j_iadd E dL_holds_357 ?_
                obtain ⟨x14, hx14, hf⟩ := bnd_e hf
                refine j_name hx14 ?_
                refine j_istore (ls' := [(15, .int x14), (14, .int x11), (0, .ref (z + aX 0 0 0)), (1, .ref D.2.2.2.2.2.2.1), (2, .ref aw), (3, .ref au), (4, .int v4), (5, .int v5), (6, .ref a6), (7, .ref a7), (8, .ref a8), (9, .ref a9), (10, .ref a10), (11, .ref a11), (12, .ref a12), (13, .int o6.2), (16, .int v16), (18, .int r4), (21, .int o2)]) E (lt_ rfl) rfl dL_holds_358 ?_
                refine j_iinc (ls' := [(16, .int (v16 + 1)), (15, .int x14), (14, .int x11), (0, .ref (z + aX 0 0 0)), (1, .ref D.2.2.2.2.2.2.1), (2, .ref aw), (3, .ref au), (4, .int v4), (5, .int v5), (6, .ref a6), (7, .ref a7), (8, .ref a8), (9, .ref a9), (10, .ref a10), (11, .ref a11), (12, .ref a12), (13, .int o6.2), (18, .int r4), (21, .int o2)]) E 16 rfl (lt_ rfl) (v16 + 1) (congrArg (fun q => v16 + q) ic_1) rfl dL_holds_360 ?_
                refine j_goto E 85 (by decide) dL_holds_363 ?_
                refine j_sub [3, 4, 5, 6, 7, 8, 9, 10, 11, 12, 13, 14, 15, 16, 2, 1, 0] rfl ?_
                exact ih _ _ _ _ _ _ _ _ _ _ _ hf
              replace hf := hu6
              refine j_aload E 11 rfl dL_holds_289 ?_
              refine j_bipush E 10 bp_10 dL_holds_291 ?_
              refine j_iload E 17 rfl dL_holds_293 ?_
              refine j_imul E dL_holds_295 ?_
              refine j_iload E 19 rfl dL_holds_296 ?_
              refine j_iadd E dL_holds_298 ?_
              obtain ⟨x15, hx15, hf⟩ := bnd_e hf
              refine j_name hx15 ?_
              obtain ⟨g17, hf⟩ := gd_e hf
              obtain ⟨x16, hx16, hf⟩ := bnd_e hf
              refine jl_iald E (fun H h => gl_at h 5 rfl) g17 hx16.symm dL_holds_299 ?_
              refine j_if_ne E 319 (by decide) dL_holds_300 (fun c5 => ?_) (fun c5 => ?_)
              · rw [if_neg c5] at hf
                cases hf
                refine j_sub [0, 1, 2, 3, 4, 5, 6, 7, 8, 9, 10, 11, 12, 13, 14, 15, 16, 17, 19] rfl ?_
                exact K6 _ rfl
              · rw [if_pos c5] at hf
                refine j_aload E 12 rfl dL_holds_303 ?_
                refine j_iload E 13 rfl dL_holds_305 ?_
                refine j_iinc (ls' := [(13, .int (v13 + 1)), (0, .ref (z + aX 0 0 0)), (1, .ref D.2.2.2.2.2.2.1), (2, .ref aw), (3, .ref au), (4, .int v4), (5, .int v5), (6, .ref a6), (7, .ref a7), (8, .ref a8), (9, .ref a9), (10, .ref a10), (11, .ref a11), (12, .ref a12), (14, .int v14), (15, .int v15), (16, .int v16), (18, .int r4), (19, .int r5), (21, .int o2)]) E 13 rfl (lt_ rfl) (v13 + 1) (congrArg (fun q => v13 + q) ic_1) rfl dL_holds_307 ?_
                refine j_bipush E 10 bp_10 dL_holds_310 ?_
                refine j_iload E 17 rfl dL_holds_312 ?_
                refine j_imul E dL_holds_314 ?_
                refine j_iload E 19 rfl dL_holds_315 ?_
                refine j_iadd E dL_holds_317 ?_
                obtain ⟨g18, hf⟩ := gd_e hf
                obtain ⟨y5, hy5, hf⟩ := bnd_e hf
                refine jl_iast (L' := [(a6, aint D 0 9 y1), (a7, aint D 0 5 (o5.2)), (a8, aint D 0 5 (o5.1)), (a9, aint D 0 5 y2), (a10, aint D 0 5 y3), (a11, aint D 0 100 f11), (a12, aint D 0 20 y5)]) E rfl 6 rfl g18 _ rfl (by rw [hy5]; rfl) dL_holds_318 ?_
                cases hf
                refine j_sub [1, 2, 3, 4, 5, 6, 7, 8, 9, 10, 11, 12, 13, 0, 14, 15, 16, 17, 19] rfl ?_
                exact K6 _ rfl
            replace hf := hu5
            refine j_aload_n E 0 rfl dL_holds_237 ?_
            refine j_iload E 16 rfl dL_holds_238 ?_
            obtain ⟨r7, h7, hf⟩ := bn1_e hf
            refine j_invV [] [.int r7] E (c_X11_isPaid h7) ml_L_203 mv_X11_isPaid rfl ⟨le_ rfl, le_ rfl⟩ (rcX ok0 cf_X11 ent0) rfl rfl (le_ rfl) ⟨le_ rfl, le_ rfl⟩ dL_holds_240 ?_
            refine j_if_eq E 251 (by decide) dL_holds_243 (fun c6 => ?_) (fun c6 => ?_)
            · rw [if_pos c6] at hf
              refine j_aload E 7 rfl dL_holds_251 ?_
              refine j_iload E 18 rfl dL_holds_253 ?_
              refine j_dup2 E rfl rfl dL_holds_255 ?_
              obtain ⟨g19, hf⟩ := gd_e hf
              obtain ⟨x17, hx17, hf⟩ := bnd_e hf
              refine jl_iald E (fun H h => gl_at h 1 rfl) g19 hx17.symm dL_holds_256 ?_
              refine j_aload_n E 0 rfl dL_holds_257 ?_
              refine j_iload E 16 rfl dL_holds_258 ?_
              obtain ⟨r8, h8, hf⟩ := bn1_e hf
              refine j_invV [.int x17, .int r5, .ref a7] [.int r8, .int x17, .int r5, .ref a7] E (c_X11_valueOf h8) ml_L_190 mv_X11_valueOf rfl ⟨le_ rfl, le_ rfl⟩ (rcX ok0 cf_X11 ent0) rfl rfl (le_ rfl) ⟨le_ rfl, le_ rfl⟩ dL_holds_260 ?_
              refine j_iadd E dL_holds_263 ?_
              obtain ⟨g20, hf⟩ := gd_e hf
              obtain ⟨y6, hy6, hf⟩ := bnd_e hf
              refine jl_iast (L' := [(a6, aint D 0 9 y1), (a7, aint D 0 5 y6), (a8, aint D 0 5 f8), (a9, aint D 0 5 f9), (a10, aint D 0 5 f10), (a11, aint D 0 100 f11), (a12, aint D 0 20 f12)]) E rfl 1 rfl g20 _ rfl (by rw [hy6]; rfl) dL_holds_264 ?_
              cases hf
              exact K5 _ rfl
            · rw [if_neg c6] at hf
              refine j_aload E 8 rfl dL_holds_246 ?_
              refine j_goto E 253 (by decide) dL_holds_248 ?_
              refine j_iload E 18 rfl dL_holds_253 ?_
              refine j_dup2 E rfl rfl dL_holds_255 ?_
              obtain ⟨g21, hf⟩ := gd_e hf
              obtain ⟨x18, hx18, hf⟩ := bnd_e hf
              refine jl_iald E (fun H h => gl_at h 2 rfl) g21 hx18.symm dL_holds_256 ?_
              refine j_aload_n E 0 rfl dL_holds_257 ?_
              refine j_iload E 16 rfl dL_holds_258 ?_
              obtain ⟨r9, h9, hf⟩ := bn1_e hf
              refine j_invV [.int x18, .int r5, .ref a8] [.int r9, .int x18, .int r5, .ref a8] E (c_X11_valueOf h9) ml_L_190 mv_X11_valueOf rfl ⟨le_ rfl, le_ rfl⟩ (rcX ok0 cf_X11 ent0) rfl rfl (le_ rfl) ⟨le_ rfl, le_ rfl⟩ dL_holds_260 ?_
              refine j_iadd E dL_holds_263 ?_
              obtain ⟨g22, hf⟩ := gd_e hf
              obtain ⟨y7, hy7, hf⟩ := bnd_e hf
              refine jl_iast (L' := [(a6, aint D 0 9 y1), (a7, aint D 0 5 f7), (a8, aint D 0 5 y7), (a9, aint D 0 5 f9), (a10, aint D 0 5 f10), (a11, aint D 0 100 f11), (a12, aint D 0 20 f12)]) E rfl 2 rfl g22 _ rfl (by rw [hy7]; rfl) dL_holds_264 ?_
              cases hf
              exact K5 _ rfl
          replace hf := hu4
          refine j_aload_n E 0 rfl dL_holds_204 ?_
          refine j_iload E 16 rfl dL_holds_205 ?_
          obtain ⟨r10, h10, hf⟩ := bn1_e hf
          refine j_invV [] [.int r10] E (c_X11_isPaid h10) ml_L_203 mv_X11_isPaid rfl ⟨le_ rfl, le_ rfl⟩ (rcX ok0 cf_X11 ent0) rfl rfl (le_ rfl) ⟨le_ rfl, le_ rfl⟩ dL_holds_207 ?_
          refine j_if_ne E 237 (by decide) dL_holds_210 (fun c7 => ?_) (fun c7 => ?_)
          · rw [if_neg c7] at hf
            cases hf
            exact K4 _ rfl
          · rw [if_pos c7] at hf
            refine j_aload_n E 0 rfl dL_holds_213 ?_
            refine j_iload E 16 rfl dL_holds_214 ?_
            obtain ⟨r11, h11, hf⟩ := bn1_e hf
            refine j_invV [] [.int r11] E (c_X11_valueOf h11) ml_L_190 mv_X11_valueOf rfl ⟨le_ rfl, le_ rfl⟩ (rcX ok0 cf_X11 ent0) rfl rfl (le_ rfl) ⟨le_ rfl, le_ rfl⟩ dL_holds_216 ?_
            refine j_aload_n E 2 rfl dL_holds_219 ?_
            refine j_iload E 16 rfl dL_holds_220 ?_
            obtain ⟨g23, hf⟩ := gd_e hf
            obtain ⟨x19, hx19, hf⟩ := bnd_e hf
            refine jl_iald E (fun H h => hW H (gl_y h)) g23 hx19.symm dL_holds_222 ?_
            refine j_aload_n E 0 rfl dL_holds_223 ?_
            refine j_iload E 17 rfl dL_holds_224 ?_
            refine j_iload E 19 rfl dL_holds_226 ?_
            obtain ⟨r12, h12, hf⟩ := bn1_e hf
            refine j_invV [.int x19, .int r11] [.int r12, .int x19, .int r11] E (c_X11_price h12) ml_L_160 mv_X11_price rfl ⟨le_ rfl, le_ rfl⟩ (rcX ok0 cf_X11 ent0) rfl rfl (le_ rfl) ⟨le_ rfl, le_ rfl⟩ dL_holds_228 ?_
            refine j_imul E dL_holds_231 ?_
            refine j_icmp_eq E 237 (by decide) dL_holds_232 (fun c8 => ?_) (fun c8 => ?_)
            · rw [if_pos c8] at hf
              cases hf
              exact K4 _ rfl
            · rw [if_neg c8] at hf
              refine j_iconst E 0 ic_0 dL_holds_235 ?_
              cases hf
              have hf := jn_n hr4
              cases hf
              refine j_wk (P' := (GG D z (X, Y))) (fun H h => gl_out h) ?_
              exact j_iret E rfl (le_ rfl) (le_ rfl) dL_holds_236
        replace hf := hu3
        refine j_aload_n E 1 rfl dL_holds_170 ?_
        refine j_iload E 17 rfl dL_holds_171 ?_
        obtain ⟨r13, h13, hf⟩ := bn1_e hf
        refine j_invV [] [.int r13] E (c_X11_classOfLoad h13) ml_L_200 mv_X11_classOfLoad rfl ⟨le_ rfl, le_ rfl⟩ (rcX ok0 cf_X11 ent0) rfl rfl (le_ rfl) ⟨le_ rfl, le_ rfl⟩ dL_holds_173 ?_
        refine j_iload E 0 rfl dL_holds_176 ?_
        refine j_icmp_ne E 202 (by decide) dL_holds_178 (fun c9 => ?_) (fun c9 => ?_)
        · rw [if_neg c9] at hf
          refine j_iconst E 0 ic_0 dL_holds_202 ?_
          cases hf
          have hf := jn_n hr3
          cases hf
          refine j_wk (P' := (GG D z (X, Y))) (fun H h => gl_out h) ?_
          exact j_iret E rfl (le_ rfl) (le_ rfl) dL_holds_203
        · rw [if_pos c9] at hf
          refine j_aload_n E 1 rfl dL_holds_181 ?_
          refine j_iload E 17 rfl dL_holds_182 ?_
          obtain ⟨r14, h14, hf⟩ := bn1_e hf
          refine j_invV [] [.int r14] E (c_X11_isLowered h14) ml_L_284 mv_X11_isLowered rfl ⟨le_ rfl, le_ rfl⟩ (rcX ok0 cf_X11 ent0) rfl rfl (le_ rfl) ⟨le_ rfl, le_ rfl⟩ dL_holds_184 ?_
          refine j_iload E 0 rfl dL_holds_187 ?_
          refine j_iload E 20 rfl dL_holds_189 ?_
          refine j_icmp_eq E 198 (by decide) dL_holds_191 (fun c10 => ?_) (fun c10 => ?_)
          · rw [if_pos c10] at hf
            refine j_iconst E 0 ic_0 dL_holds_198 ?_
            refine j_icmp_eq E 204 (by decide) dL_holds_199 (fun c11 => ?_) (fun c11 => ?_)
            · rw [if_pos c11] at hf
              cases hf
              refine j_sub [1, 2, 3, 4, 5, 6, 7, 8, 9, 10, 11, 12, 13, 14, 15, 16, 17, 18, 19, 0] rfl ?_
              exact K3 _ rfl
            · rw [if_neg c11] at hf
              refine j_iconst E 0 ic_0 dL_holds_202 ?_
              cases hf
              have hf := jn_n hr3
              cases hf
              refine j_wk (P' := (GG D z (X, Y))) (fun H h => gl_out h) ?_
              exact j_iret E rfl (le_ rfl) (le_ rfl) dL_holds_203
          · rw [if_neg c10] at hf
            refine j_iconst E 1 ic_1 dL_holds_194 ?_
            refine j_goto E 199 (by decide) dL_holds_195 ?_
            refine j_icmp_eq E 204 (by decide) dL_holds_199 (fun c12 => ?_) (fun c12 => ?_)
            · rw [if_pos c12] at hf
              cases hf
              refine j_sub [1, 2, 3, 4, 5, 6, 7, 8, 9, 10, 11, 12, 13, 14, 15, 16, 17, 18, 19, 0] rfl ?_
              exact K3 _ rfl
            · rw [if_neg c12] at hf
              refine j_iconst E 0 ic_0 dL_holds_202 ?_
              cases hf
              have hf := jn_n hr3
              cases hf
              refine j_wk (P' := (GG D z (X, Y))) (fun H h => gl_out h) ?_
              exact j_iret E rfl (le_ rfl) (le_ rfl) dL_holds_203
      replace hf := hu2
      refine j_aload E 10 rfl dL_holds_138 ?_
      refine j_iload E 3 rfl dL_holds_140 ?_
      obtain ⟨g24, hf⟩ := gd_e hf
      obtain ⟨x20, hx20, hf⟩ := bnd_e hf
      refine jl_iald E (fun H h => gl_at h 0 rfl) g24 hx20.symm dL_holds_142 ?_
      refine j_aload_n E 5 rfl dL_holds_143 ?_
      refine j_iload E 3 rfl dL_holds_144 ?_
      obtain ⟨r15, h15, hf⟩ := bn1_e hf
      refine j_invS [.int x20] [.int r15, .int x20] E (c_L_area h15) ml_L_115 ms_L_area rfl ⟨le_ rfl, le_ rfl⟩ rfl rfl (le_ rfl) ⟨le_ rfl, le_ rfl⟩ dL_holds_146 ?_
      refine j_aload_n E 5 rfl dL_holds_149 ?_
      obtain ⟨r16, h16, hf⟩ := bn1_e hf
      refine j_invS [.int r15, .int x20] [.int r16, .int r15, .int x20] E (c_L_yields h16) ml_L_66 ms_L_yields rfl ⟨le_ rfl, le_ rfl⟩ rfl rfl (le_ rfl) ⟨le_ rfl, le_ rfl⟩ dL_holds_150 ?_
      refine j_imul E dL_holds_153 ?_
      refine j_icmp_le E 166 (by decide) dL_holds_154 (fun c13 => ?_) (fun c13 => ?_)
      · rw [if_pos c13] at hf
        refine j_iload E 0 rfl dL_holds_166 ?_
        cases hf
        refine j_sub [4, 5, 6, 7, 8, 9, 10, 11, 12, 13, 14, 15, 16, 17, 18, 19, 20, 2, 1, 0] rfl ?_
        exact K2 _ rfl
      · rw [if_neg c13] at hf
        refine j_aload_n E 5 rfl dL_holds_157 ?_
        obtain ⟨r17, h17, hf⟩ := bn1_e hf
        refine j_invS [] [.int r17] E (c_L_grades h17) ml_L_51 ms_L_grades rfl ⟨le_ rfl, le_ rfl⟩ rfl rfl (le_ rfl) ⟨le_ rfl, le_ rfl⟩ dL_holds_158 ?_
        refine j_iconst E 1 ic_1 dL_holds_161 ?_
        refine j_isub E dL_holds_162 ?_
        refine j_goto E 168 (by decide) dL_holds_163 ?_
        cases hf
        refine j_sub [4, 5, 6, 7, 8, 9, 10, 11, 12, 13, 14, 15, 16, 17, 18, 19, 20, 2, 1, 0] rfl ?_
        exact K2 _ rfl
set_option maxRecDepth 20000 in
theorem c_L_holds {l : Launch} {D : DD} {z : Nat} {Y : YT} {aw : Nat} {W : Nat → Int32} {au : Nat} {S : Nat → Int32} {X : XT} (hW : ∀ H, Y H → va_at (gD D) cls (aw, aint D 0 21 W) H) (hS : ∀ H, Y H → va_at (gD D) cls (au, aint D 0 21 S) H) {r : Int32} (hf : f_L_holds X D.2.2.2.2.2.2.2 W S = some r) : CC l yL_holds cL_holds 25 (some .boolean) (rmk 6 8 153) D z [.ref (z + aX 0 0 0), .ref D.2.2.2.2.2.2.1, .ref aw, .ref au] (GG D z (X, Y)) (some (.int r)) (GG D z (X, Y)) := by
  unfold f_L_holds at hf
  refine cc_ofL pn_L (le_ rfl) (ls := [(0, .ref (z + aX 0 0 0)), (1, .ref D.2.2.2.2.2.2.1), (2, .ref aw), (3, .ref au)]) rfl ?_
  intro p e s m args below meth c E
  refine j_aload_n E 0 rfl dL_holds_0 ?_
  obtain ⟨r1, h1, hf⟩ := bn1_e hf
  refine j_invV [] [.int r1] E (c_X11_bottleDifference h1) ml_L_275 mv_X11_bottleDifference rfl ⟨le_ rfl, le_ rfl⟩ (rcX ok0 cf_X11 ent0) rfl rfl (le_ rfl) ⟨le_ rfl, le_ rfl⟩ dL_holds_1 ?_
  refine j_if_ne E 21 (by decide) dL_holds_4 (fun c1 => ?_) (fun c1 => ?_)
  · rw [if_neg c1] at hf
    refine j_iconst E 0 ic_0 dL_holds_21 ?_
    cases hf
    refine j_wk (P' := (GG D z (X, Y))) (fun H h => gl_out h) ?_
    exact j_iret E rfl (le_ rfl) (le_ rfl) dL_holds_22
  · rw [if_pos c1] at hf
    refine j_aload_n E 0 rfl dL_holds_7 ?_
    obtain ⟨r2, h2, hf⟩ := bn1_e hf
    refine j_invV [] [.int r2] E (c_X11_cashDifference h2) ml_L_278 mv_X11_cashDifference rfl ⟨le_ rfl, le_ rfl⟩ (rcX ok0 cf_X11 ent0) rfl rfl (le_ rfl) ⟨le_ rfl, le_ rfl⟩ dL_holds_8 ?_
    refine j_if_ne E 21 (by decide) dL_holds_11 (fun c2 => ?_) (fun c2 => ?_)
    · rw [if_neg c2] at hf
      refine j_iconst E 0 ic_0 dL_holds_21 ?_
      cases hf
      refine j_wk (P' := (GG D z (X, Y))) (fun H h => gl_out h) ?_
      exact j_iret E rfl (le_ rfl) (le_ rfl) dL_holds_22
    · rw [if_pos c2] at hf
      refine j_aload_n E 0 rfl dL_holds_14 ?_
      obtain ⟨r3, h3, hf⟩ := bn1_e hf
      refine j_invV [] [.int r3] E (c_X11_cash h3) ml_L_157 mv_X11_cash rfl ⟨le_ rfl, le_ rfl⟩ (rcX ok0 cf_X11 ent0) rfl rfl (le_ rfl) ⟨le_ rfl, le_ rfl⟩ dL_holds_15 ?_
      refine j_if_ge E 23 (by decide) dL_holds_18 (fun c3 => ?_) (fun c3 => ?_)
      · rw [if_pos c3] at hf
        refine j_aload_n E 0 rfl dL_holds_23 ?_
        obtain ⟨r4, h4, hf⟩ := bn1_e hf
        refine j_invV [] [.int r4] E (c_X11_loadCount h4) ml_L_151 mv_X11_loadCount rfl ⟨le_ rfl, le_ rfl⟩ (rcX ok0 cf_X11 ent0) rfl rfl (le_ rfl) ⟨le_ rfl, le_ rfl⟩ dL_holds_24 ?_
        refine j_istore (ls' := [(4, .int r4), (0, .ref (z + aX 0 0 0)), (1, .ref D.2.2.2.2.2.2.1), (2, .ref aw), (3, .ref au)]) E (lt_ rfl) rfl dL_holds_27 ?_
        refine j_aload_n E 1 rfl dL_holds_29 ?_
        obtain ⟨r5, h5, hf⟩ := bn1_e hf
        refine j_invV [] [.int r5] E (c_X11_growerCount h5) ml_L_145 mv_X11_growerCount rfl ⟨le_ rfl, le_ rfl⟩ (rcX ok0 cf_X11 ent0) rfl rfl (le_ rfl) ⟨le_ rfl, le_ rfl⟩ dL_holds_30 ?_
        refine j_istore (ls' := [(5, .int r5), (4, .int r4), (0, .ref (z + aX 0 0 0)), (1, .ref D.2.2.2.2.2.2.1), (2, .ref aw), (3, .ref au)]) E (lt_ rfl) rfl dL_holds_33 ?_
        refine j_bipush E 9 bp_9 dL_holds_35 ?_
        refine jl_newi E (by decide) tn_9 (le_ rfl) (le_ rfl) (le_ rfl) dL_holds_37 (fun a6 => ?_)
        refine j_wk (P' := (GG D z (X, YL D z Y s.heap.size [(a6, aint D 0 9 (fun _ => 0))]))) (fun H h => h) ?_
        refine j_astore (ls' := [(6, .ref a6), (5, .int r5), (4, .int r4), (0, .ref (z + aX 0 0 0)), (1, .ref D.2.2.2.2.2.2.1), (2, .ref aw), (3, .ref au)]) E (lt_ rfl) rfl dL_holds_39 ?_
        refine j_iconst E 5 ic_5 dL_holds_41 ?_
        refine jl_newi E (by decide) tn_5 (le_ rfl) (le_ rfl) (le_ rfl) dL_holds_42 (fun a7 => ?_)
        refine j_wk (P' := (GG D z (X, YL D z Y s.heap.size [(a6, aint D 0 9 (fun _ => 0)), (a7, aint D 0 5 (fun _ => 0))]))) (fun H h => h) ?_
        refine j_astore (ls' := [(7, .ref a7), (6, .ref a6), (5, .int r5), (4, .int r4), (0, .ref (z + aX 0 0 0)), (1, .ref D.2.2.2.2.2.2.1), (2, .ref aw), (3, .ref au)]) E (lt_ rfl) rfl dL_holds_44 ?_
        refine j_iconst E 5 ic_5 dL_holds_46 ?_
        refine jl_newi E (by decide) tn_5 (le_ rfl) (le_ rfl) (le_ rfl) dL_holds_47 (fun a8 => ?_)
        refine j_wk (P' := (GG D z (X, YL D z Y s.heap.size [(a6, aint D 0 9 (fun _ => 0)), (a7, aint D 0 5 (fun _ => 0)), (a8, aint D 0 5 (fun _ => 0))]))) (fun H h => h) ?_
        refine j_astore (ls' := [(8, .ref a8), (7, .ref a7), (6, .ref a6), (5, .int r5), (4, .int r4), (0, .ref (z + aX 0 0 0)), (1, .ref D.2.2.2.2.2.2.1), (2, .ref aw), (3, .ref au)]) E (lt_ rfl) rfl dL_holds_49 ?_
        refine j_iconst E 5 ic_5 dL_holds_51 ?_
        refine jl_newi E (by decide) tn_5 (le_ rfl) (le_ rfl) (le_ rfl) dL_holds_52 (fun a9 => ?_)
        refine j_wk (P' := (GG D z (X, YL D z Y s.heap.size [(a6, aint D 0 9 (fun _ => 0)), (a7, aint D 0 5 (fun _ => 0)), (a8, aint D 0 5 (fun _ => 0)), (a9, aint D 0 5 (fun _ => 0))]))) (fun H h => h) ?_
        refine j_astore (ls' := [(9, .ref a9), (8, .ref a8), (7, .ref a7), (6, .ref a6), (5, .int r5), (4, .int r4), (0, .ref (z + aX 0 0 0)), (1, .ref D.2.2.2.2.2.2.1), (2, .ref aw), (3, .ref au)]) E (lt_ rfl) rfl dL_holds_54 ?_
        refine j_iconst E 5 ic_5 dL_holds_56 ?_
        refine jl_newi E (by decide) tn_5 (le_ rfl) (le_ rfl) (le_ rfl) dL_holds_57 (fun a10 => ?_)
        refine j_wk (P' := (GG D z (X, YL D z Y s.heap.size [(a6, aint D 0 9 (fun _ => 0)), (a7, aint D 0 5 (fun _ => 0)), (a8, aint D 0 5 (fun _ => 0)), (a9, aint D 0 5 (fun _ => 0)), (a10, aint D 0 5 (fun _ => 0))]))) (fun H h => h) ?_
        refine j_astore (ls' := [(10, .ref a10), (9, .ref a9), (8, .ref a8), (7, .ref a7), (6, .ref a6), (5, .int r5), (4, .int r4), (0, .ref (z + aX 0 0 0)), (1, .ref D.2.2.2.2.2.2.1), (2, .ref aw), (3, .ref au)]) E (lt_ rfl) rfl dL_holds_59 ?_
        refine j_bipush E 100 bp_100 dL_holds_61 ?_
        refine jl_newi E (by decide) tn_100 (le_ rfl) (le_ rfl) (le_ rfl) dL_holds_63 (fun a11 => ?_)
        refine j_wk (P' := (GG D z (X, YL D z Y s.heap.size [(a6, aint D 0 9 (fun _ => 0)), (a7, aint D 0 5 (fun _ => 0)), (a8, aint D 0 5 (fun _ => 0)), (a9, aint D 0 5 (fun _ => 0)), (a10, aint D 0 5 (fun _ => 0)), (a11, aint D 0 100 (fun _ => 0))]))) (fun H h => h) ?_
        refine j_astore (ls' := [(11, .ref a11), (10, .ref a10), (9, .ref a9), (8, .ref a8), (7, .ref a7), (6, .ref a6), (5, .int r5), (4, .int r4), (0, .ref (z + aX 0 0 0)), (1, .ref D.2.2.2.2.2.2.1), (2, .ref aw), (3, .ref au)]) E (lt_ rfl) rfl dL_holds_65 ?_
        refine j_bipush E 20 bp_20 dL_holds_67 ?_
        refine jl_newi E (by decide) tn_20 (le_ rfl) (le_ rfl) (le_ rfl) dL_holds_69 (fun a12 => ?_)
        refine j_wk (P' := (GG D z (X, YL D z Y s.heap.size [(a6, aint D 0 9 (fun _ => 0)), (a7, aint D 0 5 (fun _ => 0)), (a8, aint D 0 5 (fun _ => 0)), (a9, aint D 0 5 (fun _ => 0)), (a10, aint D 0 5 (fun _ => 0)), (a11, aint D 0 100 (fun _ => 0)), (a12, aint D 0 20 (fun _ => 0))]))) (fun H h => h) ?_
        refine j_astore (ls' := [(12, .ref a12), (11, .ref a11), (10, .ref a10), (9, .ref a9), (8, .ref a8), (7, .ref a7), (6, .ref a6), (5, .int r5), (4, .int r4), (0, .ref (z + aX 0 0 0)), (1, .ref D.2.2.2.2.2.2.1), (2, .ref aw), (3, .ref au)]) E (lt_ rfl) rfl dL_holds_71 ?_
        refine j_iconst E 0 ic_0 dL_holds_73 ?_
        refine j_istore (ls' := [(13, .int 0), (12, .ref a12), (11, .ref a11), (10, .ref a10), (9, .ref a9), (8, .ref a8), (7, .ref a7), (6, .ref a6), (5, .int r5), (4, .int r4), (0, .ref (z + aX 0 0 0)), (1, .ref D.2.2.2.2.2.2.1), (2, .ref aw), (3, .ref au)]) E (lt_ rfl) rfl dL_holds_74 ?_
        refine j_iconst E 0 ic_0 dL_holds_76 ?_
        refine j_istore (ls' := [(14, .int 0), (13, .int 0), (12, .ref a12), (11, .ref a11), (10, .ref a10), (9, .ref a9), (8, .ref a8), (7, .ref a7), (6, .ref a6), (5, .int r5), (4, .int r4), (0, .ref (z + aX 0 0 0)), (1, .ref D.2.2.2.2.2.2.1), (2, .ref aw), (3, .ref au)]) E (lt_ rfl) rfl dL_holds_77 ?_
        refine j_iconst E 0 ic_0 dL_holds_79 ?_
        refine j_istore (ls' := [(15, .int 0), (14, .int 0), (13, .int 0), (12, .ref a12), (11, .ref a11), (10, .ref a10), (9, .ref a9), (8, .ref a8), (7, .ref a7), (6, .ref a6), (5, .int r5), (4, .int r4), (0, .ref (z + aX 0 0 0)), (1, .ref D.2.2.2.2.2.2.1), (2, .ref aw), (3, .ref au)]) E (lt_ rfl) rfl dL_holds_80 ?_
        refine j_iconst E 0 ic_0 dL_holds_82 ?_
        refine j_istore (ls' := [(16, .int 0), (15, .int 0), (14, .int 0), (13, .int 0), (12, .ref a12), (11, .ref a11), (10, .ref a10), (9, .ref a9), (8, .ref a8), (7, .ref a7), (6, .ref a6), (5, .int r5), (4, .int r4), (0, .ref (z + aX 0 0 0)), (1, .ref D.2.2.2.2.2.2.1), (2, .ref aw), (3, .ref au)]) E (lt_ rfl) rfl dL_holds_83 ?_
        refine j_sub [13, 14, 15, 16, 12, 11, 10, 9, 8, 7, 6, 5, 4, 3, 2, 1, 0] rfl ?_
        exact b_L_holds_85 hW hS E 2000 _ _ _ _ _ _ _ _ _ _ _ hf
      · rw [if_neg c3] at hf
        refine j_iconst E 0 ic_0 dL_holds_21 ?_
        cases hf
        refine j_wk (P' := (GG D z (X, Y))) (fun H h => gl_out h) ?_
        exact j_iret E rfl (le_ rfl) (le_ rfl) dL_holds_22
