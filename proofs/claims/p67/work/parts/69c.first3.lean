/-! PURE: the fresh object is made -/
set_option maxRecDepth 20000 in
theorem v2g0 : ∀ i, i < 2 → vn1 i ≠ gn1 0 := by
  intro i hi
  have : i = 0 ∨ i = 1 := by omega
  rcases this with rfl | rfl
  · exact df1.2.2.1
  · exact df1.2.2.2.1
set_option maxRecDepth 20000 in
theorem v2g1 : ∀ i, i < 2 → vn1 i ≠ gn1 1 := by
  intro i hi
  have : i = 0 ∨ i = 1 := by omega
  rcases this with rfl | rfl
  · exact df1.2.2.2.2.1
  · exact df1.2.2.2.2.2
set_option maxRecDepth 20000 in
theorem v01 : ∀ i, i < 1 → vn1 i ≠ vn1 1 := by
  intro i hi
  obtain rfl : i = 0 := by omega
  exact df1.1
set_option maxRecDepth 20000 in
theorem g01 : ∀ i, i < 1 → gn1 i ≠ gn1 1 := by
  intro i hi
  obtain rfl : i = 0 := by omega
  exact df1.2.1
set_option maxRecDepth 20000 in
theorem no0 {α : Nat → Prop} : ∀ i, i < 0 → α i := fun i hi => absurd hi (Nat.not_lt_zero i)
set_option maxRecDepth 20000 in
theorem first_stm {X X0 : XT} {w r : List Int32} (n0 : NX z0 w r) (h0 : DS X0 X zT w r D1 vn1 gn1 (fun _ => 0) 3 0 0 0 0) : FW X0 (f_X8_readAll_46 2000 X 1 (nI 0)) := by
  obtain ⟨p0, q0⟩ := NX.is (t := 2) (R := strB.getD 18 [] ++ ([59] ++ (z1))) (by decide) n0
  subst p0 q0
  obtain ⟨w1, r1, n1⟩ := ok_1.nx
  obtain ⟨X1, e0, h1⟩ := stm_v h0 (by decide) wv0 no0 no0 (fun _ _ => rfl) n1
  obtain ⟨p1, q1⟩ := NX.is (t := 2) (R := strB.getD 19 [] ++ ([59] ++ (z2))) (by decide) n1
  subst p1 q1
  obtain ⟨w2, r2, n2⟩ := ok_2.nx
  obtain ⟨X2, e1, h2⟩ := stm_v h1 (by decide) wv1 v01 no0 (fun _ _ => rfl) n2
  obtain ⟨p2, q2⟩ := NX.is (t := 3) (R := strB.getD 18 [] ++ ([32] ++ (decL 0 ++ ([32] ++ (decL 12 ++ ([59] ++ (z3))))))) (by decide) n2
  subst p2 q2
  obtain ⟨w3, r3, n3⟩ := ok_3.nx
  obtain ⟨X3, e2, h3⟩ := stm_p h2 (v := 0) (by decide) (by decide) (by decide) wv0 rfl no0 n3
  obtain ⟨p3, q3⟩ := NX.is (t := 3) (R := strB.getD 18 [] ++ ([32] ++ (decL 1 ++ ([32] ++ (decL 9 ++ ([59] ++ (z4))))))) (by decide) n3
  subst p3 q3
  obtain ⟨w4, r4, n4⟩ := ok_4.nx
  obtain ⟨X4, e3, h4⟩ := stm_p h3 (v := 0) (by decide) (by decide) (by decide) wv0 rfl no0 n4
  obtain ⟨p4, q4⟩ := NX.is (t := 3) (R := strB.getD 18 [] ++ ([32] ++ (decL 2 ++ ([32] ++ (decL 5 ++ ([59] ++ (z5))))))) (by decide) n4
  subst p4 q4
  obtain ⟨w5, r5, n5⟩ := ok_5.nx
  obtain ⟨X5, e4, h5⟩ := stm_p h4 (v := 0) (by decide) (by decide) (by decide) wv0 rfl no0 n5
  obtain ⟨p5, q5⟩ := NX.is (t := 3) (R := strB.getD 19 [] ++ ([32] ++ (decL 0 ++ ([32] ++ (decL 10 ++ ([59] ++ (z6))))))) (by decide) n5
  subst p5 q5
  obtain ⟨w6, r6, n6⟩ := ok_6.nx
  obtain ⟨X6, e5, h6⟩ := stm_p h5 (v := 1) (by decide) (by decide) (by decide) wv1 rfl v01 n6
  obtain ⟨p6, q6⟩ := NX.is (t := 3) (R := strB.getD 19 [] ++ ([32] ++ (decL 1 ++ ([32] ++ (decL 8 ++ ([59] ++ (z7))))))) (by decide) n6
  subst p6 q6
  obtain ⟨w7, r7, n7⟩ := ok_7.nx
  obtain ⟨X7, e6, h7⟩ := stm_p h6 (v := 1) (by decide) (by decide) (by decide) wv1 rfl v01 n7
  obtain ⟨p7, q7⟩ := NX.is (t := 4) (R := strB.getD 20 [] ++ ([59] ++ (z8))) (by decide) n7
  subst p7 q7
  obtain ⟨w8, r8, n8⟩ := ok_8.nx
  obtain ⟨X8, e7, h8⟩ := stm_g h7 (by decide) wg0 v2g0 no0 n8
  obtain ⟨p8, q8⟩ := NX.is (t := 4) (R := [98, 101, 114, 116] ++ ([59] ++ (z9))) (by decide) n8
  subst p8 q8
  obtain ⟨w9, r9, n9⟩ := ok_9.nx
  obtain ⟨X9, e8, h9⟩ := stm_g h8 (by decide) wg1 v2g1 g01 n9
  obtain ⟨p9, q9⟩ := NX.is (t := 5) (R := strB.getD 20 [] ++ ([32] ++ (strB.getD 18 [] ++ ([32] ++ (decL 20 ++ ([59] ++ (z10))))))) (by decide) n9
  subst p9 q9
  obtain ⟨w10, r10, n10⟩ := ok_10.nx
  obtain ⟨X10, e9, h10⟩ := stm_l h9 (by decide) (o := 0) (v := 0) (by decide) (by decide) (by decide) (by decide) wg0 wv0 rfl no0 rfl no0 rfl rfl rfl n10
  obtain ⟨p10, q10⟩ := NX.is (t := 5) (R := [98, 101, 114, 116] ++ ([32] ++ (strB.getD 18 [] ++ ([32] ++ (decL 10 ++ ([59] ++ (z11))))))) (by decide) n10
  subst p10 q10
  obtain ⟨w11, r11, n11⟩ := ok_11.nx
  obtain ⟨X11, e10, h11⟩ := stm_l h10 (by decide) (o := 1) (v := 0) (by decide) (by decide) (by decide) (by decide) wg1 wv0 rfl g01 rfl no0 rfl rfl rfl n11
  obtain ⟨p11, q11⟩ := NX.is (t := 5) (R := [98, 101, 114, 116] ++ ([32] ++ (strB.getD 19 [] ++ ([32] ++ (decL 8 ++ ([59] ++ (z12))))))) (by decide) n11
  subst p11 q11
  obtain ⟨w12, r12, n12⟩ := ok_12.nx
  obtain ⟨X12, e11, h12⟩ := stm_l h11 (by decide) (o := 1) (v := 1) (by decide) (by decide) (by decide) (by decide) wg1 wv1 rfl g01 rfl v01 rfl rfl rfl n12
  obtain ⟨p12, q12⟩ := NX.is (t := 6) (R := decL 700 ++ ([59] ++ (z13))) (by decide) n12
  subst p12 q12
  obtain ⟨w13, r13, n13⟩ := ok_13.nx
  obtain ⟨X13, e12, h13⟩ := stm_t h12 (by decide) (by decide) (by decide) rfl n13
  obtain ⟨p13, q13⟩ := NX.is (t := 6) (R := decL 500 ++ ([59] ++ (z14))) (by decide) n13
  subst p13 q13
  obtain ⟨w14, r14, n14⟩ := ok_14.nx
  obtain ⟨X14, e13, h14⟩ := stm_t h13 (by decide) (by decide) (by decide) rfl n14
  obtain ⟨p14, q14⟩ := NX.is (t := 6) (R := decL 300 ++ ([59] ++ (z15))) (by decide) n14
  subst p14 q14
  obtain ⟨w15, r15, n15⟩ := ok_15.nx
  obtain ⟨X15, e14, h15⟩ := stm_t h14 (by decide) (by decide) (by decide) rfl n15
  rw [show (2000 : Nat) = 1999 + 1 from rfl, step46 (t := 2) (by decide) h0.1 e0 (by decide)]
  rw [show (1999 : Nat) = 1998 + 1 from rfl, step46 (t := 2) (by decide) h1.1 e1 (by decide)]
  rw [show (1998 : Nat) = 1997 + 1 from rfl, step46 (t := 3) (by decide) h2.1 e2 (by decide)]
  rw [show (1997 : Nat) = 1996 + 1 from rfl, step46 (t := 3) (by decide) h3.1 e3 (by decide)]
  rw [show (1996 : Nat) = 1995 + 1 from rfl, step46 (t := 3) (by decide) h4.1 e4 (by decide)]
  rw [show (1995 : Nat) = 1994 + 1 from rfl, step46 (t := 3) (by decide) h5.1 e5 (by decide)]
  rw [show (1994 : Nat) = 1993 + 1 from rfl, step46 (t := 3) (by decide) h6.1 e6 (by decide)]
  rw [show (1993 : Nat) = 1992 + 1 from rfl, step46 (t := 4) (by decide) h7.1 e7 (by decide)]
  rw [show (1992 : Nat) = 1991 + 1 from rfl, step46 (t := 4) (by decide) h8.1 e8 (by decide)]
  rw [show (1991 : Nat) = 1990 + 1 from rfl, step46 (t := 5) (by decide) h9.1 e9 (by decide)]
  rw [show (1990 : Nat) = 1989 + 1 from rfl, step46 (t := 5) (by decide) h10.1 e10 (by decide)]
  rw [show (1989 : Nat) = 1988 + 1 from rfl, step46 (t := 5) (by decide) h11.1 e11 (by decide)]
  rw [show (1988 : Nat) = 1987 + 1 from rfl, step46 (t := 6) (by decide) h12.1 e12 (by decide)]
  rw [show (1987 : Nat) = 1986 + 1 from rfl, step46 (t := 6) (by decide) h13.1 e13 (by decide)]
  rw [show (1986 : Nat) = 1985 + 1 from rfl, step46 (t := 6) (by decide) h14.1 e14 (by decide)]
  have k15 : WK X0 X15 zT w15 r15 := ⟨h15.1, h15.2.2.1, h15.2.2.2.1, 0, by decide, h15.2.1.2.1.1, h15.2.1.2.1.2.2.2.1, h15.2.1.2.1.2.2.2.2.2.1, h15.2.1.2.1.2.2.2.2.1⟩
  obtain ⟨p15, q15⟩ := NX.is (t := 7) (R := decL 0 ++ ([32] ++ (decL 400 ++ ([32] ++ (decL 92 ++ ([59] ++ (z16))))))) (by decide) n15
  subst p15 q15
  obtain ⟨w16, r16, n16⟩ := ok_16.nx
  refine d_step (f := 1983) (i := 15) k15 (by decide) (by decide) (by decide) (by decide) n16 (by decide) (fun X16 k16 => ?_)
  obtain ⟨p16, q16⟩ := NX.is (t := 7) (R := decL 1 ++ ([32] ++ (decL 280 ++ ([32] ++ (decL 78 ++ ([59] ++ (z17))))))) (by decide) n16
  subst p16 q16
  obtain ⟨w17, r17, n17⟩ := ok_17.nx
  refine d_step (f := 1982) (i := 16) k16 (by decide) (by decide) (by decide) (by decide) n17 (by decide) (fun X17 k17 => ?_)
  obtain ⟨p17, q17⟩ := NX.is (t := 7) (R := decL 2 ++ ([32] ++ (decL 200 ++ ([32] ++ (decL 76 ++ ([59] ++ (z18))))))) (by decide) n17
  subst p17 q17
  obtain ⟨w18, r18, n18⟩ := ok_18.nx
  refine d_step (f := 1981) (i := 17) k17 (by decide) (by decide) (by decide) (by decide) n18 (by decide) (fun X18 k18 => ?_)
  obtain ⟨p18, q18⟩ := NX.is (t := 7) (R := decL 1 ++ ([32] ++ (decL 90 ++ ([32] ++ (decL 95 ++ ([59] ++ (z19))))))) (by decide) n18
  subst p18 q18
  obtain ⟨w19, r19, n19⟩ := ok_19.nx
  refine d_step (f := 1980) (i := 18) k18 (by decide) (by decide) (by decide) (by decide) n19 (by decide) (fun X19 k19 => ?_)
  rcases n19 with ⟨e, h1, -⟩ | ⟨-, rfl, rfl⟩
  · have := congrArg List.length e
    have hl := List.length_pos_iff.mpr h1.1
    simp [z19] at this
    omega
  · obtain ⟨ha, g, fl, -⟩ := k19
    refine ⟨1, xs X19 2 0 0 1 0, ?_, fun k' j i' f' b1 b2 b3 b4 => ?_, fun i hi => ?_, xs_i⟩
    · rw [f_X8_readAll_46, if_neg (by decide), if_neg (by decide), ha.kend, if_pos rfl, bnd_s, gd_t (by decide)]
    · rw [xs_o (by omega)]
      exact g k' j i' f' b1 b2 b3 b4
    · rw [xs_o (by omega)]
      exact fl i hi
set_option maxRecDepth 20000 in
theorem first_cl {X X0 : XT} {w r : List Int32} (n0 : NX z0 w r) (h : DS X0 X zT (strB.getD 1 []) zc0 D1 vn1 gn1 (fun _ => 0) 0 0 0 0 0) : ∃ X', f_X8_readClasses X = some (1, X') ∧ DS X0 X' zT w r D1 vn1 gn1 (fun _ => 0) 3 0 0 0 0 := by
  obtain ⟨ha, hdv, ho⟩ := h
  obtain ⟨X1, e1, a1, f1⟩ := at_run (sp := [32]) (w := decL 90) (r := zc1) ha sp32 (dec_wd 90) (hd_sp 3 (Or.inr rfl) _)
  have h1 : DS X0 X1 zT (decL (D1 1 0)) zc1 D1 vn1 gn1 (fun _ => 0) 0 0 0 0 0 := ⟨a1, hdv.fr f1, ho.fr f1⟩
  obtain ⟨X2, e2, h2⟩ := low_ (k := 0) h1 (by decide) (by decide) (fun q => absurd q (Nat.lt_irrefl _)) (w' := decL 75) (r' := zc2) (fun Y hY => at_run (sp := [32]) hY sp32 (dec_wd 75) (hd_sp 3 (Or.inr rfl) _))
  obtain ⟨X3, e3, h3⟩ := low_ (k := 1) (D := D1) h2 (by decide) (by decide) (fun _ => by decide) (w' := decL 60) (r' := zc3) (fun Y hY => at_run (sp := [32]) hY sp32 (dec_wd 60) (hd_semi 3 (Or.inr rfl) _))
  obtain ⟨X4, e4, h4⟩ := low_ (k := 2) (D := D1) h3 (by decide) (by decide) (fun _ => by decide) (w' := [59]) (r' := z0) (fun Y hY => at_semi (sp := []) hY (fun x hx => absurd hx List.not_mem_nil))
  have k2 : X2 2 0 0 2 = 3 := (AT.wk h2.1 (dec_wd 75)).1
  have k3 : X3 2 0 0 2 = 3 := (AT.wk h3.1 (dec_wd 60)).1
  have k4 : X4 2 0 0 2 = 4 := AT.kind (x := 59) (v := []) h4.1
  obtain ⟨X5, e5, a5, f5⟩ := p_semi h4.1 n0
  refine ⟨X5, ?_, a5, h4.2.1.fr f5, h4.2.2.fr f5⟩
  unfold f_X8_readClasses
  rw [ha.spl (u := 1) (by decide) (by decide), bn1_s, if_neg (show ¬ (if 1 = 1 then (1 : Int32) else 0) = 0 by decide), e1, bn1_s, e2, bn2_s]
  show f_X8_readClasses_32 (1999 + 1) X2 1 0 = _
  rw [f_X8_readClasses_32, if_neg (by decide), if_neg (by decide), k2, if_neg (by decide), e3, bn2_s]
  show f_X8_readClasses_32 (1998 + 1) X3 1 (0 + 1) = _
  rw [f_X8_readClasses_32, if_neg (by decide), if_neg (by decide), k3, if_neg (by decide), e4, bn2_s]
  show f_X8_readClasses_32 (1997 + 1) X4 1 (0 + 1 + 1) = _
  rw [f_X8_readClasses_32, if_neg (by decide), if_neg (by decide), if_pos k4, if_neg (by decide), e5, bn2_s, if_neg (by decide)]
set_option maxRecDepth 20000 in
theorem first_all {X : XT} (b : BX X (TX zT) zT.length) (hf : ∀ i, i < 20 → X 22 0 i 7 = 0 ∨ X 22 0 i 7 = 1) : ∃ r X', f_X8_readAll X = some (r, X') ∧ (∀ k j i f, k ≠ 1 → k ≠ 2 → k ≠ 3 → (j ≠ 0 ∨ k < 10) → X' k j i f = X k j i f) ∧ (∀ i, i < 20 → X' 22 0 i 7 = 0 ∨ X' 22 0 i 7 = 1) ∧ X' 2 0 0 1 = 0 := by
  obtain ⟨X1, hX1⟩ : ∃ X1, X1 = xs (xs X 1 0 0 3 0) 1 0 0 4 (-1) := ⟨_, rfl⟩
  have g1 : ∀ k j i q, k ≠ 1 → X1 k j i q = X k j i q := fun k j i q q1 => by rw [hX1, xs_o (by omega), xs_o (by omega)]
  obtain ⟨X2, hX2⟩ : ∃ X2, X2 = xs (xs (xs (xs (xs (xs (xs (xs (xs (xs X1 11 0 0 3 0) 11 0 0 4 0) 15 0 0 4 0) 15 0 0 5 0) 20 0 0 1 0) 23 0 0 2 0) 23 0 0 3 0) 10 0 0 4 0) 10 0 0 5 0) 10 0 0 6 0 := ⟨_, rfl⟩
  have g2 : ∀ k j i q, ¬ (j = 0 ∧ (k = 10 ∨ k = 11 ∨ k = 15 ∨ k = 20 ∨ k = 23)) → X2 k j i q = X1 k j i q := fun k j i q q1 => by
    rw [hX2, xs_o (by omega), xs_o (by omega), xs_o (by omega), xs_o (by omega), xs_o (by omega), xs_o (by omega), xs_o (by omega), xs_o (by omega), xs_o (by omega), xs_o (by omega)]
  have hz : X2 11 0 0 3 = 0 ∧ X2 11 0 0 4 = 0 ∧ X2 15 0 0 4 = 0 ∧ X2 15 0 0 5 = 0 ∧ X2 20 0 0 1 = 0 ∧ X2 23 0 0 2 = 0 ∧ X2 23 0 0 3 = 0 := by
    rw [hX2]
    exact ⟨rfl, rfl, rfl, rfl, rfl, rfl, rfl⟩
  have ecl : f_X0_clear X1 0 = some X2 := by
    unfold f_X0_clear f_X0_open
    rw [bnd_s, bnd_s, bnd_s, bnd_s, bnd_s, bnd_s, bnd_s, bnd_s, bnd_s, bnd_s, bn1_s, ← hX2]
  obtain ⟨X3, hX3⟩ : ∃ X3, X3 = xs X2 2 0 0 4 0 := ⟨_, rfl⟩
  have f3 : FR X2 X3 := by rw [hX3]; exact FR.no.x (by decide)
  have b2 : BX X2 (TX zT) zT.length := ⟨b.1, by rw [g2 2 0 0 1 (by omega), g1 2 0 0 1 (by decide)]; exact b.2.1, fun i hi => by rw [g2 3 0 0 i (by omega), g1 3 0 0 i (by decide)]; exact b.2.2 i hi⟩
  obtain ⟨X4, e4, a4, f4⟩ := at_first (b2.fr f3) (by rw [hX3, xs_i]; rfl) (rfl : zT = strB.getD 0 [] ++ ([32] ++ (decL 30 ++ ([32] ++ (decL 5000 ++ ([59] ++ (strB.getD 1 [] ++ zc0))))))) (str_wd (t := 0) (by decide)) (hd_sp 2 (Or.inl rfl) _)
  have f24 := f3.tr f4
  have o4 : FO X1 X4 := by
    refine ⟨fun k j i f a b c d => ?_, fun i hi => ?_, ?_, ?_⟩
    · rw [f24 k j i f (Or.inl b), g2 k j i f (by omega)]
    · rw [f24 22 0 i 7 (Or.inl (by decide)), g2 22 0 i 7 (by omega), g1 22 0 i 7 (by decide)]; exact hf i hi
    · rw [f24 1 0 0 3 (Or.inl (by decide)), g2 1 0 0 3 (by omega), hX1]; rfl
    · rw [f24 1 0 0 4 (Or.inl (by decide)), g2 1 0 0 4 (by omega), hX1]; rfl
  obtain ⟨X5, e5, h5⟩ := coop_ (P := fun _ => 0) (vn := vn1) (gn := gn1) (D := D1) a4 (by
    rw [f24 11 0 0 3 (Or.inl (by decide)), f24 11 0 0 4 (Or.inl (by decide)), f24 15 0 0 4 (Or.inl (by decide)), f24 15 0 0 5 (Or.inl (by decide)), f24 20 0 0 1 (Or.inl (by decide)), f24 23 0 0 2 (Or.inl (by decide)), f24 23 0 0 3 (Or.inl (by decide))]
    exact hz) o4 (by decide) (by decide) (by decide) rfl rfl (Or.inl ⟨rfl, str_wd (t := 1) (by decide), hd_sp 2 (Or.inl rfl) _⟩)
  obtain ⟨w, r, n0⟩ := ok_0.nx
  obtain ⟨X6, e6, h6⟩ := first_cl n0 h5
  obtain ⟨rr, X7, e7, g7, fl7, l7⟩ := first_stm n0 h6
  refine ⟨rr, X7, ?_, fun k j i f a b c d => ?_, fl7, l7⟩
  · unfold f_X8_readAll f_X10_toFirst
    rw [bnd_s, ← hX1, bnd_s, ecl, bn1_s, ← hX3, bnd_s, e4, bn1_s, bn1_s, e5, bn2_s, if_neg (by decide), e6, bn2_s, if_neg (by decide)]
    exact e7
  · rw [g7 k j i f a b c d, g1 k j i f a]
set_option maxRecDepth 20000 in
theorem fresh_ : ∃ X, f_X11_tail xI = some X ∧ HS X ∧ X 2 0 0 1 = 0 ∧ (∀ i, i < 20 → X 22 0 i 7 = 0 ∨ X 22 0 i 7 = 1) ∧ (∀ i, i < 20 → X 22 1 i 7 = 0 ∨ X 22 1 i 7 = 1) := by
  have b0 : BX xI (TX []) ([] : List Int32).length := ⟨by decide, rfl, fun i hi => absurd hi (Nat.not_lt_zero _)⟩
  obtain ⟨X1, e1, b1, f1⟩ := addT (t := 12) (by decide) (by decide +kernel) b0
  obtain ⟨X2, e2, b2, f2⟩ := addT (t := 13) (by decide) (by decide +kernel) b1
  obtain ⟨X3, e3, b3, f3⟩ := addT (t := 14) (by decide) (by decide +kernel) b2
  obtain ⟨X4, e4, b4, f4⟩ := addT (t := 15) (by decide) (by decide +kernel) b3
  obtain ⟨X5, e5, b5, f5⟩ := addT (t := 16) (by decide) (by decide +kernel) b4
  obtain ⟨X6, e6, b6, f6⟩ := addT (t := 17) (by decide) (by decide +kernel) b5
  rw [zT_ok] at b6
  have g : ∀ k j i f, k ≠ 2 → k ≠ 3 → X6 k j i f = xI k j i f := fun k j i f a b => by
    rw [f6 k j i f (Or.inl a) b, f5 k j i f (Or.inl a) b, f4 k j i f (Or.inl a) b, f3 k j i f (Or.inl a) b, f2 k j i f (Or.inl a) b, f1 k j i f (Or.inl a) b]
  obtain ⟨r, X7, e7, g7, fl7, l7⟩ := first_all b6 (fun i _ => Or.inl (by rw [g 22 0 i 7 (by decide) (by decide)]; rfl))
  obtain ⟨X8, e8, cp⟩ := cp_X0 (X := X7) (j := 1) (j1 := 0) (by decide) fl7
  refine ⟨X8, ?_, ⟨0, 0, by decide, by decide, ?_, ?_⟩, ?_, fun i hi => ?_, fun i hi => ?_⟩
  · unfold f_X11_tail
    rw [e1, bn1_s, e2, bn1_s, e3, bn1_s, e4, bn1_s, e5, bn1_s, e6, bn1_s, e7, bn2_s, e8, bn1_s]
  · rw [cp.2 4 0 0 1 (Or.inl (by decide)), g7 4 0 0 1 (by decide) (by decide) (by decide) (Or.inr (by decide)), g 4 0 0 1 (by decide) (by decide)]
    rfl
  · rw [cp.2 4 0 0 2 (Or.inl (by decide)), g7 4 0 0 2 (by decide) (by decide) (by decide) (Or.inr (by decide)), g 4 0 0 2 (by decide) (by decide)]
    rfl
  · rw [cp.2 2 0 0 1 (Or.inl (by decide))]
    exact l7
  · rw [cp.2 22 0 i 7 (Or.inl (by decide))]
    exact fl7 i hi
  · rw [cp.1 22 i 7 (by show _ ∧ _; omega)]
    exact fl7 i hi
set_option maxRecDepth 20000 in
theorem pf_ {sc : Nat × (Nat → Int32)} (hL : sc.1 ≤ 260) : PF sc := by
  obtain ⟨X, e, h1, h2, h3, h4⟩ := fresh_
  exact pf_of hL e h1 h2 h3 h4
