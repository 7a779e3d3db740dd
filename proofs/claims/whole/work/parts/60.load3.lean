/-! PURE: load as a step -/
section LOAD
set_option maxRecDepth 20000 in
theorem readAll_ {X : XT} {M : MT} (h : RR X M) : ∃ n, n ≤ 600 ∧ ((∃ X' M' s' e', f_X8_readAll X = some (1, xs X' 2 0 0 1 0) ∧ f_X12_readText (mr (mi M 0 0 0) 2) = some M' ∧ GOK X (mr (mi M 0 0 0) 2) X' M' n s' e' ∧ ∃ nc nv ng np nl nt nb, DR X' M' nc nv ng np nl nt nb) ∨ (∃ X' M', f_X8_readAll X = some (0, xs X' 2 0 0 1 0) ∧ f_X12_readText (mr (mi M 0 0 0) 2) = some M' ∧ BD X (mr (mi M 0 0 0) 2) X' M')) := by
  obtain ⟨n, n1, n2, n3, n4⟩ := h.2.2.2.1
  refine ⟨n, n1, ?_⟩
  obtain ⟨M0, hM0⟩ : ∃ Z : MT, Z = mr (mi M 0 0 0) 2 := ⟨_, rfl⟩
  have m0 : ∀ f, f ≠ 0 → M0.1 0 f = M.1 0 f := fun f hf => by rw [hM0]; exact mi_o hf
  have m3 : M0.1 3 = M.1 3 := by rw [hM0]; exact mi_ne (M := M) (k := 0) (f := 0) (v := 0) (k' := 3) (by decide)
  have r2 : M0.2.2 = 2 := by rw [hM0]; rfl
  have wd : WD M0 := by rw [hM0]; exact h.2.2.2.2.2.2.2.2
  have b0 : BFn X M0 n := ⟨n1, n2, by rw [m0 5 (by decide)]; exact n3, fun i hi => by rw [m3]; exact n4 i hi⟩
  rw [← hM0]
  obtain ⟨X3, hX3⟩ : ∃ Z : XT, Z = xs (xs (xs (xs (xs (xs (xs (xs (xs (xs (xs (xs X 1 0 0 3 0) 1 0 0 4 (-1)) 11 0 0 3 0) 11 0 0 4 0) 15 0 0 4 0) 15 0 0 5 0) 20 0 0 1 0) 23 0 0 2 0) 23 0 0 3 0) 10 0 0 4 0) 10 0 0 5 0) 10 0 0 6 0 := ⟨_, rfl⟩
  have xk : ∀ k j i f, k ≠ 1 → (j ≠ 0 ∨ k < 10) → X3 k j i f = X k j i f := fun k j i f a b => by
    rw [hX3, xs_o (by omega), xs_o (by omega), xs_o (by omega), xs_o (by omega), xs_o (by omega), xs_o (by omega), xs_o (by omega), xs_o (by omega), xs_o (by omega), xs_o (by omega), xs_o (by omega), xs_o (by omega)]
  have x22 : ∀ i f, X3 22 0 i f = X 22 0 i f := fun i f => by
    rw [hX3, xs_o (by omega), xs_o (by omega), xs_o (by omega), xs_o (by omega), xs_o (by omega), xs_o (by omega), xs_o (by omega), xs_o (by omega), xs_o (by omega), xs_o (by omega), xs_o (by omega), xs_o (by omega)]
  have y3 : X3 1 0 0 3 = 0 := by
    rw [hX3, xs_o (by omega), xs_o (by omega), xs_o (by omega), xs_o (by omega), xs_o (by omega), xs_o (by omega), xs_o (by omega), xs_o (by omega), xs_o (by omega), xs_o (by omega), xs_o (by omega), xs_i]
  have y4 : X3 1 0 0 4 = -1 := by
    rw [hX3, xs_o (by omega), xs_o (by omega), xs_o (by omega), xs_o (by omega), xs_o (by omega), xs_o (by omega), xs_o (by omega), xs_o (by omega), xs_o (by omega), xs_o (by omega), xs_i]
  have cl : CL X3 := by
    refine ⟨⟨?_, ?_, ?_, ?_, ?_, ?_, ?_⟩, fun i hi => by rw [x22]; exact h.2.1 0 (by decide) i hi⟩
    · rw [hX3, xs_o (by omega), xs_o (by omega), xs_o (by omega), xs_o (by omega), xs_o (by omega), xs_o (by omega), xs_o (by omega), xs_o (by omega), xs_o (by omega), xs_i]
    · rw [hX3, xs_o (by omega), xs_o (by omega), xs_o (by omega), xs_o (by omega), xs_o (by omega), xs_o (by omega), xs_o (by omega), xs_o (by omega), xs_i]
    · rw [hX3, xs_o (by omega), xs_o (by omega), xs_o (by omega), xs_o (by omega), xs_o (by omega), xs_o (by omega), xs_o (by omega), xs_i]
    · rw [hX3, xs_o (by omega), xs_o (by omega), xs_o (by omega), xs_o (by omega), xs_o (by omega), xs_o (by omega), xs_i]
    · rw [hX3, xs_o (by omega), xs_o (by omega), xs_o (by omega), xs_o (by omega), xs_o (by omega), xs_i]
    · rw [hX3, xs_o (by omega), xs_o (by omega), xs_o (by omega), xs_o (by omega), xs_i]
    · rw [hX3, xs_o (by omega), xs_o (by omega), xs_o (by omega), xs_i]
  have eX : f_X8_readAll X = bn1 (f_X10_toFirst X3) (fun X4 => bn2 (f_X8_readCooperative X4) (fun r1 X5 => if r1 = 0 then (f_X8_readAll_46 2000 X5 0 0) else (bn2 (f_X8_readClasses X5) (fun r2 X6 => if r2 = 0 then (f_X8_readAll_46 2000 X6 0 0) else (f_X8_readAll_46 2000 X6 1 0))))) := by
    unfold f_X8_readAll f_X0_clear f_X0_open
    rw [bnd_s, bnd_s, bnd_s, bnd_s, bnd_s, bnd_s, bnd_s, bnd_s, bnd_s, bnd_s, bnd_s, bnd_s, bn1_s, bn1_s, hX3]
  clear hX3
  have z46 : ∀ Z : XT, f_X8_readAll_46 2000 Z 0 0 = some (0, xs Z 2 0 0 1 0) := by
    intro Z
    rw [f_X8_readAll_46, if_neg (by decide), if_pos rfl, bnd_s, gd_t (by decide)]
  obtain ⟨M2, hM2⟩ : ∃ Z : MT, Z = mi (mi M0 0 6 0) 0 12 0 := ⟨_, rfl⟩
  obtain ⟨X4, hX4⟩ : ∃ Z : XT, Z = xs X3 2 0 0 4 0 := ⟨_, rfl⟩
  have pf : PF X M0 X4 M2 := by
    rw [hM2, hX4]
    refine ⟨fun k j i f a b c => ?_, fun k a b => by rw [mi_ne a, mi_ne a], fun f a => by rw [mi_o (by omega), mi_o (by omega)], fun f a => rfl, rfl⟩
    rw [xs_o (by omega)]
    exact xk k j i f a c
  have m12 : M2.1 0 12 = 0 := by rw [hM2]; exact mi_i
  have m6 : M2.1 0 6 = nI 0 := by rw [hM2, mi_o (by decide), mi_i]; rfl
  have v3 : X4 1 0 0 3 = 0 := by rw [hX4, xs_o (by omega)]; exact y3
  have v4 : X4 1 0 0 4 = -1 := by rw [hX4, xs_o (by omega)]; exact y4
  have c4 : CL X4 := cl.eq fun k i f hk => by rw [hX4, xs_o (by omega)]
  have w4 : X4 2 0 0 4 = nI 0 := by rw [hX4]; exact xs_i
  obtain ⟨X5, M3, s, e, t1, t2, nf, tk, -⟩ := next_ (pf.bf b0) (Nat.zero_le _) w4 m6
  have c5 : CL X5 := c4.eq fun k i f hk => nf.1 k 0 i f (Or.inl (by omega))
  have g : GOK X M0 X5 M3 n s e := ⟨pf.nf nf, ⟨(nf.2.2.1 12 (by decide)).trans m12, (nf.1 1 0 0 3 (Or.inl (by decide))).trans v3, (nf.1 1 0 0 4 (Or.inl (by decide))).trans v4, c5.2⟩, tk⟩
  have eX2 : f_X10_toFirst X3 = some X5 := by
    unfold f_X10_toFirst
    rw [bnd_s, ← hX4, t1, bn1_s]
  have eM : f_X12_readText M0 = bn1 (f_X12_readCooperative M3) (fun M2 => bn1 (f_X12_readClasses M2) (fun M3 => f_X12_readText_12 2000 M3)) := by
    unfold f_X12_readText f_X12_startText
    rw [bnd_s, bnd_s, ← hM2, t2, bn1_s, bn1_s]
  rw [eX, eX2, bn1_s, eM]
  have bad : ∀ M : MT, ¬ M.1 0 12 = 0 → f_X12_readText_12 2000 M = some M := by
    intro M z
    rw [f_X12_readText_12, good0 z, bn1_s, if_pos rfl]
  rcases coop_ b0 wd r2 g c5 with ⟨X6, M6, s6, e6, q1, q2, q3, q4, q5⟩ | ⟨X6, M6, q1, q2, q3⟩
  · rw [q1, bn2_s, if_neg (by decide), q2, bn1_s]
    rcases classes_ b0 wd r2 q3 q4 with ⟨X7, M7, s7, e7, p1, p2, p3, p4, p5⟩ | ⟨X7, M7, p1, p2, p3⟩
    · rw [p1, bn2_s, if_neg (by decide), p2, bn1_s]
      exact statements_ b0 wd r2 600 0 2000 2000 X7 M7 s7 e7 rfl (by decide) (by decide) (Nat.zero_le _) p3 p4
    · rw [p1, bn2_s, if_pos rfl, z46, p2, bn1_s, bad M7 p3.z]
      exact Or.inr ⟨X7, M7, rfl, rfl, p3⟩
  · rw [q1, bn2_s, if_pos rfl, z46, q2, bn1_s]
    have : f_X12_readClasses M6 = some M6 := by
      unfold f_X12_readClasses
      rw [good0 q3.z, bn1_s, if_pos rfl, bn1_s, if_pos rfl]
    rw [this, bn1_s, bad M6 q3.z]
    exact Or.inr ⟨X6, M6, rfl, rfl, q3⟩
set_option maxRecDepth 20000 in
/-- the relation behind a reading -/
theorem RR.read {X X' : XT} {M M' : MT} (h : RR X M) (p : PF X (mr (mi M 0 0 0) 2) X' M') (hb : bo0 X') {c d : Int32} (h3 : X' 1 0 0 3 = c) (h4 : X' 1 0 0 4 = d) : RR (xs X' 2 0 0 1 0) (mi (mi (mi (mr M' 1) 0 5 0) 0 30 c) 0 31 d) ∧ (mi (mi (mi (mr M' 1) 0 5 0) 0 30 c) 0 31 d).1 0 0 = 0 := by
  obtain ⟨a1, a2, a3, a4, a5, a6, a7, a8, a9⟩ := h
  obtain ⟨p1, p2, p3, p4, p5⟩ := p
  have e0 : ∀ f, f ≠ 5 → f ≠ 30 → f ≠ 31 → (f < 6 ∨ 13 < f) → f ≠ 0 → (mi (mi (mi (mr M' 1) 0 5 0) 0 30 c) 0 31 d).1 0 f = M.1 0 f := by
    intro f q1 q2 q3 q4 q5
    rw [mi_o q3, mi_o q2, mi_o q1]
    show M'.1 0 f = _
    rw [p3 f q4]
    exact mi_o q5
  have ek : ∀ k, k ≠ 0 → k ≠ 2 → (mi (mi (mi (mr M' 1) 0 5 0) 0 30 c) 0 31 d).1 k = M.1 k := by
    intro k q1 q2
    rw [mi_ne q1, mi_ne q1, mi_ne q1]
    show M'.1 k = _
    rw [p2 k q1 q2]
    exact mi_ne q1
  have x1 : ∀ k j i f, k ≠ 1 → k ≠ 2 → (j ≠ 0 ∨ k < 10) → (xs X' 2 0 0 1 0) k j i f = X k j i f := fun k j i f q1 q2 q3 => by
    rw [xs_o (by omega)]; exact p1 k j i f q1 (Or.inl q2) q3
  have xb : ∀ j, j ≠ 0 → ∀ k i f, inB k i f → (xs X' 2 0 0 1 0) k j i f = X k j i f := fun j hj k i f hq => x1 k j i f (by rintro rfl; exact hq) (by rintro rfl; exact hq) (Or.inl hj)
  have e5 : (mi (mi (mi (mr M' 1) 0 5 0) 0 30 c) 0 31 d).1 0 5 = 0 := by rw [mi_o (by decide), mi_o (by decide)]; exact mi_i
  have e30 : (mi (mi (mi (mr M' 1) 0 5 0) 0 30 c) 0 31 d).1 0 30 = c := by rw [mi_o (by decide)]; exact mi_i
  have e31 : (mi (mi (mi (mr M' 1) 0 5 0) 0 30 c) 0 31 d).1 0 31 = d := mi_i
  have e00 : (mi (mi (mi (mr M' 1) 0 5 0) 0 30 c) 0 31 d).1 0 0 = 0 := by
    rw [mi_o (by decide), mi_o (by decide), mi_o (by decide)]
    show M'.1 0 0 = _
    rw [p3 0 (by decide)]
    exact mi_i (M := M) (k := 0) (f := 0) (v := 0)
  have el : ∀ f, f ≠ 10 → (mi (mi (mi (mr M' 1) 0 5 0) 0 30 c) 0 31 d).2.1 f = M.2.1 f := fun f q => p4 f q
  have er : (mi (mi (mi (mr M' 1) 0 5 0) 0 30 c) 0 31 d).2.2 = 1 := rfl
  generalize mi (mi (mi (mr M' 1) 0 5 0) 0 30 c) 0 31 d = N at *
  refine ⟨⟨er, fun j hj i hi => ?_, ?_, ⟨0, Nat.zero_le _, xs_i, e5, fun i hi => absurd hi (Nat.not_lt_zero _)⟩, ⟨?_, ?_⟩, ?_, ?_, ?_, fun i hi => ?_⟩, e00⟩
  · by_cases c0 : j = 0
    · subst c0
      rw [xs_o (by omega)]
      exact hb i hi
    · rw [xb j c0 22 i 7 (by show _ ∧ _; omega)]
      exact a2 j hj i hi
  · rw [ek 1 (by decide) (by decide)]
    exact a3.eq (xb 1 (by decide)) fun _ _ => rfl
  · rw [xs_o (by omega), e30]; exact h3
  · rw [xs_o (by omega), e31]; exact h4
  · exact a6.eq (fun f => x1 _ _ _ _ (by decide) (by decide) (by decide)) (fun j q1 _ => xb j (by omega)) (e0 27 (by decide) (by decide) (by decide) (by decide) (by decide)) (ek 4 (by decide) (by decide))
  · exact a7.eq (fun f => x1 _ _ _ _ (by decide) (by decide) (by decide)) (fun j q1 _ => xb j (by omega)) (e0 29 (by decide) (by decide) (by decide) (by decide) (by decide)) (ek 5 (by decide) (by decide))
  · obtain ⟨t, t1, t2, t3, t4⟩ := a8
    refine ⟨t, t1, by rw [x1 _ _ _ _ (by decide) (by decide) (by decide)]; exact t2, by rw [e0 33 (by decide) (by decide) (by decide) (by decide) (by decide)]; exact t3, fun q hq => ?_⟩
    rw [x1 _ _ _ _ (by decide) (by decide) (by decide), ek 6 (by decide) (by decide)]
    exact t4 q hq
  · rw [el _ (by omega)]
    exact a9 i hi
set_option maxRecDepth 20000 in
theorem note_0 {X X1 : XT} (h4 : ∃ nx, nx < 6 ∧ X 4 0 0 1 = nI nx) (hb : ∀ i, i < 20 → X 22 1 i 7 = 0 ∨ X 22 1 i 7 = 1) (e : f_X4_note X 1 = some X1) : ∀ k i f, inB k i f → X1 k 0 i f = X k 0 i f := by
  obtain ⟨nx, h1, h2⟩ := h4
  obtain ⟨Z, eZ, cZ⟩ := cp_X0 (X := X) (j := 2 + nx) (j1 := 1) (by omega) hb
  unfold f_X4_note at e
  rw [h2, gd_t (nI_in h1 (by decide)), nI_clamp (by omega), eZ, bn1_s, bnd_s, bnd_s] at e
  cases e
  intro k i f hq
  have hk : k ≠ 4 := by rintro rfl; exact hq
  rw [xs_o (by omega), xs_o (by omega)]
  exact cZ.2 k 0 i f (Or.inl (by omega))
set_option maxRecDepth 20000 in
theorem load73 {M : MT} : ∀ d i f (Mi : MT), RwC 2 0 1 0 i M Mi → i + d = 264 → d < f → ∃ M', f_X12_load_73 f Mi (nI i) = some (M'.1 1 7, M') ∧ RwC 2 0 1 0 264 M M' := by
  intro d
  induction d with
  | zero =>
    intro i f Mi hr hi hf
    obtain ⟨f, rfl⟩ := fuel hf
    obtain rfl : i = 264 := by omega
    unfold f_X12_load_73
    rw [if_pos (by decide)]
    exact ⟨Mi, rfl, hr⟩
  | succ d ih =>
    intro i f Mi hr hi hf
    obtain ⟨f, rfl⟩ := fuel hf
    unfold f_X12_load_73
    rw [if_neg (show ¬ (264 : Int32) ≤ nI i from nI_ge (a := i) (b := 264) (by omega) (by decide)), gd_t (nI_in (by omega) (by decide)), gd_t (nI_in (by omega) (by decide)), nI_clamp (by omega), bnd_s, show nI i + 1 = nI (i + 1) from nI_add i 1]
    have h2 := hr.one (by omega)
    rw [Nat.zero_add] at h2
    exact ih (i + 1) f _ h2 (by omega) (by omega)
set_option maxRecDepth 20000 in
theorem u_load {X : XT} {M : MT} (h : RR X M) (t : Option Nat) : UR (f_X11_load X) t (f_X12_load M) M [] := by
  obtain ⟨n, hn, hr⟩ := readAll_ h
  unfold f_X11_load f_X12_load
  rw [bnd_s, bnd_s]
  rcases hr with ⟨X', M', s', e', q1, q2, q3, nc, nv, ng, np, nl, nt, nb, q4⟩ | ⟨X', M', q1, q2, q3⟩
  · obtain ⟨R, R0⟩ := h.read q3.1 q4.1 q3.2.1.2.1 q3.2.1.2.2.1
    have m12 : M'.1 0 12 = 0 := q3.2.1.1
    rw [q1, bn2_s, if_neg (by decide), q2, bn1_s, bnd_s, bnd_s]
    have e12 : (mi (mr M' 1) 0 5 0).1 0 12 = 0 := by rw [mi_o (by decide)]; exact m12
    have g6 : f_X12_isGood (mi (mi (mr M' 1) 0 5 0) 0 30 0) = some 1 := by
      unfold f_X12_isGood
      rw [mi_o (by decide), e12, if_pos rfl]
    have g9 : f_X12_isGood (mi (mi (mi (mr M' 1) 0 5 0) 0 30 0) 0 31 (-1)) = some 1 := by
      unfold f_X12_isGood
      rw [mi_o (by decide), mi_o (by decide), e12, if_pos rfl]
    rw [e12, bnd_s, g6, bn1_s, if_neg (by decide), bnd_s, g9, bn1_s, if_neg (by decide)]
    have row2 : (mi (mi (mi (mr M' 1) 0 5 0) 0 30 0) 0 31 (-1)).1 2 = M'.1 2 := by rw [mi_ne (by decide), mi_ne (by decide), mi_ne (by decide)]; rfl
    have hb : BRn (xs X' 2 0 0 1 0) 0 ((mi (mi (mi (mr M' 1) 0 5 0) 0 30 0) 0 31 (-1)).1 2) nc nv ng np nl nt nb := by
      rw [row2]
      exact q4.2.2.eq fun k i f hq => xs_o (by rcases Nat.decEq k 2 with c | c; exact Or.inl c; subst c; exact absurd hq id)
    generalize mi (mi (mi (mr M' 1) 0 5 0) 0 30 0) 0 31 (-1) = N at *
    generalize xs X' 2 0 0 1 0 = Z at *
    obtain ⟨X1, M1, f1, f2, R1, eb, -, em1, em5, em0, -⟩ := note_ R
    have x0 : ∀ k i f, inB k i f → X1 k 0 i f = Z k 0 i f := note_0 (by obtain ⟨nx, cn, h1, -, h3, -⟩ := R.2.2.2.2.2.1; exact ⟨nx, h1, h3⟩) (fun i hi => R.2.1 1 (by decide) i hi) f1
    have m2 : M1.1 2 = N.1 2 := by
      obtain ⟨nx, cn, -, h2, -, -, h27, -⟩ := R.2.2.2.2.2.1
      obtain ⟨M1', e1, -, e2, -⟩ := rem_ h2 h27
      rw [e1] at f2
      cases f2
      exact e2 2 (by decide) (by decide)
    obtain ⟨X2, g1, cX⟩ := cp_X0 (X := X1) (j := 1) (j1 := 0) (by decide) fun i hi => R1.2.1 0 (by decide) i hi
    obtain ⟨M2, g2, r1⟩ := load73 (M := M1) 264 0 2000 M1 (rwc_no _ _ _ _ _) rfl (by decide)
    have em : ∀ k, k ≠ 1 → M2.1 k = M1.1 k := fun k hk => r1.k hk
    have hbr : BR X1 0 (M1.1 2) := ⟨nc, nv, ng, np, nl, nt, nb, by rw [m2]; exact hb.eq x0⟩
    have rr : RR X2 M2 := by
      refine R1.back (j1 := 0) (by decide) (by decide) hbr cX (fun _ _ _ _ _ => rfl) r1.2.2 (fun q hq => ?_) (fun f _ _ _ => congrFun (em 0 (by decide)) f) (em 3 (by decide)) (em 6 (by decide)) ?_ ?_
      · have := r1.2.1 q hq
        rw [Nat.zero_add] at this
        exact this
      · exact R1.2.2.2.2.2.1.eq (fun f => cX.2 4 0 0 f (Or.inr id)) (fun j _ _ k i f _ => cX.2 k j i f (Or.inl (by omega))) (congrFun (em 0 (by decide)) 27) (em 4 (by decide))
      · exact R1.2.2.2.2.2.2.1.eq (fun f => cX.2 7 0 0 f (Or.inr id)) (fun j _ _ k i f _ => cX.2 k j i f (Or.inl (by omega))) (congrFun (em 0 (by decide)) 29) (em 5 (by decide))
    refine Or.inl ⟨M2.1 1 7, X2, M2, ?_, ?_, rr, ?_⟩
    · rw [f1, bn1_s, g1, bn1_s]
      obtain ⟨nc, nv, ng, np, nl, nt, nb, hb⟩ := rr.2.2.1
      rw [hb.c.2.2.2.2.1.1, hb.c.2.2.2.2.1.2]
    · rw [f2, bn1_s]
      exact g2
    · rw [em 0 (by decide), em0, R0]
  · obtain ⟨p, z, h3, h4, hb⟩ := q3
    obtain ⟨R, R0⟩ := h.read p hb h3 h4
    rw [q1, bn2_s, if_pos rfl, q2, bn1_s, bnd_s, bnd_s]
    have e12 : (mi (mr M' 1) 0 5 0).1 0 12 = M'.1 0 12 := mi_o (by decide)
    have e13 : (mi (mi (mr M' 1) 0 5 0) 0 30 (M'.1 0 12)).1 0 13 = M'.1 0 13 := by rw [mi_o (by decide), mi_o (by decide)]; rfl
    have g6 : f_X12_isGood (mi (mi (mr M' 1) 0 5 0) 0 30 (M'.1 0 12)) = some 0 := good0 (by rw [mi_o (by decide), e12]; exact z)
    have g9 : f_X12_isGood (mi (mi (mi (mr M' 1) 0 5 0) 0 30 (M'.1 0 12)) 0 31 (M'.1 0 13)) = some 0 := good0 (by rw [mi_o (by decide), mi_o (by decide), e12]; exact z)
    rw [e12, bnd_s, g6, bn1_s, if_pos rfl, e13, bnd_s, g9, bn1_s, if_pos rfl]
    exact Or.inl ⟨-7, _, _, rfl, rfl, R, R0⟩
end LOAD
