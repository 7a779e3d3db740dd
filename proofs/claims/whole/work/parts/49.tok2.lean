/-! PURE: tokens, the rest -/
set_option maxRecDepth 20000 in
/-- a run of digits -/
theorem num_run {X0 : XT} {M0 : MT} {n s : Nat} (b0 : BFn X0 M0 n) : ∀ d q f1 f2 (X : XT) (M : MT) (u v : Nat), q + d = n → d < f1 → d < f2 → NF X0 M0 X M → X 2 0 0 2 = 3 → M.1 0 7 = 2 → X 2 0 0 3 = nI s → M.1 0 8 = nI s → X 2 0 0 4 = nI q → M.1 0 6 = nI q → s ≤ q → X 2 0 0 5 = nI v → M.1 0 11 = nI u → u < 1000000 → v < 10000000 → (u = v ∨ (99999 < u ∧ 99999 < v)) → (s < q ∨ (q < n ∧ kb (X 3 0 0 q) = 3)) → ∃ X' M' e, f_X10_toNext_74 f1 X = some X' ∧ f_X12_goOn_188 f2 M = some M' ∧ NF X0 M0 X' M' ∧ TK X' M' n s e := by
  intro d
  induction d with
  | zero =>
    intro q f1 f2 X M u v hq hf1 hf2 nf x2 m7 x3 m8 x4 m6 hsq0 x5 m11 hu hv huv hs
    obtain ⟨f1, rfl⟩ := fuel hf1
    obtain ⟨f2, rfl⟩ := fuel hf2
    have b := nf.bf b0
    have hn := b.1
    obtain rfl : q = n := by omega
    have hsq : s < q := hs.resolve_right (fun c => Nat.lt_irrefl _ c.1)
    rw [run_end b (Nat.le_refl _) x3 x4 (by omega) (Or.inl rfl), f_X12_goOn_188, m6, byteAt_n b, bn1_s, isD_, bn1_s, if_pos (show isD (-1) = 0 by decide)]
    refine ⟨_, M, q, rfl, rfl, ?_, by omega, Nat.le_refl _, ⟨?_, m8⟩, ⟨?_, m6⟩, Or.inr (Or.inr (Or.inl ⟨?_, m7, hsq, u, v, ?_, m11, by omega, hv, huv⟩))⟩
    · split
      · exact nf
      · exact nf.x (by decide)
    · split
      · exact x3
      · rw [xs_o (by omega)]; exact x3
    · split
      · exact x4
      · rw [xs_o (by omega)]; exact x4
    · split
      · exact x2
      · rw [xs_o (by omega)]; exact x2
    · split
      · exact x5
      · rw [xs_o (by omega)]; exact x5
  | succ d ih =>
    intro q f1 f2 X M u v hq hf1 hf2 nf x2 m7 x3 m8 x4 m6 hsq0 x5 m11 hu hv huv hs
    obtain ⟨f1, rfl⟩ := fuel hf1
    obtain ⟨f2, rfl⟩ := fuel hf2
    have b := nf.bf b0
    have hn := b.1
    have hqn : q < n := by omega
    have hk := kd (b.2.2.2 q hqn).2
    by_cases c2 : kb (X 3 0 0 q) = 3
    · have hk2 : ∃ c, c < 10 ∧ X 3 0 0 q = nI (48 + c) ∧ X 3 0 0 q &&& 255 = nI (48 + c) ∧ isL (X 3 0 0 q &&& 255) = 0 ∧ isD (X 3 0 0 q &&& 255) = 1 := by
        rcases hk with k | k | k | k | k
        · rw [k.1] at c2; exact absurd c2 (by decide)
        · rw [k.1] at c2; exact absurd c2 (by decide)
        · exact k.2
        · rw [k.1] at c2; exact absurd c2 (by decide)
        · rw [k.1] at c2; exact absurd c2 (by decide)
      obtain ⟨c, hc10, e1, e2, e3, e4⟩ := hk2
      have h2 : ¬ X 2 0 0 2 = 2 := by rw [x2]; decide
      -- the class
      have hX : ∃ v', v' < 10000000 ∧ (v ≤ 99999 → v' = 10 * v + c) ∧ (99999 < v → 99999 < v') ∧ ∃ X1, f_X10_toNext_74 (f1 + 1) X = f_X10_toNext_74 f1 X1 ∧ NF X0 M0 X1 M ∧ X1 2 0 0 2 = 3 ∧ X1 2 0 0 3 = nI s ∧ X1 2 0 0 4 = nI (q + 1) ∧ X1 2 0 0 5 = nI v' := by
        by_cases cv : 1000000 ≤ v
        · refine ⟨v, hv, fun h => by omega, fun h => h, xs X 2 0 0 4 (nI (q + 1)), ?_, nf.x (by decide), ?_, ?_, xs_i, ?_⟩
          · rw [run_go b hqn x3 x4 (by omega) (c2.trans x2.symm) (Or.inr x2)]
            unfold f_X10_takeSign
            rw [if_neg h2, if_pos x2, x5, if_pos (show (1000000 : Int32) ≤ nI v from nI_le (a := 1000000) cv (by omega)), bn1_s, x4, show nI q + 1 = nI (q + 1) from nI_add q 1, bnd_s]
          · rw [xs_o (by omega)]; exact x2
          · rw [xs_o (by omega)]; exact x3
          · rw [xs_o (by omega)]; exact x5
        · refine ⟨10 * v + c, by omega, fun h => rfl, fun h => by omega, xs (xs X 2 0 0 5 (nI (10 * v + c))) 2 0 0 4 (nI (q + 1)), ?_, (nf.x (by decide)).x (by decide), ?_, ?_, xs_i, ?_⟩
          · rw [run_go b hqn x3 x4 (by omega) (c2.trans x2.symm) (Or.inr x2)]
            unfold f_X10_takeSign
            rw [if_neg h2, if_pos x2, x5, if_neg (show ¬ (1000000 : Int32) ≤ nI v from nI_ge (b := 1000000) (by omega) (by decide)), e1, show (10 : Int32) * nI v = nI (10 * v) from pk_mul 10 v, nI_add, show nI (10 * v + (48 + c)) - 48 = nI (10 * v + (48 + c) - 48) from pk_sub (b := 48) (by omega), show 10 * v + (48 + c) - 48 = 10 * v + c by omega, bnd_s, bn1_s, xs_o (by omega), x4, show nI q + 1 = nI (q + 1) from nI_add q 1, bnd_s]
          · rw [xs_o (by omega), xs_o (by omega)]; exact x2
          · rw [xs_o (by omega), xs_o (by omega)]; exact x3
          · rw [xs_o (by omega), xs_i]
      obtain ⟨v', v1, v2, v3, X1, eX, nf1, y2, y3, y4, y5⟩ := hX
      have hM : ∃ u', u' < 1000000 ∧ (u ≤ 99999 → u' = 10 * u + c) ∧ (99999 < u → 99999 < u') ∧ ∃ M1, f_X12_goOn_188 (f2 + 1) M = f_X12_goOn_188 f2 M1 ∧ NF X0 M0 X1 M1 ∧ M1.1 0 7 = 2 ∧ M1.1 0 8 = nI s ∧ M1.1 0 6 = nI (q + 1) ∧ M1.1 0 11 = nI u' := by
        by_cases cu : u ≤ 99999
        · refine ⟨10 * u + c, by omega, fun _ => rfl, fun h => by omega, mi (mi M 0 11 (nI (10 * u + c))) 0 6 (nI (q + 1)), ?_, (nf1.m (by decide) (by decide)).m (by decide) (by decide), ?_, ?_, mi_i, ?_⟩
          · rw [f_X12_goOn_188, m6, byteAt_ b hqn, bn1_s, isD_, e4, bn1_s, if_neg (by decide), m11, if_pos (show nI u ≤ 99999 from nI_le (b := 99999) cu (by decide)), bn1_s, e2, show (10 : Int32) * nI u = nI (10 * u) from pk_mul 10 u, nI_add, show nI (10 * u + (48 + c)) - 48 = nI (10 * u + (48 + c) - 48) from pk_sub (b := 48) (by omega), show 10 * u + (48 + c) - 48 = 10 * u + c by omega, bnd_s, mi_o (by decide), m6, show nI q + 1 = nI (q + 1) from nI_add q 1, bnd_s]
          · rw [mi_o (by decide), mi_o (by decide)]; exact m7
          · rw [mi_o (by decide), mi_o (by decide)]; exact m8
          · rw [mi_o (by decide), mi_i]
        · refine ⟨999999, by decide, fun h => absurd h cu, fun _ => by decide, mi (mi M 0 11 999999) 0 6 (nI (q + 1)), ?_, (nf1.m (by decide) (by decide)).m (by decide) (by decide), ?_, ?_, mi_i, ?_⟩
          · rw [f_X12_goOn_188, m6, byteAt_ b hqn, bn1_s, isD_, e4, bn1_s, if_neg (by decide), m11, if_neg (show ¬ nI u ≤ 99999 from nI_ge (a := 99999) (by omega) (by omega)), bnd_s, mi_o (by decide), m6, show nI q + 1 = nI (q + 1) from nI_add q 1, bnd_s]
          · rw [mi_o (by decide), mi_o (by decide)]; exact m7
          · rw [mi_o (by decide), mi_o (by decide)]; exact m8
          · rw [mi_o (by decide), mi_i]; rfl
      obtain ⟨u', u1, u2, u3, M1, eM, nf2, z7, z8, z6, z11⟩ := hM
      rw [eX, eM]
      refine ih (q + 1) f1 f2 X1 M1 u' v' (by omega) (by omega) (by omega) nf2 y2 z7 y3 z8 y4 z6 (by omega) y5 z11 u1 v1 ?_ (Or.inl (by omega))
      rcases huv with rfl | ⟨h1, h2⟩
      · by_cases c9 : u ≤ 99999
        · exact Or.inl ((u2 c9).trans (v2 c9).symm)
        · exact Or.inr ⟨u3 (by omega), v3 (by omega)⟩
      · exact Or.inr ⟨u3 h1, v3 h2⟩
    · have hsq : s < q := hs.resolve_right (fun c => c2 c.2)
      have hD : isD (X 3 0 0 q &&& 255) = 0 := by
        rcases hk with k | k | k | k | k
        · exact k.2.2.2
        · obtain ⟨c, k1, k2, k3, k4, k5⟩ := k.2
          rw [k4]
          unfold isD
          rw [if_neg (show ¬ nI (96 + c) < 48 from nI_nlt (a := 96 + c) (b := 48) (by omega) (by omega)), if_pos (show (57 : Int32) < nI (96 + c) from nI_lt (a := 57) (by omega) (by omega))]
        · exact absurd k.1 c2
        · exact k.2.2.2
        · exact k.2.2.2.2.2.2
      rw [run_end b (by omega) x3 x4 (by omega) (Or.inr ⟨hqn, by rw [x2]; exact c2⟩), f_X12_goOn_188, m6, byteAt_ b hqn, bn1_s, isD_, hD, bn1_s, if_pos rfl]
      refine ⟨_, M, q, rfl, rfl, ?_, by omega, by omega, ⟨?_, m8⟩, ⟨?_, m6⟩, Or.inr (Or.inr (Or.inl ⟨?_, m7, hsq, u, v, ?_, m11, by omega, hv, huv⟩))⟩
      · split
        · exact nf
        · exact nf.x (by decide)
      · split
        · exact x3
        · rw [xs_o (by omega)]; exact x3
      · split
        · exact x4
        · rw [xs_o (by omega)]; exact x4
      · split
        · exact x2
        · rw [xs_o (by omega)]; exact x2
      · split
        · exact x5
        · rw [xs_o (by omega)]; exact x5
set_option maxRecDepth 20000 in
/-- a single sign -/
theorem one_run {X0 : XT} {M0 : MT} {X : XT} {M : MT} {n s : Nat} (b : BFn X M n) (nf : NF X0 M0 X M) (hs : s < n) (x2 : X 2 0 0 2 = kb (X 3 0 0 s)) (x3 : X 2 0 0 3 = nI s) (x4 : X 2 0 0 4 = nI s) (h2 : ¬ X 2 0 0 2 = 2) (h3 : ¬ X 2 0 0 2 = 3) : f_X10_toNext_74 2000 X = some (xs X 2 0 0 4 (nI (s + 1))) := by
  have hn := b.1
  rw [f_X10_toNext_74, x4, x3, b.2.1, if_neg (nI_ge hs (by omega)), kindAt_ b hs, bn1_s, if_pos x2.symm, if_pos rfl, signAt_ b hs, bn1_s]
  unfold f_X10_takeSign
  rw [if_neg h2, if_neg h3, bn1_s, x4, show nI s + 1 = nI (s + 1) from nI_add s 1, bnd_s]
  have nf2 : NF X M (xs X 2 0 0 4 (nI (s + 1))) M := NF.no.x (by decide)
  have b2 := nf2.bf b
  have y2 : (xs X 2 0 0 4 (nI (s + 1))) 2 0 0 2 = X 2 0 0 2 := xs_o (by omega)
  have y3 : (xs X 2 0 0 4 (nI (s + 1))) 2 0 0 3 = nI s := (xs_o (by omega)).trans x3
  have y4 : (xs X 2 0 0 4 (nI (s + 1))) 2 0 0 4 = nI (s + 1) := xs_i
  generalize xs X 2 0 0 4 (nI (s + 1)) = Z at *
  have hrun : f_X10_isRun Z = some 0 := by
    unfold f_X10_isRun
    rw [y2, if_neg h2, if_neg h3]
  have hlen : (nI (s + 1) - nI s) ≤ 4 := by
    rw [pk_sub (by omega)]
    exact nI_le (b := 4) (by omega) (by decide)
  rw [f_X10_toNext_74, y4, y3, b2.2.1, if_pos hlen]
  by_cases c : s + 1 = n
  · rw [if_pos (nI_le (by omega) (by omega))]
  · rw [if_neg (nI_ge (by omega) (by omega)), kindAt_ b2 (by omega), bn1_s]
    by_cases c3 : kb (Z 3 0 0 (s + 1)) = Z 2 0 0 2
    · rw [if_pos c3, if_neg (fun q => by have := (nI_eq (by omega) (by omega)).mp q; omega), hrun, bn1_s, if_pos rfl]
    · rw [if_neg c3]
set_option maxRecDepth 20000 in
/-- from the end of a token to the next token -/
theorem skip_ {X0 : XT} {M0 : MT} {n p0 : Nat} (b0 : BFn X0 M0 n) : ∀ d p f1 f2 (X : XT) (M : MT), p + d = n → d < f1 → d < f2 → p0 ≤ p → NF X0 M0 X M → X 2 0 0 3 = nI p → M.1 0 6 = nI p → ∃ X' M' s e, f_X10_toNext_8 f1 X = some X' ∧ f_X12_goOn_0 f2 M = some M' ∧ NF X0 M0 X' M' ∧ TK X' M' n s e ∧ p0 ≤ s := by
  intro d
  induction d with
  | zero =>
    intro p f1 f2 X M hp hf1 hf2 hp0 nf x3 m6
    obtain ⟨f1, rfl⟩ := fuel hf1
    obtain ⟨f2, rfl⟩ := fuel hf2
    have b := nf.bf b0
    have hn := b.1
    obtain rfl : p = n := by omega
    obtain ⟨X1, hX1⟩ : ∃ Z : XT, Z = xs (xs (xs (xs X 2 0 0 2 0) 2 0 0 4 (nI p)) 2 0 0 6 0) 2 0 0 5 0 := ⟨_, rfl⟩
    obtain ⟨M5, hM5⟩ : ∃ Z : MT, Z = mi (ml (mi (mi M 0 8 (nI p)) 0 9 0) 10 0) 0 11 0 := ⟨_, rfl⟩
    have y3 : X1 2 0 0 3 = nI p := by rw [hX1, xs_o (by omega), xs_o (by omega), xs_o (by omega), xs_o (by omega)]; exact x3
    have y4 : X1 2 0 0 4 = nI p := by rw [hX1, xs_o (by omega), xs_o (by omega), xs_i]
    have y2 : X1 2 0 0 2 = 0 := by rw [hX1, xs_o (by omega), xs_o (by omega), xs_o (by omega), xs_i]
    have nfx : NF X0 M0 X1 M := by rw [hX1]; exact (((nf.x (by decide)).x (by decide)).x (by decide)).x (by decide)
    have nf5 : NF X0 M0 X1 M5 := by rw [hM5]; exact (((nfx.m (by decide) (by decide)).m (by decide) (by decide)).l).m (by decide) (by decide)
    have q6 : M5.1 0 6 = nI p := by rw [hM5, mi_o (by decide), ml_1, mi_o (by decide), mi_o (by decide)]; exact m6
    have q8 : M5.1 0 8 = nI p := by rw [hM5, mi_o (by decide), ml_1, mi_o (by decide), mi_i]
    refine ⟨X1, mi M5 0 7 0, p, p, ?_, ?_, nf5.m (by decide) (by decide), ⟨Nat.le_refl _, Nat.le_refl _, ⟨y3, ?_⟩, ⟨y4, ?_⟩, Or.inl ⟨y2, mi_i, rfl⟩⟩, hp0⟩
    · have := run_end (nfx.bf b0) (Nat.le_refl _) y3 y4 (Nat.le_refl _) (Or.inl rfl) 1999
      rw [Nat.sub_self, if_pos (by decide)] at this
      rw [f_X10_toNext_8, b.2.1, x3, if_pos (nI_le (Nat.le_refl _) (by omega)), kindAt_n b, bn1_s, bnd_s, xs_o (by omega), x3, bnd_s, bnd_s, bnd_s, ← hX1]
      exact this
    · rw [f_X12_goOn_0, m6, byteAt_n b, bn1_s, if_neg (by decide), bn1_s, if_neg (by decide), bnd_s, bnd_s, bnd_s, bnd_s, ← hM5, q6, byteAt_n (nf5.bf b0), bn1_s, if_pos rfl, bnd_s]
    · rw [mi_o (by decide)]; exact q8
    · rw [mi_o (by decide)]; exact q6
  | succ d ih =>
    intro p f1 f2 X M hp hf1 hf2 hp0 nf x3 m6
    obtain ⟨f1, rfl⟩ := fuel hf1
    obtain ⟨f2, rfl⟩ := fuel hf2
    have b := nf.bf b0
    have hn := b.1
    have hpn : p < n := by omega
    have hk := kd (b.2.2.2 p hpn).2
    by_cases c1 : kb (X 3 0 0 p) = 1
    · have hb : X 3 0 0 p &&& 255 = 32 ∨ (X 3 0 0 p &&& 255 = 10 ∧ ¬ X 3 0 0 p &&& 255 = 32) := by
        rcases hk with k | k | k | k | k
        · exact k.2.1
        · rw [k.1] at c1; exact absurd c1 (by decide)
        · rw [k.1] at c1; exact absurd c1 (by decide)
        · rw [k.1] at c1; exact absurd c1 (by decide)
        · rw [k.1] at c1; exact absurd c1 (by decide)
      have eX : f_X10_toNext_8 (f1 + 1) X = f_X10_toNext_8 f1 (xs X 2 0 0 3 (nI (p + 1))) := by
        rw [f_X10_toNext_8, b.2.1, x3, if_neg (nI_ge hpn (by omega)), kindAt_ b hpn, bn1_s, if_pos c1, show nI p + 1 = nI (p + 1) from nI_add p 1, bnd_s]
      have eM : f_X12_goOn_0 (f2 + 1) M = f_X12_goOn_0 f2 (mi M 0 6 (nI (p + 1))) := by
        rw [f_X12_goOn_0, m6, byteAt_ b hpn, bn1_s]
        rcases hb with q | ⟨q1, q2⟩
        · rw [if_pos q, show nI p + 1 = nI (p + 1) from nI_add p 1, bnd_s]
        · rw [if_neg q2, bn1_s, if_pos q1, show nI p + 1 = nI (p + 1) from nI_add p 1, bnd_s]
      rw [eX, eM]
      exact ih (p + 1) f1 f2 _ _ (by omega) (by omega) (by omega) (by omega) ((nf.x (by decide)).m (by decide) (by decide)) xs_i mi_i
    · obtain ⟨X1, hX1⟩ : ∃ Z : XT, Z = xs (xs (xs (xs X 2 0 0 2 (kb (X 3 0 0 p))) 2 0 0 4 (nI p)) 2 0 0 6 0) 2 0 0 5 0 := ⟨_, rfl⟩
      obtain ⟨M5, hM5⟩ : ∃ Z : MT, Z = mi (ml (mi (mi M 0 8 (nI p)) 0 9 0) 10 0) 0 11 0 := ⟨_, rfl⟩
      have y3 : X1 2 0 0 3 = nI p := by rw [hX1, xs_o (by omega), xs_o (by omega), xs_o (by omega), xs_o (by omega)]; exact x3
      have y4 : X1 2 0 0 4 = nI p := by rw [hX1, xs_o (by omega), xs_o (by omega), xs_i]
      have y2 : X1 2 0 0 2 = kb (X 3 0 0 p) := by rw [hX1, xs_o (by omega), xs_o (by omega), xs_o (by omega), xs_i]
      have y6 : X1 2 0 0 6 = 0 := by rw [hX1, xs_o (by omega), xs_i]
      have y5 : X1 2 0 0 5 = 0 := by rw [hX1]; exact xs_i
      have yb : X1 3 0 0 p = X 3 0 0 p := by rw [hX1, xs_o (by omega), xs_o (by omega), xs_o (by omega), xs_o (by omega)]
      have nfx : NF X0 M0 X1 M := by rw [hX1]; exact (((nf.x (by decide)).x (by decide)).x (by decide)).x (by decide)
      have nf5 : NF X0 M0 X1 M5 := by rw [hM5]; exact (((nfx.m (by decide) (by decide)).m (by decide) (by decide)).l).m (by decide) (by decide)
      have b5 := nf5.bf b0
      have q6 : M5.1 0 6 = nI p := by rw [hM5, mi_o (by decide), ml_1, mi_o (by decide), mi_o (by decide)]; exact m6
      have q8 : M5.1 0 8 = nI p := by rw [hM5, mi_o (by decide), ml_1, mi_o (by decide), mi_i]
      have q9 : M5.1 0 9 = 0 := by rw [hM5, mi_o (by decide), ml_1]; exact mi_i
      have q11 : M5.1 0 11 = 0 := by rw [hM5]; exact mi_i
      have q10 : M5.2.1 10 = 0 := by rw [hM5]; rfl
      have eX : f_X10_toNext_8 (f1 + 1) X = f_X10_toNext_74 2000 X1 := by
        rw [f_X10_toNext_8, b.2.1, x3, if_neg (nI_ge hpn (by omega)), kindAt_ b hpn, bn1_s, if_neg c1, bn1_s, bnd_s, xs_o (by omega), x3, bnd_s, bnd_s, bnd_s, ← hX1]
      have hno : ¬ X 3 0 0 p &&& 255 = 32 ∧ ¬ X 3 0 0 p &&& 255 = 10 ∧ ¬ X 3 0 0 p &&& 255 = -1 := by
        rcases hk with k | k | k | k | k
        · exact absurd k.1 c1
        · obtain ⟨c, h1, h2, h3, h4, h5⟩ := k.2
          rw [h4]
          exact ⟨fun q => by have := (nI_eq (b := 32) (by omega) (by decide)).mp q; omega, fun q => by have := (nI_eq (b := 10) (by omega) (by decide)).mp q; omega, nI_m1 (by omega)⟩
        · obtain ⟨c, h1, h3, h4, h5⟩ := k.2
          rw [h4]
          exact ⟨fun q => by have := (nI_eq (b := 32) (by omega) (by decide)).mp q; omega, fun q => by have := (nI_eq (b := 10) (by omega) (by decide)).mp q; omega, nI_m1 (by omega)⟩
        · rw [k.2.1]; decide
        · exact ⟨k.2.2.1, k.2.2.2.1, k.2.2.2.2.1⟩
      have eM : f_X12_goOn_0 (f2 + 1) M = (if isL (X 3 0 0 p &&& 255) = 0 then (if isD (X 3 0 0 p &&& 255) = 0 then some (mi (mi (mi M5 0 7 3) 0 11 (X 3 0 0 p &&& 255)) 0 6 (nI (p + 1))) else f_X12_goOn_188 2000 (mi M5 0 7 2)) else f_X12_goOn_96 2000 (mi M5 0 7 1)) := by
        have hb5 := byteAt_ b5 hpn
        rw [yb] at hb5
        rw [f_X12_goOn_0, m6, byteAt_ b hpn, bn1_s, if_neg hno.1, bn1_s, if_neg hno.2.1, bnd_s, bnd_s, bnd_s, bnd_s, ← hM5, q6, hb5, bn1_s, if_neg hno.2.2, isL_, bn1_s, isD_, bn1_s, bnd_s, bnd_s]
        have e6 : (mi (mi M5 0 7 3) 0 11 (X 3 0 0 p &&& 255)).1 0 6 = nI p := by
          rw [mi_o (by decide), mi_o (by decide)]; exact q6
        rw [bnd_s, e6, show nI p + 1 = nI (p + 1) from nI_add p 1]
        rfl
      rw [eX, eM]
      clear hX1 hM5
      rcases hk with k | k | k | k | k
      · exact absurd k.1 c1
      · -- a word
        obtain ⟨c, h1, h2, h3, h4, h5⟩ := k.2
        rw [h5, if_neg (by decide)]
        obtain ⟨X', M', e, r1, r2, r3, r4⟩ := word_run (X0 := X0) (M0 := M0) (n := n) (s := p) b0 (d + 1) p 2000 2000 X1 (mi M5 0 7 1) [] (by omega) (by omega) (by omega) (nf5.m (by decide) (by decide)) (y2.trans k.1) mi_i y3 (by rw [mi_o (by decide)]; exact q8) y4 (by rw [mi_o (by decide)]; exact q6) rfl (fun x hx => absurd hx (by simp)) (fun i hi => absurd hi (Nat.not_lt_zero _)) (by rw [mi_o (by decide)]; exact q9) (fun _ => y6) (fun _ => q10) (Or.inr ⟨hpn, by rw [yb]; exact k.1⟩)
        exact ⟨X', M', p, e, r1, r2, r3, r4, hp0⟩
      · obtain ⟨c, h1, h3, h4, h5, h6⟩ := k.2
        rw [h5, h6, if_pos rfl, if_neg (by decide)]
        obtain ⟨X', M', e, r1, r2, r3, r4⟩ := num_run (X0 := X0) (M0 := M0) (n := n) (s := p) b0 (d + 1) p 2000 2000 X1 (mi M5 0 7 2) 0 0 (by omega) (by omega) (by omega) (nf5.m (by decide) (by decide)) (y2.trans k.1) mi_i y3 (by rw [mi_o (by decide)]; exact q8) y4 (by rw [mi_o (by decide)]; exact q6) (Nat.le_refl _) y5 (by rw [mi_o (by decide)]; exact q11) (by decide) (by decide) (Or.inl rfl) (Or.inr ⟨hpn, by rw [yb]; exact k.1⟩)
        exact ⟨X', M', p, e, r1, r2, r3, r4, hp0⟩
      · rw [k.2.2.1, k.2.2.2, if_pos rfl, if_pos rfl, one_run (X0 := X0) (M0 := M0) b5 nf5 hpn (y2.trans (congrArg kb yb.symm)) y3 y4 (by rw [y2, k.1]; decide) (by rw [y2, k.1]; decide)]
        refine ⟨_, _, p, p + 1, rfl, rfl, (((nf5.x (by decide)).m (by decide) (by decide)).m (by decide) (by decide)).m (by decide) (by decide), ⟨by omega, by omega, ⟨?_, ?_⟩, ⟨xs_i, mi_i⟩, Or.inr (Or.inr (Or.inr (Or.inl ⟨?_, ?_, by omega, ?_⟩)))⟩, hp0⟩
        · rw [xs_o (by omega)]; exact y3
        · rw [mi_o (by decide), mi_o (by decide), mi_o (by decide)]; exact q8
        · rw [xs_o (by omega)]; exact y2.trans k.1
        · rw [mi_o (by decide), mi_o (by decide), mi_i]
        · rw [mi_o (by decide), mi_i]; exact k.2.1
      · rw [k.2.2.2.2.2.1, k.2.2.2.2.2.2, if_pos rfl, if_pos rfl, one_run (X0 := X0) (M0 := M0) b5 nf5 hpn (y2.trans (congrArg kb yb.symm)) y3 y4 (by rw [y2, k.1]; decide) (by rw [y2, k.1]; decide)]
        refine ⟨_, _, p, p + 1, rfl, rfl, (((nf5.x (by decide)).m (by decide) (by decide)).m (by decide) (by decide)).m (by decide) (by decide), ⟨by omega, by omega, ⟨?_, ?_⟩, ⟨xs_i, mi_i⟩, Or.inr (Or.inr (Or.inr (Or.inr ⟨?_, ?_, by omega, ?_⟩)))⟩, hp0⟩
        · rw [xs_o (by omega)]; exact y3
        · rw [mi_o (by decide), mi_o (by decide), mi_o (by decide)]; exact q8
        · rw [xs_o (by omega)]; exact y2.trans k.1
        · rw [mi_o (by decide), mi_o (by decide), mi_i]
        · rw [mi_o (by decide), mi_i]; exact k.2.1
set_option maxRecDepth 20000 in
/-- both readers go to the next token -/
theorem next_ {X : XT} {M : MT} {n e : Nat} (b : BFn X M n) (he : e ≤ n) (x4 : X 2 0 0 4 = nI e) (m6 : M.1 0 6 = nI e) : ∃ X' M' s' e', f_X10_toNext X = some X' ∧ f_X12_goOn M = some M' ∧ NF X M X' M' ∧ TK X' M' n s' e' ∧ e ≤ s' := by
  have hn := b.1
  unfold f_X10_toNext f_X12_goOn
  rw [bnd_s, x4]
  exact skip_ b (n - e) e 2000 2000 _ M (by omega) (by omega) (by omega) (Nat.le_refl _) (NF.no.x (by decide)) xs_i m6
