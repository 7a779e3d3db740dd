/-! PURE: bottles sold, loads paid -/
set_option maxRecDepth 20000 in
theorem psum_upd {X X' : XT} {j j' : Nat} {q : Int32} {k : Nat} (e : ∀ i, i ≠ k → X' 22 j' i 8 = X 22 j i 8) (e0 : X 22 j k 8 = 0) (e1 : X' 22 j' k 8 = q) : ∀ n, k < n → psum X' j' n = psum X j n + q := by
  intro n
  induction n with
  | zero => intro h; omega
  | succ n ih =>
    intro h
    show psum X' j' n + X' 22 j' n 8 = psum X j n + X 22 j n 8 + q
    by_cases c : k = n
    · subst c
      rw [psum_eq (X := X) (j := j) k (fun i hi => e i (by omega)), e0, e1, Int32.add_zero]
    · rw [ih (by omega), e n (fun q => c q.symm), Int32.add_assoc, Int32.add_assoc, Int32.add_comm q]
section PAY
variable {X : XT} {j : Nat} {M : MT} {nc nv ng np nl nt nb : Nat}
set_option maxRecDepth 20000 in
theorem sell_ (h : BRn X j (M.1 M.2.2) nc nv ng np nl nt nb) {a u w c ca : Nat} (ha : a < nb) (hu : X 27 j a 3 = nI u) (hu3 : u < 2 ^ 31) (hwu : w ≤ u) (hca : M.1 M.2.2 2 = nI ca) (hsum : ca + w * c ≤ 1000000000) : ∃ X' M', f_X0_trade X j j a (nI w) (nI c) = some X' ∧ f_X12_sellNow M (nI a) (nI w) (nI c) = some (X' 10 j 0 6, M') ∧ UB X M j X' M' ∧ BRn X' j (M'.1 M'.2.2) nc nv ng np nl nt nb ∧ (∀ i, X' 22 j i 7 = X 22 j i 7) ∧ M'.1 M.2.2 0 = M.1 M.2.2 0 := by
  have hbb := h.b
  obtain ⟨v, s, m, u', hv, hs, hm, hum, ⟨x0, r0⟩, ⟨x1, r1⟩, ⟨x2, r2⟩, ⟨x3, r3⟩⟩ := h.o ha
  have hu20 : u' ≤ 20000 := by omega
  have huu : nI u = nI u' := hu.symm.trans x3
  rw [huu] at hu
  have hwu' : w ≤ u' := by
    have := (nI_eq hu3 (by omega)).mp huu
    omega
  have mc : X 10 j 0 6 = nI ca := h.m.2.2.1.trans hca
  let X' : XT := xs (xs (xs X 27 j a 3 (nI (u' - w))) 10 j 0 5 (X 10 j 0 5 + nI (w * c))) 10 j 0 6 (nI (ca + w * c))
  let M' : MT := mi (mi (mi M M.2.2 (iB a 3) (nI (u' - w))) M.2.2 2 (nI (ca + w * c))) M.2.2 10 (M.1 M.2.2 10 + nI (w * c))
  have xo : ∀ k j' i f, k ≠ 10 → (k = 27 → i ≠ a ∨ f ≠ 3) → X' k j' i f = X k j' i f := by
    intro k j' i f h1 h2
    show xs _ _ _ _ _ _ k j' i f = _
    rw [xs_o (by omega), xs_o (by omega), xs_o (by omega)]
  have x6 : X' 10 j 0 6 = nI (ca + w * c) := xs_i
  have x5 : X' 10 j 0 5 = X 10 j 0 5 + nI (w * c) := by
    show xs _ _ _ _ _ _ 10 j 0 5 = _
    rw [xs_o (by omega), xs_i]
  have x4 : X' 10 j 0 4 = X 10 j 0 4 := by
    show xs _ _ _ _ _ _ 10 j 0 4 = _
    rw [xs_o (by omega), xs_o (by omega), xs_o (by omega)]
  have x27 : X' 27 j a 3 = nI (u' - w) := by
    show xs _ _ _ _ _ _ 27 j a 3 = _
    rw [xs_o (by omega), xs_o (by omega), xs_i]
  refine ⟨X', M', ?_, ?_, ?_, ?_, fun i => xo 22 j i 7 (by decide) (fun q => absurd q (by decide)), by
    show (mi _ _ _ _).1 M.2.2 0 = _
    rw [mi_o (by decide), mi_o (by decide), mi_o (by unfold iB; omega)]⟩
  · unfold f_X0_trade
    rw [hu, show nI u' - nI w = nI (u' - w) from pk_sub hwu', bnd_s, pk_mul, xs_o (X := X) (by omega), bnd_s, xs_o (by omega), xs_o (by omega), mc, nI_add, bnd_s]
  · unfold f_X12_sellNow
    rw [show f_X12_ofLot M (nI a) 3 = some (nI u') from (oB (w := 3) (by omega) (by decide)).trans (congrArg some r3), bn1_s, show nI u' - nI w = nI (u' - w) from pk_sub hwu', show f_X12_setLot M (nI a) 3 (nI (u' - w)) = some (mi M M.2.2 (iB a 3) (nI (u' - w))) from sB (w := 3) (by omega) (by decide) _, bn1_s, x6]
    show bnd (mi _ M.2.2 2 ((mi M M.2.2 (iB a 3) (nI (u' - w))).1 M.2.2 2 + nI w * nI c)) _ = _
    rw [mi_o (by unfold iB; omega), hca, pk_mul, nI_add, bnd_s]
    show bnd (mi _ M.2.2 10 ((mi (mi M M.2.2 (iB a 3) (nI (u' - w))) M.2.2 2 (nI (ca + w * c))).1 M.2.2 10 + nI (w * c))) _ = _
    rw [mi_o (by decide), mi_o (by unfold iB; omega), bnd_s]
    show some ((mi (mi (mi M M.2.2 (iB a 3) (nI (u' - w))) M.2.2 2 (nI (ca + w * c))) M.2.2 10 (M.1 M.2.2 10 + nI (w * c))).1 M.2.2 2, _) = _
    rw [mi_o (by decide), mi_i]
  · exact UB.m (UB.m (UB.m (UB.x (UB.x (UB.x ub_no (by decide)) (by decide)) (by decide))))
  · have er : ∀ q, q ≠ iB a 3 → q ≠ 2 → q ≠ 10 → M'.1 M.2.2 q = M.1 M.2.2 q := by
      intro q h1 h2 h3
      show (mi _ _ _ _).1 M.2.2 q = _
      rw [mi_o h3, mi_o h2, mi_o h1]
    have k2 : M'.1 M.2.2 2 = nI (ca + w * c) := by
      show (mi _ _ _ _).1 M.2.2 2 = _
      rw [mi_o (by decide), mi_i]
    have k10 : M'.1 M.2.2 10 = M.1 M.2.2 10 + nI (w * c) := mi_i
    have kb : M'.1 M.2.2 (iB a 3) = nI (u' - w) := by
      show (mi _ _ _ _).1 M.2.2 _ = _
      rw [mi_o (by unfold iB; omega), mi_o (by unfold iB; omega), mi_i]
    show BRn X' j (M'.1 M.2.2) nc nv ng np nl nt nb
    obtain ⟨⟨b1, b2, b3, b4, b5, b6, b7⟩, hc', m', h1, h2, h3, h4, h5, h6, h7, h8, h9⟩ := h
    generalize M'.1 M.2.2 = r' at er k2 k10 kb ⊢
    have no : ∀ k j' i f, k ≠ 10 → k ≠ 27 → X' k j' i f = X k j' i f := fun k j' i f a b => xo k j' i f a (fun q => absurd q b)
    have em : ∀ q, q < 216 → q ≠ 2 → q ≠ 10 → r' q = M.1 M.2.2 q := fun q a b d => er q (by unfold iB; omega) b d
    refine ⟨⟨b1, b2, b3, b4, b5, b6, b7⟩, ?_, ?_, ?_, ?_, ?_, ?_, ?_, ?_, ?_, ?_, ?_⟩
    · rw [no 11 _ _ _ (by decide) (by decide), no 11 _ _ _ (by decide) (by decide), no 15 _ _ _ (by decide) (by decide), no 15 _ _ _ (by decide) (by decide), no 20 _ _ _ (by decide) (by decide), no 23 _ _ _ (by decide) (by decide), no 23 _ _ _ (by decide) (by decide), em 3 (by decide) (by decide) (by decide), em 4 (by decide) (by decide) (by decide), em 5 (by decide) (by decide) (by decide), em 6 (by decide) (by decide) (by decide), em 7 (by decide) (by decide) (by decide), em 8 (by decide) (by decide) (by decide), em 9 (by decide) (by decide) (by decide)]
      exact hc'
    · rw [x4, x5, x6, psum_eq (X := X) (j := j) nl (fun i hi => no 22 _ _ _ (by decide) (by decide)), k2, k10, em 1 (by decide) (by decide) (by decide), em 11 (by decide) (by decide) (by decide), sgT_same (fun k hk => em _ (by unfold iT; omega) (by unfold iT; omega) (by unfold iT; omega))]
      exact ⟨m'.1, congrArg (· + nI (w * c)) m'.2.1, rfl, ⟨_, hsum, rfl⟩, m'.2.2.2.2.1, m'.2.2.2.2.2⟩
    · exact cl_eq h1 b1 (fun f => no 12 _ _ _ (by decide) (by decide)) (fun q q1 q2 => em q (by omega) (by omega) (by omega))
    · exact vr_eq h2 b2 b1 (fun f => no 13 _ _ _ (by decide) (by decide)) (fun f => no 14 _ _ _ (by decide) (by decide)) (fun q q1 q2 => em q (by omega) (by omega) (by omega))
    · exact gr_eq h3 b3 (fun f => no 16 _ _ _ (by decide) (by decide)) (fun q q1 q2 => em q (by omega) (by omega) (by omega))
    · exact pr_eq h4 b4 (fun f => no 17 _ _ _ (by decide) (by decide)) (fun f => no 18 _ _ _ (by decide) (by decide)) (fun f => no 19 _ _ _ (by decide) (by decide)) (em 0 (by decide) (by decide) (by decide)) (fun q q1 q2 => em q (by omega) (by omega) (by omega))
    · exact fun k hk => lr_eq (h5 k hk) (fun f => no 17 _ _ _ (by decide) (by decide)) (fun f => no 18 _ _ _ (by decide) (by decide)) (fun f => no 22 _ _ _ (by decide) (by decide)) (fun w hw => em _ (by unfold iL; omega) (by unfold iL; omega) (by unfold iL; omega))
    · exact fun k hk => tr_eq (h6 k hk) (fun f => no 26 _ _ _ (by decide) (by decide)) (fun w hw => em _ (by unfold iT; omega) (by unfold iT; omega) (by unfold iT; omega))
    · intro k hk
      by_cases c : k = a
      · subst c
        have e : ∀ w, w < 3 → r' (iB k w) = M.1 M.2.2 (iB k w) := fun w hw => er _ (by unfold iB; omega) (by unfold iB; omega) (by unfold iB; omega)
        refine ⟨v, s, m, u' - w, hv, hs, hm, by omega, ⟨?_, ?_⟩, ⟨?_, ?_⟩, ⟨?_, ?_⟩, ⟨x27, kb⟩⟩
        · rw [xo 27 _ _ _ (by decide) (fun _ => Or.inr (by decide)), x0]
        · rw [e 0 (by decide), r0]
        · rw [xo 27 _ _ _ (by decide) (fun _ => Or.inr (by decide)), x1]
        · rw [e 1 (by decide), r1]
        · rw [xo 27 _ _ _ (by decide) (fun _ => Or.inr (by decide)), x2]
        · rw [e 2 (by decide), r2]
      · exact or_eq (h7 k hk) (fun f => xo 27 _ _ _ (by decide) (fun _ => Or.inl c)) (fun w hw => er _ (by unfold iB; omega) (by unfold iB; omega) (by unfold iB; omega))
    · intro k q1 q2
      rw [em (iT k 1) (by unfold iT; omega) (by unfold iT; omega) (by unfold iT; omega), em (iT k 3) (by unfold iT; omega) (by unfold iT; omega) (by unfold iT; omega)]
      exact h8 k q1 q2
    · exact zv_eq h9 (fun q q1 q2 => em q (by omega) (by omega) (by omega))
set_option maxRecDepth 20000 in
theorem pay_ (h : BRn X j (M.1 M.2.2) nc nv ng np nl nt nb) {k q ca : Nat} (hk : k < nl) (h0 : X 22 j k 7 = 0) (hv : f_X12_valueNow M (nI k) = some (nI q)) (hq : q ≤ 4995000) (hca : M.1 M.2.2 2 = nI ca) (hca3 : ca < 2 ^ 31) (hqc : q ≤ ca) : ∃ X' M', f_X0_settle X j j k (nI q) = some (nI q, X') ∧ f_X12_payNow M (nI k) = some (nI q, M') ∧ UB X M j X' M' ∧ BRn X' j (M'.1 M'.2.2) nc nv ng np nl nt nb ∧ M'.1 M'.2.2 2 = nI (ca - q) ∧ X' 22 j k 7 = 1 ∧ (∀ i f, i ≠ k → X' 22 j i f = X 22 j i f) ∧ (∀ f, f ≠ 7 → f ≠ 8 → X' 22 j k f = X 22 j k f) ∧ (∀ f, X' 14 j 0 f = X 14 j 0 f) ∧ M'.1 M.2.2 0 = M.1 M.2.2 0 := by
  have hbb := h.b
  have mc : X 10 j 0 6 = nI ca := h.m.2.2.1.trans hca
  have z8 : X 22 j k 8 = 0 := by
    rcases (h.va hk).2 with ⟨a1, a2, a3, a4, a5, -⟩ | ⟨a1, -⟩
    · exact a5
    · exact absurd (a1.symm.trans h0) (by decide)
  obtain ⟨ca0, hca0, hca1⟩ := h.m.2.2.2.1
  let X' : XT := xs (xs (xs X 22 j k 7 1) 22 j k 8 (nI q)) 10 j 0 6 (nI (ca - q))
  let M' : MT := mi (mi (mi M M.2.2 (iL k 5) (nI q)) M.2.2 2 (nI (ca - q))) M.2.2 11 (M.1 M.2.2 11 + nI q)
  have xo : ∀ k' j' i f, k' ≠ 10 → (k' = 22 → i ≠ k ∨ (f ≠ 7 ∧ f ≠ 8)) → X' k' j' i f = X k' j' i f := by
    intro k' j' i f h1 h2
    show xs _ _ _ _ _ _ k' j' i f = _
    rw [xs_o (by omega), xs_o (by omega), xs_o (by omega)]
  have x6 : X' 10 j 0 6 = nI (ca - q) := xs_i
  have x45 : ∀ f, f ≠ 6 → X' 10 j 0 f = X 10 j 0 f := by
    intro f hf
    show xs _ _ _ _ _ _ 10 j 0 f = _
    rw [xs_o (by omega), xs_o (by omega), xs_o (by omega)]
  have l7 : X' 22 j k 7 = 1 := by
    show xs _ _ _ _ _ _ 22 j k 7 = _
    rw [xs_o (by omega), xs_o (by omega), xs_i]
  have l8 : X' 22 j k 8 = nI q := by
    show xs _ _ _ _ _ _ 22 j k 8 = _
    rw [xs_o (by omega), xs_i]
  have k2 : M'.1 M.2.2 2 = nI (ca - q) := by
    show (mi _ _ _ _).1 M.2.2 2 = _
    rw [mi_o (by decide), mi_i]
  refine ⟨X', M', ?_, ?_, ?_, ?_, k2, l7, fun i f hi => xo 22 j i f (by decide) (fun _ => Or.inl hi), fun f a b => xo 22 j k f (by decide) (fun _ => Or.inr ⟨a, b⟩), fun f => xo 14 j 0 f (by decide) (fun q => absurd q (by decide)), by
    show (mi _ _ _ _).1 M.2.2 0 = _
    rw [mi_o (by decide), mi_o (by decide), mi_o (by unfold iL; omega)]⟩
  · unfold f_X0_settle
    rw [bnd_s, bnd_s, xs_o (by omega), xs_o (by omega), mc, show nI ca - nI q = nI (ca - q) from pk_sub hqc, bnd_s]
  · unfold f_X12_payNow
    rw [hv, bn1_s, show f_X12_setLoad M (nI k) 5 (nI q) = some (mi M M.2.2 (iL k 5) (nI q)) from sL (w := 5) (by omega) (by decide) _, bn1_s]
    show bnd (mi _ M.2.2 2 ((mi M M.2.2 (iL k 5) (nI q)).1 M.2.2 2 - nI q)) _ = _
    rw [mi_o (by unfold iL; omega), hca, show nI ca - nI q = nI (ca - q) from pk_sub hqc, bnd_s]
    show bnd (mi _ M.2.2 11 ((mi (mi M M.2.2 (iL k 5) (nI q)) M.2.2 2 (nI (ca - q))).1 M.2.2 11 + nI q)) _ = _
    rw [mi_o (by decide), mi_o (by unfold iL; omega), bnd_s]
  · exact UB.m (UB.m (UB.m (UB.x (UB.x (UB.x ub_no (by decide)) (by decide)) (by decide))))
  · have er : ∀ p, p ≠ iL k 5 → p ≠ 2 → p ≠ 11 → M'.1 M.2.2 p = M.1 M.2.2 p := by
      intro p h1 h2 h3
      show (mi _ _ _ _).1 M.2.2 p = _
      rw [mi_o h3, mi_o h2, mi_o h1]
    have k11 : M'.1 M.2.2 11 = M.1 M.2.2 11 + nI q := mi_i
    have kl : M'.1 M.2.2 (iL k 5) = nI q := by
      show (mi _ _ _ _).1 M.2.2 _ = _
      rw [mi_o (by unfold iL; omega), mi_o (by unfold iL; omega), mi_i]
    show BRn X' j (M'.1 M.2.2) nc nv ng np nl nt nb
    obtain ⟨⟨b1, b2, b3, b4, b5, b6, b7⟩, hc', m', h1, h2, h3, h4, h5, h6, h7, h8, h9⟩ := h
    generalize M'.1 M.2.2 = r' at er k2 k11 kl ⊢
    have no : ∀ k' j' i f, k' ≠ 10 → k' ≠ 22 → X' k' j' i f = X k' j' i f := fun k' j' i f a b => xo k' j' i f a (fun q => absurd q b)
    have em : ∀ p, (p < 76 ∨ 196 ≤ p) → p ≠ 2 → p ≠ 11 → r' p = M.1 M.2.2 p := fun p a b d => er p (by unfold iL; omega) b d
    refine ⟨⟨b1, b2, b3, b4, b5, b6, b7⟩, ?_, ?_, ?_, ?_, ?_, ?_, ?_, ?_, ?_, ?_, ?_⟩
    · rw [no 11 _ _ _ (by decide) (by decide), no 11 _ _ _ (by decide) (by decide), no 15 _ _ _ (by decide) (by decide), no 15 _ _ _ (by decide) (by decide), no 20 _ _ _ (by decide) (by decide), no 23 _ _ _ (by decide) (by decide), no 23 _ _ _ (by decide) (by decide), em 3 (by decide) (by decide) (by decide), em 4 (by decide) (by decide) (by decide), em 5 (by decide) (by decide) (by decide), em 6 (by decide) (by decide) (by decide), em 7 (by decide) (by decide) (by decide), em 8 (by decide) (by decide) (by decide), em 9 (by decide) (by decide) (by decide)]
      exact hc'
    · rw [x45 4 (by decide), x45 5 (by decide), x6, psum_upd (X := X) (j := j) (k := k) (q := nI q) (fun i hi => xo 22 _ _ _ (by decide) (fun _ => Or.inl hi)) z8 l8 nl hk, k2, k11, em 1 (by decide) (by decide) (by decide), em 10 (by decide) (by decide) (by decide), sgT_same (fun k hk => em _ (by unfold iT; omega) (by unfold iT; omega) (by unfold iT; omega))]
      have hle : ca - q ≤ 1000000000 := by
        have e : ca = ca0 := (nI_eq hca3 (by omega)).mp (hca.symm.trans hca1)
        omega
      exact ⟨m'.1, m'.2.1, rfl, ⟨_, hle, rfl⟩, congrArg (· + nI q) m'.2.2.2.2.1, m'.2.2.2.2.2⟩
    · exact cl_eq h1 b1 (fun f => no 12 _ _ _ (by decide) (by decide)) (fun p q1 q2 => em p (by omega) (by omega) (by omega))
    · exact vr_eq h2 b2 b1 (fun f => no 13 _ _ _ (by decide) (by decide)) (fun f => no 14 _ _ _ (by decide) (by decide)) (fun p q1 q2 => em p (by omega) (by omega) (by omega))
    · exact gr_eq h3 b3 (fun f => no 16 _ _ _ (by decide) (by decide)) (fun p q1 q2 => em p (by omega) (by omega) (by omega))
    · exact pr_eq h4 b4 (fun f => no 17 _ _ _ (by decide) (by decide)) (fun f => no 18 _ _ _ (by decide) (by decide)) (fun f => no 19 _ _ _ (by decide) (by decide)) (em 0 (by decide) (by decide) (by decide)) (fun p q1 q2 => em p (by omega) (by omega) (by omega))
    · intro i hi
      by_cases c : i = k
      · subst c
        obtain ⟨p, w, s, g, t, hp, hw1, hw, hs, hg, ht, ⟨a0, a1⟩, a2, a3, ⟨a4, a5⟩, ⟨a6, a7⟩, ⟨a8, a9⟩, ⟨d0, d1⟩, -⟩ := h5 i hi
        have e : ∀ w, w < 5 → r' (iL i w) = M.1 M.2.2 (iL i w) := fun w hw => er _ (by unfold iL; omega) (by unfold iL; omega) (by unfold iL; omega)
        have x : ∀ f, f < 7 → X' 22 j i f = X 22 j i f := fun f hf => xo 22 j i f (by decide) (fun _ => Or.inr ⟨by omega, by omega⟩)
        refine ⟨p, w, s, g, t, hp, hw1, hw, hs, hg, ht, ?_, ?_, ?_, ?_, ?_, ?_, ?_, Or.inr ⟨l7, q, hq, kl, l8⟩⟩
        · rw [x 0 (by decide), e 0 (by decide)]; exact ⟨a0, a1⟩
        · rw [x 1 (by decide), no 17 _ _ _ (by decide) (by decide)]; exact a2
        · rw [x 2 (by decide), no 18 _ _ _ (by decide) (by decide)]; exact a3
        · rw [x 3 (by decide), e 1 (by decide)]; exact ⟨a4, a5⟩
        · rw [x 4 (by decide), e 2 (by decide)]; exact ⟨a6, a7⟩
        · rw [x 5 (by decide), e 3 (by decide)]; exact ⟨a8, a9⟩
        · rw [x 6 (by decide), e 4 (by decide)]; exact ⟨d0, d1⟩
      · exact lr_eq (h5 i hi) (fun f => no 17 _ _ _ (by decide) (by decide)) (fun f => no 18 _ _ _ (by decide) (by decide)) (fun f => xo 22 _ _ _ (by decide) (fun _ => Or.inl c)) (fun w hw => er _ (by unfold iL; omega) (by unfold iL; omega) (by unfold iL; omega))
    · exact fun k hk => tr_eq (h6 k hk) (fun f => no 26 _ _ _ (by decide) (by decide)) (fun w hw => em _ (by unfold iT; omega) (by unfold iT; omega) (by unfold iT; omega))
    · exact fun k hk => or_eq (h7 k hk) (fun f => no 27 _ _ _ (by decide) (by decide)) (fun w hw => em _ (by unfold iB; omega) (by unfold iB; omega) (by unfold iB; omega))
    · intro k q1 q2
      rw [em (iT k 1) (by unfold iT; omega) (by unfold iT; omega) (by unfold iT; omega), em (iT k 3) (by unfold iT; omega) (by unfold iT; omega) (by unfold iT; omega)]
      exact h8 k q1 q2
    · exact zv_eq h9 (fun q q1 q2 => em q (by omega) (by omega) (by omega))
set_option maxRecDepth 20000 in
theorem unS_eq {X X' : XT} {j : Nat} (v : Int32) : ∀ d k, (∀ i f, k ≤ i → X' 22 j i f = X 22 j i f) → (∀ f, X' 14 j 0 f = X 14 j 0 f) → unS X' j v d k = unS X j v d k := by
  intro d
  induction d with
  | zero => intro k _ _; rfl
  | succ d ih =>
    intro k e e14
    rw [unS, unS, ih (k + 1) (fun i f hi => e i f (by omega)) e14, e k 1 (Nat.le_refl k), e k 7 (Nat.le_refl k)]
    have : vaL X' j k = vaL X j k := by
      unfold vaL
      rw [e k 3 (Nat.le_refl k), e k 2 (Nat.le_refl k), e k 5 (Nat.le_refl k), e14]
    rw [this]
end PAY
