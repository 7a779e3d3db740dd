/-! PURE: a book grows -/
set_option maxRecDepth 20000 in
theorem LR.mono {X : XT} {j : Nat} {r : Nat → Int32} {nc np nt nc' np' nt' k : Nat} (h : LR X j r nc np nt k) (h1 : nc ≤ nc') (h2 : np ≤ np') (h3 : nt ≤ nt') : LR X j r nc' np' nt' k := by
  obtain ⟨p, w, s, g, t, q1, q2, q3, q4, q5, q6, rest⟩ := h
  exact ⟨p, w, s, g, t, by omega, q2, q3, q4, by omega, by omega, rest⟩
set_option maxRecDepth 20000 in
theorem PR.mono {X : XT} {j : Nat} {r : Nat → Int32} {ng nv ng' nv' k : Nat} (h : PR X j r ng nv k) (h1 : ng ≤ ng') (h2 : nv ≤ nv') : PR X j r ng' nv' k := by
  obtain ⟨o, v, q1, q2, rest⟩ := h
  exact ⟨o, v, by omega, by omega, rest⟩
set_option maxRecDepth 20000 in
theorem TR.mono {X : XT} {j : Nat} {r : Nat → Int32} {nv nv' k : Nat} (h : TR X j r nv k) (h1 : nv ≤ nv') : TR X j r nv' k := by
  obtain ⟨ca, co, sg, q1, q2, q3, q4, q5, q6, q7, q8⟩ := h
  refine ⟨ca, co, sg, q1, q2, q3, q4, q5, q6, q7, q8.imp id fun ⟨a, v, b, c⟩ => ⟨a, v, by omega, c⟩⟩
set_option maxRecDepth 20000 in
theorem OR.mono {X : XT} {j : Nat} {r : Nat → Int32} {nv nv' k : Nat} (h : OR X j r nv k) (h1 : nv ≤ nv') : OR X j r nv' k := by
  obtain ⟨v, s, m, u, q1, rest⟩ := h
  exact ⟨v, s, m, u, by omega, rest⟩
section LAY
variable {X : XT} {j : Nat} {M : MT} {nc nv ng np nl nt nb : Nat}
set_option maxRecDepth 20000 in
theorem class_ (h : BRn X j (M.1 M.2.2) nc 0 0 0 0 0 0) (hc : nc < 4) (v : Int32) : ∃ X', f_X1_addClass X j v = some X' ∧ UB X M j X' (mi (mi M M.2.2 (12 + nc) v) M.2.2 3 (nI (nc + 1))) ∧ BRn X' j ((mi (mi M M.2.2 (12 + nc) v) M.2.2 3 (nI (nc + 1))).1 M.2.2) (nc + 1) 0 0 0 0 0 0 ∧ ∀ i, X' 22 j i 7 = X 22 j i 7 := by
  refine ⟨xs (xs X 12 j 0 nc v) 11 j 0 3 (nI (nc + 1)), ?_, UB.m (UB.m (UB.x (UB.x ub_no (by decide)) (by decide))), ?_, fun i => by rw [xs_o (by omega), xs_o (by omega)]⟩
  · unfold f_X1_addClass
    rw [h.c.1.1, if_neg (show ¬ (4 : Int32) ≤ nI nc from nI_ge (b := 4) hc (by decide)), gd_t (nI_in hc (by decide)), nI_clamp (by omega), bnd_s, xs_o (by omega), h.c.1.1, show nI nc + 1 = nI (nc + 1) from nI_add nc 1, bnd_s]
  · obtain ⟨-, hc', m, h1, h2, h3, h4, h5, h6, h7, h8, h9⟩ := h
    have er : ∀ q, q ≠ 12 + nc → q ≠ 3 → (mi (mi M M.2.2 (12 + nc) v) M.2.2 3 (nI (nc + 1))).1 M.2.2 q = M.1 M.2.2 q := fun q a b => by rw [mi_o b, mi_o a]
    have e3 : (mi (mi M M.2.2 (12 + nc) v) M.2.2 3 (nI (nc + 1))).1 M.2.2 3 = nI (nc + 1) := mi_i
    have ec : (mi (mi M M.2.2 (12 + nc) v) M.2.2 3 (nI (nc + 1))).1 M.2.2 (12 + nc) = v := by rw [mi_o (by omega), mi_i]
    generalize (mi (mi M M.2.2 (12 + nc) v) M.2.2 3 (nI (nc + 1))).1 M.2.2 = r' at er e3 ec ⊢
    have ex : ∀ k i f, k ≠ 12 → k ≠ 11 → xs (xs X 12 j 0 nc v) 11 j 0 3 (nI (nc + 1)) k j i f = X k j i f := fun k i f a b => by rw [xs_o (by omega), xs_o (by omega)]
    refine ⟨⟨by omega, by decide, by decide, by decide, by decide, by decide, by decide⟩, ?_, ?_, ?_, fun k hk => absurd hk (Nat.not_lt_zero _), fun k hk => absurd hk (Nat.not_lt_zero _), fun k hk => absurd hk (Nat.not_lt_zero _), fun k hk => absurd hk (Nat.not_lt_zero _), fun k hk => absurd hk (Nat.not_lt_zero _), fun k hk => absurd hk (Nat.not_lt_zero _), ?_, ?_⟩
    · rw [ex 15 _ _ (by decide) (by decide), ex 15 _ _ (by decide) (by decide), ex 20 _ _ (by decide) (by decide), ex 23 _ _ (by decide) (by decide), ex 23 _ _ (by decide) (by decide), xs_i, xs_o (by omega), xs_o (by omega), e3, er 4 (by omega) (by omega), er 5 (by omega) (by omega), er 6 (by omega) (by omega), er 7 (by omega) (by omega), er 8 (by omega) (by omega), er 9 (by omega) (by omega)]
      exact ⟨⟨rfl, rfl⟩, hc'.2⟩
    · rw [ex 10 _ _ (by decide) (by decide), ex 10 _ _ (by decide) (by decide), ex 10 _ _ (by decide) (by decide), er 1 (by omega) (by omega), er 10 (by omega) (by omega), er 2 (by omega) (by omega), er 11 (by omega) (by omega), sgT_same (fun k hk => er _ (by unfold iT; omega) (by unfold iT; omega))]
      exact m
    · intro k hk
      rw [xs_o (by omega)]
      by_cases c : k = nc
      · subst c
        rw [xs_i, ec]
      · rw [xs_o (by omega), er _ (by omega) (by omega)]
        exact h1 k (by omega)
    · intro k q1 q2
      rw [er _ (by unfold iT; omega) (by unfold iT; omega), er _ (by unfold iT; omega) (by unfold iT; omega)]
      exact h8 k q1 q2
    · intro k q1 q2 g hg
      rw [er _ (by unfold iV; omega) (by unfold iV; omega)]
      exact h9 k q1 q2 g hg
set_option maxRecDepth 20000 in
theorem grower_ (h : BRn X j (M.1 M.2.2) nc nv ng np nl nt nb) (hn : ng < 6) {a b c : Int32} (hw : nmR a b c) : ∃ X' M', f_X5_addGrower X j a = some X' ∧ f_X12_layGrower M b c = some M' ∧ UB X M j X' M' ∧ BRn X' j (M'.1 M'.2.2) nc nv (ng + 1) np nl nt nb ∧ (∀ i, X' 22 j i 7 = X 22 j i 7) ∧ M'.1 M.2.2 0 = M.1 M.2.2 0 := by
  have ig : (40 : Int32) + 2 * nI ng = nI (iG ng 0) := by
    rw [show (40 : Int32) = nI 40 from rfl, show (2 : Int32) = nI 2 from rfl, pk_mul, nI_add]; rfl
  refine ⟨xs (xs X 16 j 0 ng a) 15 j 0 4 (nI (ng + 1)), mi (mi (mi M M.2.2 5 (nI (ng + 1))) M.2.2 (iG ng 0) b) M.2.2 (iG ng 1) c, ?_, ?_, UB.m (UB.m (UB.m (UB.x (UB.x ub_no (by decide)) (by decide)))), ?_, fun i => by rw [xs_o (by omega), xs_o (by omega)], by
    rw [mi_o (by unfold iG; omega), mi_o (by unfold iG; omega), mi_o (by decide)]⟩
  · unfold f_X5_addGrower
    rw [h.c.2.2.1.1, if_neg (show ¬ (6 : Int32) ≤ nI ng from nI_ge (b := 6) hn (by decide)), gd_t (nI_in hn (by decide)), nI_clamp (by omega), bnd_s, xs_o (by omega), h.c.2.2.1.1, show nI ng + 1 = nI (ng + 1) from nI_add ng 1, bnd_s]
  · unfold f_X12_layGrower
    rw [h.c.2.2.1.2, ig, show nI ng + 1 = nI (ng + 1) from nI_add ng 1, bnd_s, bnd_s, show nI (iG ng 0) + 0 = nI (iG ng 0) from nI_add _ 0, gd_t (nI_in (by unfold iG; omega) (by decide)), nI_clamp (by unfold iG; omega), bnd_s, show nI (iG ng 0) + 1 = nI (iG ng 1) from nI_add _ 1, gd_t (nI_in (by unfold iG; omega) (by decide)), nI_clamp (by unfold iG; omega), bnd_s]
    rfl
  · obtain ⟨⟨b1, b2, b3, b4, b5, b6, b7⟩, hc', m, h1, h2, h3, h4, h5, h6, h7, h8, h9⟩ := h
    show BRn _ j ((mi (mi (mi M M.2.2 5 (nI (ng + 1))) M.2.2 (iG ng 0) b) M.2.2 (iG ng 1) c).1 M.2.2) _ _ _ _ _ _ _
    have er : ∀ q, q ≠ 5 → q ≠ iG ng 0 → q ≠ iG ng 1 → (mi (mi (mi M M.2.2 5 (nI (ng + 1))) M.2.2 (iG ng 0) b) M.2.2 (iG ng 1) c).1 M.2.2 q = M.1 M.2.2 q := fun q p1 p2 p3 => by rw [mi_o p3, mi_o p2, mi_o p1]
    have e5 : (mi (mi (mi M M.2.2 5 (nI (ng + 1))) M.2.2 (iG ng 0) b) M.2.2 (iG ng 1) c).1 M.2.2 5 = nI (ng + 1) := by rw [mi_o (by unfold iG; omega), mi_o (by unfold iG; omega), mi_i]
    have eb : (mi (mi (mi M M.2.2 5 (nI (ng + 1))) M.2.2 (iG ng 0) b) M.2.2 (iG ng 1) c).1 M.2.2 (iG ng 0) = b := by rw [mi_o (by unfold iG; omega), mi_i]
    have ec : (mi (mi (mi M M.2.2 5 (nI (ng + 1))) M.2.2 (iG ng 0) b) M.2.2 (iG ng 1) c).1 M.2.2 (iG ng 1) = c := mi_i
    generalize (mi (mi (mi M M.2.2 5 (nI (ng + 1))) M.2.2 (iG ng 0) b) M.2.2 (iG ng 1) c).1 M.2.2 = r' at er e5 eb ec ⊢
    have em : ∀ q, q ≠ 5 → (q < 40 ∨ 52 ≤ q) → r' q = M.1 M.2.2 q := fun q p1 p2 => er q p1 (by unfold iG; omega) (by unfold iG; omega)
    have ex : ∀ k i f, k ≠ 16 → k ≠ 15 → xs (xs X 16 j 0 ng a) 15 j 0 4 (nI (ng + 1)) k j i f = X k j i f := fun k i f a b => by rw [xs_o (by omega), xs_o (by omega)]
    refine ⟨⟨b1, b2, by omega, b4, b5, b6, b7⟩, ?_, ?_, ?_, ?_, ?_, ?_, ?_, ?_, ?_, ?_, ?_⟩
    · rw [ex 11 _ _ (by decide) (by decide), ex 11 _ _ (by decide) (by decide), ex 20 _ _ (by decide) (by decide), ex 23 _ _ (by decide) (by decide), ex 23 _ _ (by decide) (by decide), xs_i, xs_o (by omega), xs_o (by omega), e5, em 3 (by decide) (by decide), em 4 (by decide) (by decide), em 6 (by decide) (by decide), em 7 (by decide) (by decide), em 8 (by decide) (by decide), em 9 (by decide) (by decide)]
      exact ⟨hc'.1, hc'.2.1, ⟨rfl, rfl⟩, hc'.2.2.2⟩
    · rw [ex 10 _ _ (by decide) (by decide), ex 10 _ _ (by decide) (by decide), ex 10 _ _ (by decide) (by decide), psum_eq (X := X) (j := j) nl (fun i _ => ex 22 _ _ (by decide) (by decide)), em 1 (by decide) (by decide), em 10 (by decide) (by decide), em 2 (by decide) (by decide), em 11 (by decide) (by decide), sgT_same (fun k hk => em _ (by unfold iT; omega) (by unfold iT; omega))]
      exact m
    · exact cl_eq h1 b1 (fun f => ex 12 _ _ (by decide) (by decide)) (fun q q1 q2 => em q (by omega) (by omega))
    · exact vr_eq h2 b2 b1 (fun f => ex 13 _ _ (by decide) (by decide)) (fun f => ex 14 _ _ (by decide) (by decide)) (fun q q1 q2 => em q (by omega) (by omega))
    · intro k hk
      rw [xs_o (by omega)]
      by_cases d : k = ng
      · subst d
        rw [xs_i, eb, ec]
        exact hw
      · rw [xs_o (by omega), er _ (by unfold iG; omega) (by unfold iG; omega) (by unfold iG; omega), er _ (by unfold iG; omega) (by unfold iG; omega) (by unfold iG; omega)]
        exact h3 k (by omega)
    · exact fun k hk => (pr_eq h4 b4 (fun f => ex 17 _ _ (by decide) (by decide)) (fun f => ex 18 _ _ (by decide) (by decide)) (fun f => ex 19 _ _ (by decide) (by decide)) (em 0 (by decide) (by decide)) (fun q q1 q2 => em q (by omega) (by omega)) k hk).mono (by omega) (Nat.le_refl _)
    · exact fun k hk => lr_eq (h5 k hk) (fun f => ex 17 _ _ (by decide) (by decide)) (fun f => ex 18 _ _ (by decide) (by decide)) (fun f => ex 22 _ _ (by decide) (by decide)) (fun w hw => em _ (by unfold iL; omega) (by unfold iL; omega))
    · exact fun k hk => tr_eq (h6 k hk) (fun f => ex 26 _ _ (by decide) (by decide)) (fun w hw => em _ (by unfold iT; omega) (by unfold iT; omega))
    · exact fun k hk => or_eq (h7 k hk) (fun f => ex 27 _ _ (by decide) (by decide)) (fun w hw => em _ (by unfold iB; omega) (by unfold iB; omega))
    · intro k q1 q2
      rw [em _ (by unfold iT; omega) (by unfold iT; omega), em _ (by unfold iT; omega) (by unfold iT; omega)]
      exact h8 k q1 q2
    · exact zv_eq h9 (fun q q1 q2 => em q (by omega) (by omega))
set_option maxRecDepth 20000 in
theorem plot_ (h : BRn X j (M.1 M.2.2) nc nv ng np nl nt nb) (hn : np < 8) {o v : Nat} {a : Int32} (ho : o < ng) (hv : v < nv) : ∃ X' M', f_X5_addPlot X j (nI o) (nI v) (a * M.1 M.2.2 0) = some X' ∧ f_X12_layPlot M (nI o) (nI v) a = some M' ∧ UB X M j X' M' ∧ BRn X' j (M'.1 M'.2.2) nc nv ng (np + 1) nl nt nb ∧ (∀ i, X' 22 j i 7 = X 22 j i 7) ∧ M'.1 M.2.2 0 = M.1 M.2.2 0 := by
  have ig : (52 : Int32) + 3 * nI np = nI (iP np 0) := by
    rw [show (52 : Int32) = nI 52 from rfl, show (3 : Int32) = nI 3 from rfl, pk_mul, nI_add]; rfl
  have x5 : X 15 j 0 5 = nI np := h.c.2.2.2.1.1
  refine ⟨xs (xs (xs (xs X 17 j 0 np (nI o)) 18 j 0 np (nI v)) 19 j 0 np (a * M.1 M.2.2 0)) 15 j 0 5 (nI (np + 1)), mi (mi (mi (mi M M.2.2 6 (nI (np + 1))) M.2.2 (iP np 0) (nI o)) M.2.2 (iP np 1) (nI v)) M.2.2 (iP np 2) a, ?_, ?_, UB.m (UB.m (UB.m (UB.m (UB.x (UB.x (UB.x (UB.x ub_no (by decide)) (by decide)) (by decide)) (by decide))))), ?_, fun i => by rw [xs_o (by omega), xs_o (by omega), xs_o (by omega), xs_o (by omega)], by
    rw [mi_o (by unfold iP; omega), mi_o (by unfold iP; omega), mi_o (by unfold iP; omega), mi_o (by decide)]⟩
  · unfold f_X5_addPlot
    have g : ¬ (nI np < 0 ∨ 8 ≤ (nI np).toNatClampNeg) := nI_in hn (by decide)
    have y1 : (xs X 17 j 0 np (nI o)) 15 j 0 5 = nI np := by rw [xs_o (by omega)]; exact x5
    have y2 : (xs (xs X 17 j 0 np (nI o)) 18 j 0 np (nI v)) 15 j 0 5 = nI np := by rw [xs_o (by omega)]; exact y1
    have y3 : (xs (xs (xs X 17 j 0 np (nI o)) 18 j 0 np (nI v)) 19 j 0 np (a * M.1 M.2.2 0)) 15 j 0 5 = nI np := by rw [xs_o (by omega)]; exact y2
    rw [x5, if_neg (show ¬ (8 : Int32) ≤ nI np from nI_ge (b := 8) hn (by decide)), gd_t g, nI_clamp (by omega), bnd_s, y1, gd_t g, nI_clamp (by omega), bnd_s, y2, gd_t g, nI_clamp (by omega), bnd_s, y3, show nI np + 1 = nI (np + 1) from nI_add np 1, bnd_s]
  · unfold f_X12_layPlot
    rw [h.c.2.2.2.1.2, ig, show nI np + 1 = nI (np + 1) from nI_add np 1, bnd_s, bnd_s, show nI (iP np 0) + 0 = nI (iP np 0) from nI_add _ 0, gd_t (nI_in (by unfold iP; omega) (by decide)), nI_clamp (by unfold iP; omega), bnd_s, show nI (iP np 0) + 1 = nI (iP np 1) from nI_add _ 1, gd_t (nI_in (by unfold iP; omega) (by decide)), nI_clamp (by unfold iP; omega), bnd_s, show nI (iP np 0) + 2 = nI (iP np 2) from nI_add _ 2, gd_t (nI_in (by unfold iP; omega) (by decide)), nI_clamp (by unfold iP; omega), bnd_s]
    rfl
  · obtain ⟨⟨b1, b2, b3, b4, b5, b6, b7⟩, hc', m, h1, h2, h3, h4, h5, h6, h7, h8, h9⟩ := h
    let M' : MT := mi (mi (mi (mi M M.2.2 6 (nI (np + 1))) M.2.2 (iP np 0) (nI o)) M.2.2 (iP np 1) (nI v)) M.2.2 (iP np 2) a
    have e0 : M.1 M.2.2 0 = M'.1 M.2.2 0 := by
      show _ = (mi _ _ _ _).1 M.2.2 0
      rw [mi_o (by unfold iP; omega), mi_o (by unfold iP; omega), mi_o (by unfold iP; omega), mi_o (by decide)]
    let X' : XT := xs (xs (xs (xs X 17 j 0 np (nI o)) 18 j 0 np (nI v)) 19 j 0 np (a * M.1 M.2.2 0)) 15 j 0 5 (nI (np + 1))
    show BRn X' j (M'.1 M.2.2) _ _ _ _ _ _ _
    have er : ∀ q, q ≠ 6 → q ≠ iP np 0 → q ≠ iP np 1 → q ≠ iP np 2 → M'.1 M.2.2 q = M.1 M.2.2 q := fun q p1 p2 p3 p4 => by
      show (mi _ _ _ _).1 M.2.2 q = _
      rw [mi_o p4, mi_o p3, mi_o p2, mi_o p1]
    have e6 : M'.1 M.2.2 6 = nI (np + 1) := by
      show (mi _ _ _ _).1 M.2.2 6 = _
      rw [mi_o (by unfold iP; omega), mi_o (by unfold iP; omega), mi_o (by unfold iP; omega), mi_i]
    have ea : M'.1 M.2.2 (iP np 0) = nI o := by
      show (mi _ _ _ _).1 M.2.2 _ = _
      rw [mi_o (by unfold iP; omega), mi_o (by unfold iP; omega), mi_i]
    have eb : M'.1 M.2.2 (iP np 1) = nI v := by
      show (mi _ _ _ _).1 M.2.2 _ = _
      rw [mi_o (by unfold iP; omega), mi_i]
    have ec : M'.1 M.2.2 (iP np 2) = a := mi_i
    have ex : ∀ k i f, k ≠ 17 → k ≠ 18 → k ≠ 19 → k ≠ 15 → X' k j i f = X k j i f := fun k i f a b c d => by
      show xs _ _ _ _ _ _ k j i f = _
      rw [xs_o (by omega), xs_o (by omega), xs_o (by omega), xs_o (by omega)]
    have x17 : ∀ k, X' 17 j 0 k = if k = np then nI o else X 17 j 0 k := fun k => by
      show xs _ _ _ _ _ _ 17 j 0 k = _
      rw [xs_o (by omega), xs_o (by omega), xs_o (by omega)]
      by_cases d : k = np
      · rw [if_pos d, d, xs_i]
      · rw [if_neg d, xs_o (by omega)]
    have x18 : ∀ k, X' 18 j 0 k = if k = np then nI v else X 18 j 0 k := fun k => by
      show xs _ _ _ _ _ _ 18 j 0 k = _
      rw [xs_o (by omega), xs_o (by omega)]
      by_cases d : k = np
      · rw [if_pos d, d, xs_i]
      · rw [if_neg d, xs_o (by omega), xs_o (by omega)]
    have x19 : ∀ k, X' 19 j 0 k = if k = np then a * M.1 M.2.2 0 else X 19 j 0 k := fun k => by
      show xs _ _ _ _ _ _ 19 j 0 k = _
      rw [xs_o (by omega)]
      by_cases d : k = np
      · rw [if_pos d, d, xs_i]
      · rw [if_neg d, xs_o (by omega), xs_o (by omega), xs_o (by omega)]
    have x15 : X' 15 j 0 5 = nI (np + 1) := xs_i
    have x154 : X' 15 j 0 4 = X 15 j 0 4 := by
      show xs _ _ _ _ _ _ 15 j 0 4 = _
      rw [xs_o (by omega), xs_o (by omega), xs_o (by omega), xs_o (by omega)]
    rw [e0] at x19
    generalize M'.1 M.2.2 = r' at er e6 ea eb ec e0 x19 ⊢
    generalize X' = Z at *
    have em : ∀ q, q ≠ 6 → (q < 52 ∨ 76 ≤ q) → r' q = M.1 M.2.2 q := fun q p1 p2 => er q p1 (by unfold iP; omega) (by unfold iP; omega) (by unfold iP; omega)
    refine ⟨⟨b1, b2, b3, by omega, b5, b6, b7⟩, ?_, ?_, ?_, ?_, ?_, ?_, ?_, ?_, ?_, ?_, ?_⟩
    · rw [ex 11 _ _ (by decide) (by decide) (by decide) (by decide), ex 11 _ _ (by decide) (by decide) (by decide) (by decide), ex 20 _ _ (by decide) (by decide) (by decide) (by decide), ex 23 _ _ (by decide) (by decide) (by decide) (by decide), ex 23 _ _ (by decide) (by decide) (by decide) (by decide), x15, x154, e6, em 3 (by decide) (by decide), em 4 (by decide) (by decide), em 5 (by decide) (by decide), em 7 (by decide) (by decide), em 8 (by decide) (by decide), em 9 (by decide) (by decide)]
      exact ⟨hc'.1, hc'.2.1, hc'.2.2.1, ⟨rfl, rfl⟩, hc'.2.2.2.2⟩
    · rw [ex 10 _ _ (by decide) (by decide) (by decide) (by decide), ex 10 _ _ (by decide) (by decide) (by decide) (by decide), ex 10 _ _ (by decide) (by decide) (by decide) (by decide), psum_eq (X := X) (j := j) nl (fun i _ => ex 22 _ _ (by decide) (by decide) (by decide) (by decide)), em 1 (by decide) (by decide), em 10 (by decide) (by decide), em 2 (by decide) (by decide), em 11 (by decide) (by decide), sgT_same (fun k hk => em _ (by unfold iT; omega) (by unfold iT; omega))]
      exact m
    · exact cl_eq h1 b1 (fun f => ex 12 _ _ (by decide) (by decide) (by decide) (by decide)) (fun q q1 q2 => em q (by omega) (by omega))
    · exact vr_eq h2 b2 b1 (fun f => ex 13 _ _ (by decide) (by decide) (by decide) (by decide)) (fun f => ex 14 _ _ (by decide) (by decide) (by decide) (by decide)) (fun q q1 q2 => em q (by omega) (by omega))
    · exact gr_eq h3 b3 (fun f => ex 16 _ _ (by decide) (by decide) (by decide) (by decide)) (fun q q1 q2 => em q (by omega) (by omega))
    · intro k hk
      by_cases d : k = np
      · subst d
        refine ⟨o, v, ho, hv, ⟨?_, ea⟩, ⟨?_, eb⟩, ?_⟩
        · rw [x17, if_pos rfl]
        · rw [x18, if_pos rfl]
        · rw [x19, if_pos rfl, ec]
      · have := h4 k (by omega)
        unfold PR at this ⊢
        rw [x17, if_neg d, x18, if_neg d, x19, if_neg d, ← e0, er (iP k 0) (by unfold iP; omega) (by unfold iP; omega) (by unfold iP; omega) (by unfold iP; omega), er (iP k 1) (by unfold iP; omega) (by unfold iP; omega) (by unfold iP; omega) (by unfold iP; omega), er (iP k 2) (by unfold iP; omega) (by unfold iP; omega) (by unfold iP; omega) (by unfold iP; omega)]
        exact this
    · intro k hk
      obtain ⟨p, w, s, g, t, q1, q2, q3, q4, q5, q6, q7, q8, q9, rest⟩ := h5 k hk
      refine ⟨p, w, s, g, t, by omega, q2, q3, q4, q5, q6, ?_⟩
      rw [x17, x18, if_neg (show ¬ p = np by omega), if_neg (show ¬ p = np by omega)]
      simp only [ex 22 _ _ (by decide) (by decide) (by decide) (by decide)]
      rw [em (iL k 0) (by unfold iL; omega) (by unfold iL; omega), em (iL k 1) (by unfold iL; omega) (by unfold iL; omega), em (iL k 2) (by unfold iL; omega) (by unfold iL; omega), em (iL k 3) (by unfold iL; omega) (by unfold iL; omega), em (iL k 4) (by unfold iL; omega) (by unfold iL; omega), em (iL k 5) (by unfold iL; omega) (by unfold iL; omega)]
      exact ⟨q7, q8, q9, rest⟩
    · exact fun k hk => tr_eq (h6 k hk) (fun f => ex 26 _ _ (by decide) (by decide) (by decide) (by decide)) (fun w hw => em _ (by unfold iT; omega) (by unfold iT; omega))
    · exact fun k hk => or_eq (h7 k hk) (fun f => ex 27 _ _ (by decide) (by decide) (by decide) (by decide)) (fun w hw => em _ (by unfold iB; omega) (by unfold iB; omega))
    · intro k q1 q2
      rw [em _ (by unfold iT; omega) (by unfold iT; omega), em _ (by unfold iT; omega) (by unfold iT; omega)]
      exact h8 k q1 q2
    · exact zv_eq h9 (fun q q1 q2 => em q (by omega) (by omega))
set_option maxRecDepth 20000 in
theorem tankNew_ (h : BRn X j (M.1 M.2.2) nc nv ng np nl nt nb) (hn : nt < 5) {ca : Nat} (hca : ca ≤ 20000) : ∃ X' M', f_X2_addTank X j (nI ca) = some X' ∧ f_X12_layTank M (nI ca) = some M' ∧ UB X M j X' M' ∧ BRn X' j (M'.1 M'.2.2) nc nv ng np nl (nt + 1) nb ∧ (∀ i, X' 22 j i 7 = X 22 j i 7) ∧ M'.1 M.2.2 0 = M.1 M.2.2 0 := by
  have x2 : X 23 j 0 2 = nI nt := h.c.2.2.2.2.2.1.1
  let X' : XT := xs (xs (xs (xs (xs X 26 j nt 1 0) 26 j nt 2 (-1)) 26 j nt 3 0) 26 j nt 0 (nI ca)) 23 j 0 2 (nI (nt + 1))
  let M' : MT := mi (mi (mi M M.2.2 8 (nI (nt + 1))) M.2.2 (iT nt 0) (nI ca)) M.2.2 (iT nt 2) (-1)
  have xt : ∀ k i f, k ≠ 23 → X' k j i f = if k = 26 ∧ i = nt then (if f = 0 then nI ca else if f = 1 then 0 else if f = 2 then -1 else if f = 3 then 0 else X k j i f) else X k j i f := by
    intro k i f hk
    show xs _ _ _ _ _ _ k j i f = _
    rw [xs_o (by omega)]
    by_cases c : k = 26 ∧ i = nt
    · obtain ⟨rfl, rfl⟩ := c
      rw [if_pos (show (26 : Nat) = 26 ∧ i = i from ⟨rfl, rfl⟩)]
      by_cases c0 : f = 0
      · subst c0
        rw [if_pos rfl]
        exact xs_i
      · rw [xs_o (by omega), if_neg c0]
        by_cases c3 : f = 3
        · subst c3
          rw [if_neg (by decide), if_neg (by decide), if_pos rfl]
          exact xs_i
        · rw [xs_o (by omega)]
          by_cases c2 : f = 2
          · subst c2
            rw [if_neg (by decide), if_pos rfl]
            exact xs_i
          · rw [xs_o (by omega)]
            by_cases c1 : f = 1
            · subst c1
              rw [if_pos rfl]
              exact xs_i
            · rw [xs_o (by omega), if_neg c1, if_neg c2, if_neg c3]
    · rw [if_neg c, xs_o (by omega), xs_o (by omega), xs_o (by omega), xs_o (by omega)]
  refine ⟨X', M', ?_, ?_, UB.m (UB.m (UB.m (UB.x (UB.x (UB.x (UB.x (UB.x ub_no (by decide)) (by decide)) (by decide)) (by decide)) (by decide)))), ?_, fun i => by rw [xt 22 i 7 (by decide), if_neg (by omega)], by
    show (mi _ _ _ _).1 M.2.2 0 = _
    rw [mi_o (by unfold iT; omega), mi_o (by unfold iT; omega), mi_o (by decide)]⟩
  · unfold f_X2_addTank f_X9_makeEmpty
    have g : ¬ (nI nt < 0 ∨ 5 ≤ (nI nt).toNatClampNeg) := nI_in hn (by decide)
    have y1 : (xs (xs (xs X 26 j nt 1 0) 26 j nt 2 (-1)) 26 j nt 3 0) 23 j 0 2 = nI nt := by rw [xs_o (by omega), xs_o (by omega), xs_o (by omega)]; exact x2
    have y2 : (xs (xs (xs (xs X 26 j nt 1 0) 26 j nt 2 (-1)) 26 j nt 3 0) 26 j nt 0 (nI ca)) 23 j 0 2 = nI nt := by rw [xs_o (by omega)]; exact y1
    rw [x2, if_neg (show ¬ (5 : Int32) ≤ nI nt from nI_ge (b := 5) hn (by decide)), gd_t g, nI_clamp (by omega), bnd_s, bnd_s, bnd_s, bn1_s, y1, gd_t g, nI_clamp (by omega), bnd_s, y2, show nI nt + 1 = nI (nt + 1) from nI_add nt 1, bnd_s]
  · unfold f_X12_layTank
    rw [h.c.2.2.2.2.2.1.2, show nI nt + 1 = nI (nt + 1) from nI_add nt 1, bnd_s, show f_X12_setTank (mi M M.2.2 8 (nI (nt + 1))) (nI nt) 0 (nI ca) = _ from sT (w := 0) hn (by decide) _, bn1_s, show f_X12_setTank _ (nI nt) 2 (-1) = _ from sT (w := 2) hn (by decide) _, bn1_s]
    rfl
  · have x23 : X' 23 j 0 2 = nI (nt + 1) := xs_i
    have x233 : X' 23 j 0 3 = X 23 j 0 3 := by
      show xs _ _ _ _ _ _ 23 j 0 3 = _
      rw [xs_o (by omega), xs_o (by omega), xs_o (by omega), xs_o (by omega), xs_o (by omega)]
    have er : ∀ q, q ≠ 8 → q ≠ iT nt 0 → q ≠ iT nt 2 → M'.1 M.2.2 q = M.1 M.2.2 q := fun q p1 p2 p3 => by
      show (mi _ _ _ _).1 M.2.2 q = _
      rw [mi_o p3, mi_o p2, mi_o p1]
    have e8 : M'.1 M.2.2 8 = nI (nt + 1) := by
      show (mi _ _ _ _).1 M.2.2 _ = _
      rw [mi_o (by unfold iT; omega), mi_o (by unfold iT; omega), mi_i]
    have ea : M'.1 M.2.2 (iT nt 0) = nI ca := by
      show (mi _ _ _ _).1 M.2.2 _ = _
      rw [mi_o (by unfold iT; omega), mi_i]
    have eb : M'.1 M.2.2 (iT nt 2) = -1 := mi_i
    have hz := h.zt (Nat.le_refl nt) hn
    obtain ⟨⟨b1, b2, b3, b4, b5, b6, b7⟩, hc', m, h1, h2, h3, h4, h5, h6, h7, h8, h9⟩ := h
    show BRn X' j (M'.1 M.2.2) _ _ _ _ _ _ _
    generalize M'.1 M.2.2 = r' at er e8 ea eb ⊢
    generalize X' = Z at *
    have em : ∀ q, q ≠ 8 → (q < 196 ∨ 216 ≤ q) → r' q = M.1 M.2.2 q := fun q p1 p2 => er q p1 (by unfold iT; omega) (by unfold iT; omega)
    have ex : ∀ k i f, k ≠ 23 → k ≠ 26 → Z k j i f = X k j i f := fun k i f a b => by rw [xt k i f a, if_neg (fun q => b q.1)]
    refine ⟨⟨b1, b2, b3, b4, b5, by omega, b7⟩, ?_, ?_, ?_, ?_, ?_, ?_, ?_, ?_, ?_, ?_, ?_⟩
    · rw [ex 11 _ _ (by decide) (by decide), ex 11 _ _ (by decide) (by decide), ex 15 _ _ (by decide) (by decide), ex 15 _ _ (by decide) (by decide), ex 20 _ _ (by decide) (by decide), x23, x233, e8, em 3 (by decide) (by decide), em 4 (by decide) (by decide), em 5 (by decide) (by decide), em 6 (by decide) (by decide), em 7 (by decide) (by decide), em 9 (by decide) (by decide)]
      exact ⟨hc'.1, hc'.2.1, hc'.2.2.1, hc'.2.2.2.1, hc'.2.2.2.2.1, ⟨rfl, rfl⟩, hc'.2.2.2.2.2.2⟩
    · rw [ex 10 _ _ (by decide) (by decide), ex 10 _ _ (by decide) (by decide), ex 10 _ _ (by decide) (by decide), psum_eq (X := X) (j := j) nl (fun i _ => ex 22 _ _ (by decide) (by decide)), em 1 (by decide) (by decide), em 10 (by decide) (by decide), em 2 (by decide) (by decide), em 11 (by decide) (by decide), sgT_same (fun k hk => er _ (by unfold iT; omega) (by unfold iT; omega) (by unfold iT; omega))]
      exact m
    · exact cl_eq h1 b1 (fun f => ex 12 _ _ (by decide) (by decide)) (fun q q1 q2 => em q (by omega) (by omega))
    · exact vr_eq h2 b2 b1 (fun f => ex 13 _ _ (by decide) (by decide)) (fun f => ex 14 _ _ (by decide) (by decide)) (fun q q1 q2 => em q (by omega) (by omega))
    · exact gr_eq h3 b3 (fun f => ex 16 _ _ (by decide) (by decide)) (fun q q1 q2 => em q (by omega) (by omega))
    · exact pr_eq h4 b4 (fun f => ex 17 _ _ (by decide) (by decide)) (fun f => ex 18 _ _ (by decide) (by decide)) (fun f => ex 19 _ _ (by decide) (by decide)) (em 0 (by decide) (by decide)) (fun q q1 q2 => em q (by omega) (by omega))
    · exact fun k hk => (lr_eq (h5 k hk) (fun f => ex 17 _ _ (by decide) (by decide)) (fun f => ex 18 _ _ (by decide) (by decide)) (fun f => ex 22 _ _ (by decide) (by decide)) (fun w hw => em _ (by unfold iL; omega) (by unfold iL; omega))).mono (Nat.le_refl _) (Nat.le_refl _) (by omega)
    · intro k hk
      by_cases d : k = nt
      · subst d
        refine ⟨ca, 0, 0, Nat.zero_le _, hca, by decide, ⟨?_, ea⟩, ⟨?_, ?_⟩, ?_, ⟨?_, ?_⟩, Or.inl ⟨rfl, eb, rfl⟩⟩
        · rw [xt 26 k 0 (by decide), if_pos ⟨rfl, rfl⟩, if_pos rfl]
        · rw [xt 26 k 1 (by decide), if_pos ⟨rfl, rfl⟩, if_neg (by decide), if_pos rfl]; rfl
        · rw [er (iT k 1) (by unfold iT; omega) (by unfold iT; omega) (by unfold iT; omega)]; exact hz.1
        · rw [xt 26 k 2 (by decide), if_pos ⟨rfl, rfl⟩, if_neg (by decide), if_neg (by decide), if_pos rfl, eb]
        · rw [xt 26 k 3 (by decide), if_pos ⟨rfl, rfl⟩, if_neg (by decide), if_neg (by decide), if_neg (by decide), if_pos rfl]; rfl
        · rw [er (iT k 3) (by unfold iT; omega) (by unfold iT; omega) (by unfold iT; omega)]; exact hz.2
      · exact tr_eq (h6 k (by omega)) (fun f => by rw [xt 26 k f (by decide), if_neg (fun q => d q.2)]) (fun w hw => er _ (by unfold iT; omega) (by unfold iT; omega) (by unfold iT; omega))
    · exact fun k hk => or_eq (h7 k hk) (fun f => ex 27 _ _ (by decide) (by decide)) (fun w hw => em _ (by unfold iB; omega) (by unfold iB; omega))
    · intro k q1 q2
      rw [er _ (by unfold iT; omega) (by unfold iT; omega) (by unfold iT; omega), er _ (by unfold iT; omega) (by unfold iT; omega) (by unfold iT; omega)]
      exact h8 k (by omega) q2
    · exact zv_eq h9 (fun q q1 q2 => em q (by omega) (by omega))
end LAY
