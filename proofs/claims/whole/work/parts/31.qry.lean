/-! PURE: questions of a book beside those of a row -/
section QRY
variable {X : XT} {j : Nat} {M : MT} {nc nv ng np nl nt nb : Nat}
/-- a load's fields on both sides -/
theorem BRn.lf (h : BRn X j (M.1 M.2.2) nc nv ng np nl nt nb) {k : Nat} (hk : k < nl) : ∃ p o v w s g t, (p < np ∧ o < ng ∧ v < nv ∧ 1 ≤ w ∧ w ≤ 5000 ∧ s ≤ 250 ∧ g < nc ∧ t < nt) ∧ (X 22 j k 0 = nI p ∧ X 22 j k 1 = nI o ∧ X 22 j k 2 = nI v ∧ X 22 j k 3 = nI w ∧ X 22 j k 4 = nI s ∧ X 22 j k 5 = nI g ∧ X 22 j k 6 = nI t) ∧ (f_X12_ofLoad M (nI k) 0 = some (nI p) ∧ f_X12_ofLoad M (nI k) 1 = some (nI w) ∧ f_X12_ofLoad M (nI k) 2 = some (nI s) ∧ f_X12_ofLoad M (nI k) 3 = some (nI g) ∧ f_X12_ofLoad M (nI k) 4 = some (nI t) ∧ f_X12_varietyOf M (nI k) = some (nI v) ∧ f_X12_growerOf M (nI k) = some (nI o)) ∧ ((X 22 j k 7 = 0 ∧ f_X12_ofLoad M (nI k) 5 = some (-1) ∧ X 22 j k 8 = 0) ∨ (X 22 j k 7 = 1 ∧ ∃ q, q ≤ 4995000 ∧ f_X12_ofLoad M (nI k) 5 = some (nI q) ∧ X 22 j k 8 = nI q)) := by
  obtain ⟨b1, b2, b3, b4, b5, b6, b7⟩ := h.b
  obtain ⟨p, w, s, g, t, hp, hw1, hw2, hs, hg, ht, ⟨x0, r0⟩, x1, x2, ⟨x3, r1⟩, ⟨x4, r2⟩, ⟨x5, r3⟩, ⟨x6, r4⟩, hpaid⟩ := h.l hk
  obtain ⟨o, v, ho, hv, ⟨y0, s0⟩, ⟨y1, s1⟩, -⟩ := h.p hp
  have hk20 : k < 20 := by omega
  have hp8 : p < 8 := by omega
  have L : ∀ w, w < 6 → f_X12_ofLoad M (nI k) (nI w) = some (M.1 M.2.2 (iL k w)) := fun w hw => oL hk20 hw
  have e0 : f_X12_ofLoad M (nI k) 0 = some (nI p) := (L 0 (by decide)).trans (congrArg some r0)
  have P : ∀ w, w < 3 → f_X12_ofPlot M (nI p) (nI w) = some (M.1 M.2.2 (iP p w)) := fun w hw => oP hp8 hw
  have q0 : f_X12_ofPlot M (nI p) 0 = some (nI o) := (P 0 (by decide)).trans (congrArg some s0)
  have q1 : f_X12_ofPlot M (nI p) 1 = some (nI v) := (P 1 (by decide)).trans (congrArg some s1)
  refine ⟨p, o, v, w, s, g, t, ⟨hp, ho, hv, hw1, hw2, hs, hg, ht⟩, ⟨x0, x1.trans y0, x2.trans y1, x3, x4, x5, x6⟩, ⟨e0, (L 1 (by decide)).trans (congrArg some r1), (L 2 (by decide)).trans (congrArg some r2), (L 3 (by decide)).trans (congrArg some r3), (L 4 (by decide)).trans (congrArg some r4), ?_, ?_⟩, ?_⟩
  · unfold f_X12_varietyOf
    rw [e0, bn1_s, q1, bn1_s]
  · unfold f_X12_growerOf
    rw [e0, bn1_s, q0, bn1_s]
  · rcases hpaid with ⟨a, b, c⟩ | ⟨a, q, hq, b, c⟩
    · exact Or.inl ⟨a, (L 5 (by decide)).trans (congrArg some b), c⟩
    · exact Or.inr ⟨a, q, hq, (L 5 (by decide)).trans (congrArg some b), c⟩
/-- the price of a variety and a class -/
theorem BRn.ce (h : BRn X j (M.1 M.2.2) nc nv ng np nl nt nb) {v g : Nat} (hv : v < nv) (hg : g < nc) : ∃ c, c ≤ 999 ∧ X 14 j 0 (v * 4 + g) = nI c ∧ f_X1_centsFor X j (nI v) (nI g) = some (nI c) ∧ f_X12_priceOf M (nI v) (nI g) = some (nI c) := by
  obtain ⟨b1, b2, b3, b4, b5, b6, b7⟩ := h.b
  obtain ⟨c, hc, e1, e2⟩ := (h.v hv).2 g hg
  refine ⟨c, hc, e1, ?_, ?_⟩
  · unfold f_X1_centsFor
    rw [if_neg (nI_pos (by omega)), h.c.2.1.1, if_neg (nI_ge hv (by omega)), if_neg (nI_pos (by omega)), h.c.1.1, if_pos (nI_lt hg (by omega)), bnd_s, show nI v * 4 + nI g = nI (v * 4 + g) by rw [show (4 : Int32) = nI 4 from rfl, pk_mul, nI_add], gd_t (nI_in (by omega) (by decide)), nI_clamp (by omega), e1]
  · rw [oV (by omega) (by omega), e2]
/-- what a load is worth, paid or not -/
def vaL (X : XT) (j k : Nat) : Nat := (X 22 j k 3).toNatClampNeg * (X 14 j 0 ((X 22 j k 2).toNatClampNeg * 4 + (X 22 j k 5).toNatClampNeg)).toNatClampNeg
theorem BRn.va (h : BRn X j (M.1 M.2.2) nc nv ng np nl nt nb) {k : Nat} (hk : k < nl) : vaL X j k ≤ 4995000 ∧ ((X 22 j k 7 = 0 ∧ f_X12_isOpen M (nI k) = some 1 ∧ f_X12_valueNow M (nI k) = some (nI (vaL X j k)) ∧ f_X0_centsOf X j j k = some (nI (vaL X j k)) ∧ X 22 j k 8 = 0 ∧ f_X12_ofLoad M (nI k) 5 = some (-1) ∧ ∃ c, f_X1_centsFor X j (X 22 j k 2) (X 22 j k 5) = some c ∧ X 22 j k 3 * c = nI (vaL X j k)) ∨ (X 22 j k 7 = 1 ∧ f_X12_isOpen M (nI k) = some 0 ∧ ∃ q, q ≤ 4995000 ∧ f_X12_valueNow M (nI k) = some (nI q) ∧ f_X0_centsOf X j j k = some (nI q) ∧ X 22 j k 8 = nI q ∧ f_X12_ofLoad M (nI k) 5 = some (nI q))) := by
  obtain ⟨b1, b2, b3, b4, b5, b6, b7⟩ := h.b
  obtain ⟨p, o, v, w, s, g, t, ⟨hp, ho, hv, hw1, hw2, hs, hg, ht⟩, ⟨x0, x1, x2, x3, x4, x5, x6⟩, ⟨r0, r1, r2, r3, r4, rv, rg⟩, hpaid⟩ := h.lf hk
  obtain ⟨c, hc, ec, e1, e2⟩ := h.ce hv hg
  have ev : vaL X j k = w * c := by
    unfold vaL
    rw [x3, x2, x5, nI_clamp (by omega), nI_clamp (by omega), nI_clamp (by omega), ec, nI_clamp (by omega)]
  have hle : w * c ≤ 4995000 := Nat.le_trans (Nat.mul_le_mul hw2 hc) (by decide)
  refine ⟨by rw [ev]; exact hle, ?_⟩
  rw [ev]
  rcases hpaid with ⟨a1, a2, a3⟩ | ⟨a1, q, hq, a2, a3⟩
  · refine Or.inl ⟨a1, ?_, ?_, ?_, a3, a2, nI c, by rw [x2, x5]; exact e1, by rw [x3]; exact pk_mul w c⟩
    · unfold f_X12_isOpen
      rw [a2, bn1_s, if_pos rfl]
    · unfold f_X12_valueNow f_X12_isOpen
      rw [a2, bn1_s, if_pos rfl, bn1_s, if_neg (by decide), r1, bn1_s, rv, bn1_s, r3, bn1_s, e2, bn1_s, pk_mul]
    · unfold f_X0_centsOf
      rw [if_pos a1, x2, x5, e1, bn1_s, x3, pk_mul]
  · refine Or.inr ⟨a1, ?_, q, hq, ?_, ?_, a3, a2⟩
    · unfold f_X12_isOpen
      rw [a2, bn1_s, if_neg (nI_m1 (by omega))]
    · unfold f_X12_valueNow f_X12_isOpen
      rw [a2, bn1_s, if_neg (nI_m1 (by omega)), bn1_s, if_pos rfl, bn1_s]
    · unfold f_X0_centsOf
      rw [if_neg (by rw [a1]; decide), a3]
/-- the class of a sugar -/
theorem p_grade (h : BRn X j (M.1 M.2.2) nc nv ng np nl nt nb) (v : Int32) : ∀ d k f, k + d = nc → d < f → ∃ r, f_X1_gradeOfSugar_2 X j v f (nI k) = some r ∧ f_X12_gradeOf_2 M v f (nI k) = some r ∧ (r = -1 ∨ ∃ g, g < nc ∧ r = nI g) := by
  obtain ⟨b1, b2, b3, b4, b5, b6, b7⟩ := h.b
  intro d
  induction d with
  | zero =>
    intro k f hk hf
    obtain ⟨f, rfl⟩ := fuel hf
    refine ⟨-1, ?_, ?_, Or.inl rfl⟩
    · rw [f_X1_gradeOfSugar_2, h.c.1.1, if_pos (nI_le (by omega) (by omega))]
    · rw [f_X12_gradeOf_2, h.c.1.2, if_pos (nI_le (by omega) (by omega))]
  | succ d ih =>
    intro k f hk hf
    obtain ⟨f, rfl⟩ := fuel hf
    have hkn : k < nc := by omega
    rw [f_X1_gradeOfSugar_2, h.c.1.1, if_neg (nI_ge hkn (by omega)), gd_t (nI_in (by omega) (by decide)), nI_clamp (by omega), h.cl hkn]
    rw [f_X12_gradeOf_2, h.c.1.2, if_neg (nI_ge hkn (by omega)), bnd_s, show (12 : Int32) + nI k = nI (12 + k) from nI_add 12 k, gd_t (nI_in (by omega) (by decide)), nI_clamp (by omega)]
    by_cases hv : v < M.1 M.2.2 (12 + k)
    · rw [if_pos hv, if_pos hv, nI_1]
      exact ih (k + 1) f (by omega) (by omega)
    · rw [if_neg hv, if_neg hv]
      exact ⟨nI k, rfl, rfl, Or.inr ⟨k, hkn, rfl⟩⟩
theorem BRn.grade (h : BRn X j (M.1 M.2.2) nc nv ng np nl nt nb) (v : Int32) : ∃ r, f_X1_gradeOfSugar X j v = some r ∧ f_X12_gradeOf M v = some r ∧ (r = -1 ∨ ∃ g, g < nc ∧ r = nI g) := p_grade h v nc 0 2000 (by omega) (by have := h.b; omega)
set_option maxRecDepth 20000 in
/-- what a plot has brought -/
theorem p_harvest (h : BRn X j (M.1 M.2.2) nc nv ng np nl nt nb) (v : Int32) : ∀ d k f a, k + d = nl → d < f → a ≤ k * 5000 → ∃ r, r ≤ 100000 ∧ f_X3_weightFromPlot_4 X j v f (nI a) (nI k) = some (nI r) ∧ f_X12_harvestOf_4 M v f (nI a) (nI k) = some (nI r) := by
  obtain ⟨b1, b2, b3, b4, b5, b6, b7⟩ := h.b
  intro d
  induction d with
  | zero =>
    intro k f a hk hf ha
    obtain ⟨f, rfl⟩ := fuel hf
    refine ⟨a, by omega, ?_, ?_⟩
    · rw [f_X3_weightFromPlot_4, h.c.2.2.2.2.1.1, if_pos (nI_le (by omega) (by omega))]
    · rw [f_X12_harvestOf_4, h.c.2.2.2.2.1.2, if_pos (nI_le (by omega) (by omega))]
  | succ d ih =>
    intro k f a hk hf ha
    obtain ⟨f, rfl⟩ := fuel hf
    have hkn : k < nl := by omega
    obtain ⟨p, o, v', w, s, g, t, ⟨hp, ho, hv, hw1, hw2, hs, hg, ht⟩, ⟨x0, x1, x2, x3, x4, x5, x6⟩, ⟨r0, r1, r2, r3, r4, rv, rg⟩, hpaid⟩ := h.lf hkn
    have hg : ¬ (nI k < 0 ∨ 20 ≤ (nI k).toNatClampNeg) := nI_in (by omega) (by decide)
    rw [f_X3_weightFromPlot_4, h.c.2.2.2.2.1.1, if_neg (nI_ge hkn (by omega)), gd_t hg, gd_t hg, nI_clamp (by omega), x0, x3, bnd_s]
    rw [f_X12_harvestOf_4, h.c.2.2.2.2.1.2, if_neg (nI_ge hkn (by omega)), r0, bn1_s, r1, bn1_s, bnd_s, bnd_s, Int32.add_zero]
    by_cases hv : nI p = v
    · rw [if_pos hv, if_pos hv, nI_1, nI_add]
      exact ih (k + 1) f (a + w) (by omega) (by omega) (by omega)
    · rw [if_neg hv, if_neg hv, nI_1]
      exact ih (k + 1) f a (by omega) (by omega) (by omega)
theorem BRn.harvest (h : BRn X j (M.1 M.2.2) nc nv ng np nl nt nb) (v : Int32) : ∃ r, r ≤ 100000 ∧ f_X3_weightFromPlot X j v = some (nI r) ∧ f_X12_harvestOf M v = some (nI r) := p_harvest h v nl 0 2000 0 (by omega) (by have := h.b; omega) (by omega)
theorem BRn.limit (h : BRn X j (M.1 M.2.2) nc nv ng np nl nt nb) {p : Nat} (hp : p < np) : ∃ r, f_X5_limitOf X j (nI p) = some r ∧ f_X12_limitOf M (nI p) = some r := by
  obtain ⟨b1, b2, b3, b4, b5, b6, b7⟩ := h.b
  obtain ⟨o, v, -, -, -, -, e⟩ := h.p hp
  refine ⟨X 19 j 0 p, ?_, ?_⟩
  · unfold f_X5_limitOf
    rw [if_neg (nI_pos (by omega)), h.c.2.2.2.1.1, if_neg (nI_ge hp (by omega)), gd_t (nI_in (by omega) (by decide)), nI_clamp (by omega)]
  · unfold f_X12_limitOf
    have := oP (M := M) (k := p) (w := 2) (by omega) (by decide)
    rw [show (2 : Int32) = nI 2 from rfl, this, bn1_s, e]
/-- the tank for a weight -/
theorem p_tank (h : BRn X j (M.1 M.2.2) nc nv ng np nl nt nb) {v : Nat} (hv : v < 4) (w : Int32) : ∀ d k f, k + d = nt → d < f → ∃ r1 r2, f_X12_firstTank_2 M (nI v) w f (nI k) = some r1 ∧ f_X12_firstTank_2 M (-1) w f (nI k) = some r2 ∧ (r1 = -1 ∨ ∃ t, t < nt ∧ r1 = nI t) ∧ (r2 = -1 ∨ ∃ t, t < nt ∧ r2 = nI t) ∧ ∀ e, f_X2_chooseTank_5 X j (nI v) w f e (nI k) = some (if r1 = -1 then (if e = -1 then r2 else e) else r1) := by
  obtain ⟨b1, b2, b3, b4, b5, b6, b7⟩ := h.b
  intro d
  induction d with
  | zero =>
    intro k f hk hf
    obtain ⟨f, rfl⟩ := fuel hf
    have hle : nI nt ≤ nI k := nI_le (by omega) (by omega)
    refine ⟨-1, -1, ?_, ?_, Or.inl rfl, Or.inl rfl, fun e => ?_⟩
    · rw [f_X12_firstTank_2, h.c.2.2.2.2.2.1.2, if_pos hle]
    · rw [f_X12_firstTank_2, h.c.2.2.2.2.2.1.2, if_pos hle]
    · rw [f_X2_chooseTank_5, h.c.2.2.2.2.2.1.1, if_pos hle, if_pos rfl]
      by_cases he : e = -1
      · rw [if_pos he, he]
      · rw [if_neg he]
  | succ d ih =>
    intro k f hk hf
    obtain ⟨f, rfl⟩ := fuel hf
    have hkn : k < nt := by omega
    obtain ⟨ca, co, sg, hco, hca, hsg, ⟨x0, r0⟩, ⟨x1, r1⟩, x2, ⟨x3, r3⟩, hvar⟩ := h.t hkn
    have T : ∀ w, w < 4 → f_X12_ofTank M (nI k) (nI w) = some (M.1 M.2.2 (iT k w)) := fun w hw => oT (by omega) hw
    have t0 : f_X12_ofTank M (nI k) 0 = some (nI ca) := (T 0 (by decide)).trans (congrArg some r0)
    have t1 : f_X12_ofTank M (nI k) 1 = some (nI co) := (T 1 (by decide)).trans (congrArg some r1)
    have t2 : f_X12_ofTank M (nI k) 2 = some (M.1 M.2.2 (iT k 2)) := T 2 (by decide)
    have hge := nI_ge hkn (show nt < 2 ^ 31 by omega)
    have hg : ¬ (nI k < 0 ∨ 5 ≤ (nI k).toNatClampNeg) := nI_in (by omega) (by decide)
    have hm1 : ¬ nI k = -1 := nI_m1 (by omega)
    obtain ⟨r1', r2', i1, i2, i3, i4, i5⟩ := ih (k + 1) f (by omega) (by omega)
    have E1 : ∀ u : Int32, f_X12_firstTank_2 M u w (f + 1) (nI k) = if M.1 M.2.2 (iT k 2) = u then (if nI ca - nI co < w then f_X12_firstTank_2 M u w f (nI (k + 1)) else some (nI k)) else f_X12_firstTank_2 M u w f (nI (k + 1)) := by
      intro u
      rw [f_X12_firstTank_2, h.c.2.2.2.2.2.1.2, if_neg hge, t2, bn1_s, nI_1]
      unfold f_X12_roomIn
      rw [t0, t1, bn1_s, bn1_s, bn1_s]
    have E2 : ∀ e : Int32, f_X2_chooseTank_5 X j (nI v) w (f + 1) e (nI k) = if nI ca - nI co < w then f_X2_chooseTank_5 X j (nI v) w f e (nI (k + 1)) else (if co = 0 then (if e = -1 then f_X2_chooseTank_5 X j (nI v) w f (nI k) (nI (k + 1)) else f_X2_chooseTank_5 X j (nI v) w f e (nI (k + 1))) else (if M.1 M.2.2 (iT k 2) = nI v then some (nI k) else f_X2_chooseTank_5 X j (nI v) w f e (nI (k + 1)))) := by
      intro e
      rw [f_X2_chooseTank_5, h.c.2.2.2.2.2.1.1, if_neg hge, gd_t hg, nI_clamp (by omega), nI_1]
      unfold f_X9_room f_X9_holds
      rw [x0, x1, x2, bn1_s]
      by_cases c1 : nI ca - nI co < w
      · rw [if_pos c1, if_pos c1]
      · rw [if_neg c1, if_neg c1]
        by_cases c0 : co = 0
        · subst c0
          rw [if_pos (show nI 0 ≤ 0 by decide), bn1_s, if_pos rfl, if_pos (show nI 0 = 0 from rfl), if_pos rfl]
        · rw [if_neg (nI_nle (by omega) (by omega)), if_neg c0]
          by_cases c2 : M.1 M.2.2 (iT k 2) = nI v
          · rw [if_pos c2, if_pos c2, bn1_s, if_neg (by decide)]
          · rw [if_neg c2, if_neg c2, bn1_s, if_pos rfl, if_neg (nI_ne0 (by omega) (by omega))]
    rw [E1, E1]
    rcases hvar with ⟨c0, hvm, -⟩ | ⟨c0, u, hu, hvm⟩
    · rw [hvm] at E2 ⊢
      rw [if_neg (fun q => nI_m1 (k := v) (by omega) q.symm), if_pos rfl]
      by_cases c1 : nI ca - nI co < w
      · rw [if_pos c1]
        refine ⟨r1', r2', i1, i2, i3, i4, fun e => ?_⟩
        rw [E2, if_pos c1]
        exact i5 e
      · rw [if_neg c1]
        refine ⟨r1', nI k, i1, rfl, i3, Or.inr ⟨k, hkn, rfl⟩, fun e => ?_⟩
        rw [E2, if_neg c1, if_pos c0]
        by_cases he : e = -1
        · rw [if_pos he, i5, if_neg hm1]
          by_cases q1 : r1' = -1
          · rw [if_pos q1, if_pos q1, if_pos he]
          · rw [if_neg q1, if_neg q1]
        · rw [if_neg he, i5, if_neg he, if_neg he]
    · rw [hvm] at E2 ⊢
      rw [if_neg (nI_m1 (k := u) (by omega))]
      by_cases cu : nI u = nI v
      · rw [if_pos cu]
        by_cases c1 : nI ca - nI co < w
        · rw [if_pos c1]
          refine ⟨r1', r2', i1, i2, i3, i4, fun e => ?_⟩
          rw [E2, if_pos c1]
          exact i5 e
        · rw [if_neg c1]
          refine ⟨nI k, r2', rfl, i2, Or.inr ⟨k, hkn, rfl⟩, i4, fun e => ?_⟩
          rw [E2, if_neg c1, if_neg (by omega), if_pos cu, if_neg hm1]
      · rw [if_neg cu]
        refine ⟨r1', r2', i1, i2, i3, i4, fun e => ?_⟩
        rw [E2]
        by_cases c1 : nI ca - nI co < w
        · rw [if_pos c1]
          exact i5 e
        · rw [if_neg c1, if_neg (by omega), if_neg cu]
          exact i5 e
theorem BRn.tank (h : BRn X j (M.1 M.2.2) nc nv ng np nl nt nb) {v : Nat} (hv : v < nv) (w : Int32) : ∃ r, f_X2_chooseTank X j (nI v) w = some r ∧ f_X12_tankOf M (nI v) w = some r ∧ (r = -1 ∨ ∃ t, t < nt ∧ r = nI t) := by
  obtain ⟨r1, r2, i1, i2, i3, i4, i5⟩ := p_tank h (v := v) (by have := h.b; omega) w nt 0 2000 (by omega) (by have := h.b; omega)
  have i5 := i5 (-1)
  rw [if_pos rfl] at i5
  refine ⟨_, i5, ?_, ?_⟩
  · unfold f_X12_tankOf f_X12_firstTank
    rw [show f_X12_firstTank_2 M (nI v) w 2000 0 = some r1 from i1, bn1_s, show f_X12_firstTank_2 M (-1) w 2000 0 = some r2 from i2, bn1_s]
    by_cases q : r1 = -1
    · rw [if_pos q, if_pos q]
    · rw [if_neg q, if_neg q]
  · by_cases q : r1 = -1
    · rw [if_pos q]
      exact i4
    · rw [if_neg q]
      exact i3
end QRY
