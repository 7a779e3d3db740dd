/-! PURE: more questions: sums over the loads, pairs, ranks -/
def unS (X : XT) (j : Nat) (v : Int32) : Nat → Nat → Nat | 0, _ => 0 | d + 1, k => (if X 22 j k 1 = v ∧ X 22 j k 7 = 0 then vaL X j k else 0) + unS X j v d (k + 1)
def unC (X : XT) (j : Nat) (v : Int32) : Nat → Nat → Nat | 0, _ => 0 | d + 1, k => (if X 22 j k 1 = v ∧ X 22 j k 7 = 0 then 1 else 0) + unC X j v d (k + 1)
def nwP (X : XT) (j k : Nat) : Nat → Nat → Bool | 0, _ => true | d + 1, i => !(decide (X 22 j i 2 = X 22 j k 2 ∧ X 22 j i 5 = X 22 j k 5)) && nwP X j k d (i + 1)
def cnP (X : XT) (j : Nat) : Nat → Nat | 0 => 0 | k + 1 => cnP X j k + (if nwP X j k k 0 then 1 else 0)
def prk (X : XT) (j : Nat) (v : Int32) : Nat → Nat → Int32 | 0, _ => -1 | d + 1, k => if nwP X j k k 0 = true ∧ nI (cnP X j k) = v then 10 * X 22 j k 2 + X 22 j k 5 else prk X j v d (k + 1)
set_option maxRecDepth 20000 in
theorem cnP_le (X : XT) (j : Nat) : ∀ k, cnP X j k ≤ k := by
  intro k
  induction k with
  | zero => exact Nat.le_refl _
  | succ k ih => rw [cnP]; split <;> omega
set_option maxRecDepth 20000 in
theorem cnP_mono (X : XT) (j : Nat) : ∀ d k, cnP X j k ≤ cnP X j (k + d) := by
  intro d
  induction d with
  | zero => intro k; exact Nat.le_refl _
  | succ d ih => intro k; rw [show k + (d + 1) = (k + d) + 1 by omega, cnP]; have := ih k; split <;> omega
section QR2
variable {X : XT} {j : Nat} {M : MT} {nc nv ng np nl nt nb : Nat}
set_option maxRecDepth 20000 in
theorem p_open (h : BRn X j (M.1 M.2.2) nc nv ng np nl nt nb) (v : Int32) : ∀ d k f a, k + d = nl → d < f → unS X j v d k ≤ d * 4995000 ∧ f_X0_unpaidTo_4 X j v f (nI a) (nI k) = some (nI (a + unS X j v d k)) ∧ f_X12_openOf_4 M v f (nI a) (nI k) = some (nI (a + unS X j v d k)) := by
  obtain ⟨b1, b2, b3, b4, b5, b6, b7⟩ := h.b
  intro d
  induction d with
  | zero =>
    intro k f a hk hf
    obtain ⟨f, rfl⟩ := fuel hf
    refine ⟨Nat.le_refl _, ?_, ?_⟩
    · rw [f_X0_unpaidTo_4, h.c.2.2.2.2.1.1, if_pos (nI_le (by omega) (by omega))]; rfl
    · rw [f_X12_openOf_4, h.c.2.2.2.2.1.2, if_pos (nI_le (by omega) (by omega))]; rfl
  | succ d ih =>
    intro k f a hk hf
    obtain ⟨f, rfl⟩ := fuel hf
    have hkn : k < nl := by omega
    obtain ⟨p, o, v', w, s, g, t, -, ⟨x0, x1, x2, x3, x4, x5, x6⟩, ⟨r0, r1, r2, r3, r4, rv, rg⟩, -⟩ := h.lf hkn
    obtain ⟨hva, hpaid⟩ := h.va hkn
    have hg : ¬ (nI k < 0 ∨ 20 ≤ (nI k).toNatClampNeg) := nI_in (by omega) (by decide)
    rw [f_X0_unpaidTo_4, h.c.2.2.2.2.1.1, if_neg (nI_ge hkn (by omega)), gd_t hg, nI_clamp (by omega), f_X6_isUnpaidOf]
    rw [f_X12_openOf_4, h.c.2.2.2.2.1.2, if_neg (nI_ge hkn (by omega)), rg, bn1_s, x1, nI_1]
    by_cases hv : nI o = v
    · rw [if_pos hv, if_pos hv]
      rcases hpaid with ⟨a1, a2, a3, a4, a5, a6, c, e1, e2⟩ | ⟨a1, a2, q, hq, a3, a4, a5, a6⟩
      · obtain ⟨i1, i2, i3⟩ := ih (k + 1) f (a + vaL X j k) (by omega) (by omega)
        have eS : unS X j v (d + 1) k = vaL X j k + unS X j v d (k + 1) := by rw [unS, if_pos ⟨x1.trans hv, a1⟩]
        rw [if_pos a1, bn1_s, if_neg (by decide), e1, bn1_s, bnd_s, e2, nI_add, a2, bn1_s, if_neg (by decide), a3, bn1_s, bnd_s, nI_add, eS, ← Nat.add_assoc]
        exact ⟨by omega, i2, i3⟩
      · obtain ⟨i1, i2, i3⟩ := ih (k + 1) f a (by omega) (by omega)
        have eS : unS X j v (d + 1) k = unS X j v d (k + 1) := by rw [unS, if_neg (fun q => absurd (a1.symm.trans q.2) (by decide)), Nat.zero_add]
        rw [if_neg (show ¬ X 22 j k 7 = 0 from fun q => absurd (a1.symm.trans q) (by decide)), bn1_s, if_pos rfl, a2, bn1_s, if_pos rfl, bnd_s, Int32.add_zero, eS]
        exact ⟨Nat.le_trans i1 (Nat.mul_le_mul_right _ (Nat.le_succ d)), i2, i3⟩
    · obtain ⟨i1, i2, i3⟩ := ih (k + 1) f a (by omega) (by omega)
      have eS : unS X j v (d + 1) k = unS X j v d (k + 1) := by rw [unS, if_neg (fun q => hv (x1.symm.trans q.1)), Nat.zero_add]
      rw [if_neg hv, bn1_s, if_pos rfl, if_neg hv, bnd_s, Int32.add_zero, eS]
      exact ⟨Nat.le_trans i1 (Nat.mul_le_mul_right _ (Nat.le_succ d)), i2, i3⟩
set_option maxRecDepth 20000 in
theorem BRn.open_ (h : BRn X j (M.1 M.2.2) nc nv ng np nl nt nb) (v : Int32) : unS X j v nl 0 ≤ 99900000 ∧ f_X0_unpaidTo X j v = some (nI (unS X j v nl 0)) ∧ f_X12_openOf M v = some (nI (unS X j v nl 0)) := by
  have := h.b
  obtain ⟨i1, i2, i3⟩ := p_open h v nl 0 2000 0 (by omega) (by omega)
  rw [Nat.zero_add] at i2 i3
  exact ⟨by omega, i2, i3⟩
set_option maxRecDepth 20000 in
theorem p_unp (h : BRn X j (M.1 M.2.2) nc nv ng np nl nt nb) (v : Int32) : ∀ d k f a, k + d = nl → d < f → unC X j v d k ≤ d ∧ f_X12_openLoads_4 M v f (nI a) (nI k) = some (nI (a + unC X j v d k)) ∧ f_X3_hasUnpaidOf_2 X j v f (nI k) = some (if unC X j v d k = 0 then 0 else 1) := by
  obtain ⟨b1, b2, b3, b4, b5, b6, b7⟩ := h.b
  intro d
  induction d with
  | zero =>
    intro k f a hk hf
    obtain ⟨f, rfl⟩ := fuel hf
    refine ⟨Nat.le_refl _, ?_, ?_⟩
    · rw [f_X12_openLoads_4, h.c.2.2.2.2.1.2, if_pos (nI_le (by omega) (by omega))]; rfl
    · rw [f_X3_hasUnpaidOf_2, h.c.2.2.2.2.1.1, if_pos (nI_le (by omega) (by omega))]; rfl
  | succ d ih =>
    intro k f a hk hf
    obtain ⟨f, rfl⟩ := fuel hf
    have hkn : k < nl := by omega
    obtain ⟨p, o, v', w, s, g, t, -, ⟨x0, x1, x2, x3, x4, x5, x6⟩, ⟨r0, r1, r2, r3, r4, rv, rg⟩, -⟩ := h.lf hkn
    obtain ⟨hva, hpaid⟩ := h.va hkn
    have hg : ¬ (nI k < 0 ∨ 20 ≤ (nI k).toNatClampNeg) := nI_in (by omega) (by decide)
    rw [f_X3_hasUnpaidOf_2, h.c.2.2.2.2.1.1, if_neg (nI_ge hkn (by omega)), gd_t hg, nI_clamp (by omega), f_X6_isUnpaidOf]
    rw [f_X12_openLoads_4, h.c.2.2.2.2.1.2, if_neg (nI_ge hkn (by omega)), rg, bn1_s, x1, nI_1]
    by_cases hv : nI o = v
    · rw [if_pos hv, if_pos hv]
      rcases hpaid with ⟨a1, a2, -⟩ | ⟨a1, a2, -⟩
      · obtain ⟨i1, i2, i3⟩ := ih (k + 1) f (a + 1) (by omega) (by omega)
        have eS : unC X j v (d + 1) k = 1 + unC X j v d (k + 1) := by rw [unC, if_pos ⟨x1.trans hv, a1⟩]
        rw [if_pos a1, bn1_s, if_neg (show ¬ (1 : Int32) = 0 by decide), a2, bn1_s, if_neg (show ¬ (1 : Int32) = 0 by decide), bnd_s, nI_1, eS, ← Nat.add_assoc, if_neg (show ¬ 1 + unC X j v d (k + 1) = 0 by omega)]
        exact ⟨by omega, i2, rfl⟩
      · obtain ⟨i1, i2, i3⟩ := ih (k + 1) f a (by omega) (by omega)
        have eS : unC X j v (d + 1) k = unC X j v d (k + 1) := by rw [unC, if_neg (fun q => absurd (a1.symm.trans q.2) (by decide)), Nat.zero_add]
        rw [if_neg (show ¬ X 22 j k 7 = 0 from fun q => absurd (a1.symm.trans q) (by decide)), bn1_s, if_pos (show (0 : Int32) = 0 from rfl), a2, bn1_s, if_pos (show (0 : Int32) = 0 from rfl), bnd_s, Int32.add_zero, eS]
        exact ⟨by omega, i2, i3⟩
    · obtain ⟨i1, i2, i3⟩ := ih (k + 1) f a (by omega) (by omega)
      have eS : unC X j v (d + 1) k = unC X j v d (k + 1) := by rw [unC, if_neg (fun q => hv (x1.symm.trans q.1)), Nat.zero_add]
      rw [if_neg hv, if_neg hv, bn1_s, if_pos (show (0 : Int32) = 0 from rfl), bnd_s, Int32.add_zero, eS]
      exact ⟨by omega, i2, i3⟩
set_option maxRecDepth 20000 in
theorem BRn.unp (h : BRn X j (M.1 M.2.2) nc nv ng np nl nt nb) (v : Int32) : unC X j v nl 0 ≤ 20 ∧ f_X12_openLoads M v = some (nI (unC X j v nl 0)) ∧ f_X3_hasUnpaidOf X j v = some (if unC X j v nl 0 = 0 then 0 else 1) := by
  have := h.b
  obtain ⟨i1, i2, i3⟩ := p_unp h v nl 0 2000 0 (by omega) (by omega)
  rw [Nat.zero_add] at i2
  exact ⟨by omega, i2, i3⟩
set_option maxRecDepth 20000 in
theorem BRn.maySettle (h : BRn X j (M.1 M.2.2) nc nv ng np nl nt nb) (v : Int32) : ∃ r : Int32, f_X0_canSettleAll X j v = some r ∧ f_X12_mayPayGrower M v = some r ∧ (r = 0 ∨ (r = 1 ∧ ¬ M.1 M.2.2 2 < nI (unS X j v nl 0))) := by
  obtain ⟨i1, i2, i3⟩ := h.open_ v
  obtain ⟨k1, k2, k3⟩ := h.unp v
  unfold f_X0_canSettleAll f_X12_mayPayGrower
  rw [k3, bn1_s, k2, bn1_s]
  by_cases q : unC X j v nl 0 = 0
  · rw [if_pos q, if_pos rfl, if_pos (by rw [q]; decide)]
    exact ⟨0, rfl, rfl, Or.inl rfl⟩
  · rw [if_neg q, if_neg (by decide), if_neg (nI_nle (by omega) (by omega)), i2, bn1_s, i3, bn1_s, h.m.2.2.1]
    by_cases c : M.1 M.2.2 2 < nI (unS X j v nl 0)
    · rw [if_pos c]
      exact ⟨0, rfl, rfl, Or.inl rfl⟩
    · rw [if_neg c]
      exact ⟨1, rfl, rfl, Or.inr ⟨rfl, c⟩⟩
set_option maxRecDepth 20000 in
theorem p_paid (h : BRn X j (M.1 M.2.2) nc nv ng np nl nt nb) (hM : M.2.2 = 1) (v : Int32) : ∀ d k f a, k + d = nl → d < f → ∃ r, f_X3_paymentsTo_4 X j v f a (nI k) = some r ∧ f_X12_paidTo_18 v f M a (nI k) = some (r, M) := by
  obtain ⟨b1, b2, b3, b4, b5, b6, b7⟩ := h.b
  have c7 : M.1 1 7 = nI nl := by have := h.c.2.2.2.2.1.2; rw [hM] at this; exact this
  intro d
  induction d with
  | zero =>
    intro k f a hk hf
    obtain ⟨f, rfl⟩ := fuel hf
    refine ⟨a, ?_, ?_⟩
    · rw [f_X3_paymentsTo_4, h.c.2.2.2.2.1.1, if_pos (nI_le (by omega) (by omega))]
    · rw [f_X12_paidTo_18, c7, if_pos (nI_le (by omega) (by omega))]
  | succ d ih =>
    intro k f a hk hf
    obtain ⟨f, rfl⟩ := fuel hf
    have hkn : k < nl := by omega
    obtain ⟨p, o, v', w, s, g, t, -, ⟨x0, x1, x2, x3, x4, x5, x6⟩, ⟨r0, r1, r2, r3, r4, rv, rg⟩, -⟩ := h.lf hkn
    obtain ⟨hva, hpaid⟩ := h.va hkn
    have hg : ¬ (nI k < 0 ∨ 20 ≤ (nI k).toNatClampNeg) := nI_in (by omega) (by decide)
    rw [f_X3_paymentsTo_4, h.c.2.2.2.2.1.1, if_neg (nI_ge hkn (by omega)), gd_t hg, gd_t hg, nI_clamp (by omega), bnd_s, x1, nI_1]
    rw [f_X12_paidTo_18, c7, if_neg (nI_ge hkn (by omega)), rg, bn1_s, nI_1]
    by_cases hv : nI o = v
    · rw [if_pos hv, if_pos hv]
      rcases hpaid with ⟨a1, a2, a3, a4, a5, a6, -⟩ | ⟨a1, a2, q, hq, a3, a4, a5, a6⟩
      · rw [a2, bn1_s, if_neg (by decide), bnd_s, a5]
        exact ih (k + 1) f _ (by omega) (by omega)
      · rw [a2, bn1_s, if_pos rfl, a6, bn1_s, bnd_s, a5]
        exact ih (k + 1) f _ (by omega) (by omega)
    · rw [if_neg hv, if_neg hv, bnd_s, Int32.add_zero]
      exact ih (k + 1) f _ (by omega) (by omega)
set_option maxRecDepth 20000 in
theorem p_wpair (h : BRn X j (M.1 M.2.2) nc nv ng np nl nt nb) (hM : M.2.2 = 1) (v1 v2 : Int32) : ∀ d k f a, k + d = nl → d < f → ∃ r, f_X3_weightOfPair_5 X j v1 v2 f a (nI k) = some r ∧ f_X12_weightBy_5 M v1 v2 f a (nI k) = some r := by
  obtain ⟨b1, b2, b3, b4, b5, b6, b7⟩ := h.b
  have c7 : M.1 1 7 = nI nl := by have := h.c.2.2.2.2.1.2; rw [hM] at this; exact this
  intro d
  induction d with
  | zero =>
    intro k f a hk hf
    obtain ⟨f, rfl⟩ := fuel hf
    refine ⟨a, ?_, ?_⟩
    · rw [f_X3_weightOfPair_5, h.c.2.2.2.2.1.1, if_pos (nI_le (by omega) (by omega))]
    · rw [f_X12_weightBy_5, c7, if_pos (nI_le (by omega) (by omega))]
  | succ d ih =>
    intro k f a hk hf
    obtain ⟨f, rfl⟩ := fuel hf
    have hkn : k < nl := by omega
    obtain ⟨p, o, v', w, s, g, t, -, ⟨x0, x1, x2, x3, x4, x5, x6⟩, ⟨r0, r1, r2, r3, r4, rv, rg⟩, -⟩ := h.lf hkn
    have hg : ¬ (nI k < 0 ∨ 20 ≤ (nI k).toNatClampNeg) := nI_in (by omega) (by decide)
    rw [f_X3_weightOfPair_5, h.c.2.2.2.2.1.1, if_neg (nI_ge hkn (by omega)), gd_t hg, gd_t hg, nI_clamp (by omega), bnd_s, f_X6_isOfPair, x2, x5, x3, nI_1]
    rw [f_X12_weightBy_5, c7, if_neg (nI_ge hkn (by omega)), rv, bn1_s, r3, bn1_s, nI_1]
    by_cases hv : nI v' = v1
    · rw [if_pos hv, if_pos hv]
      by_cases hg : nI g = v2
      · rw [if_pos hg, if_pos hg, bn1_s, if_neg (by decide), r1, bn1_s, bnd_s]
        exact ih (k + 1) f _ (by omega) (by omega)
      · rw [if_neg hg, if_neg hg, bn1_s, if_pos rfl, bnd_s, Int32.add_zero]
        exact ih (k + 1) f _ (by omega) (by omega)
    · rw [if_neg hv, if_neg hv, bn1_s, if_pos rfl, bnd_s, Int32.add_zero]
      exact ih (k + 1) f _ (by omega) (by omega)
set_option maxRecDepth 20000 in
theorem BRn.wpair (h : BRn X j (M.1 M.2.2) nc nv ng np nl nt nb) (hM : M.2.2 = 1) (v1 v2 : Int32) : ∃ r, f_X3_weightOfPair X j v1 v2 = some r ∧ f_X12_weightBy M v1 v2 = some r := p_wpair h hM v1 v2 nl 0 2000 0 (by omega) (by have := h.b; omega)
set_option maxRecDepth 20000 in
theorem p_wgrow (h : BRn X j (M.1 M.2.2) nc nv ng np nl nt nb) (hM : M.2.2 = 1) (v : Int32) : ∀ d k f a, k + d = nl → d < f → a ≤ k * 5000 → ∃ r, r ≤ 100000 ∧ f_X3_weightFromGrower_4 X j v f (nI a) (nI k) = some (nI r) ∧ f_X12_weightFrom_4 M v f (nI a) (nI k) = some (nI r) := by
  obtain ⟨b1, b2, b3, b4, b5, b6, b7⟩ := h.b
  have c7 : M.1 1 7 = nI nl := by have := h.c.2.2.2.2.1.2; rw [hM] at this; exact this
  intro d
  induction d with
  | zero =>
    intro k f a hk hf ha
    obtain ⟨f, rfl⟩ := fuel hf
    refine ⟨a, by omega, ?_, ?_⟩
    · rw [f_X3_weightFromGrower_4, h.c.2.2.2.2.1.1, if_pos (nI_le (by omega) (by omega))]
    · rw [f_X12_weightFrom_4, c7, if_pos (nI_le (by omega) (by omega))]
  | succ d ih =>
    intro k f a hk hf ha
    obtain ⟨f, rfl⟩ := fuel hf
    have hkn : k < nl := by omega
    obtain ⟨p, o, v', w, s, g, t, ⟨hp, ho, hv, hw1, hw2, hs, hg, ht⟩, ⟨x0, x1, x2, x3, x4, x5, x6⟩, ⟨r0, r1, r2, r3, r4, rv, rg⟩, -⟩ := h.lf hkn
    have hg : ¬ (nI k < 0 ∨ 20 ≤ (nI k).toNatClampNeg) := nI_in (by omega) (by decide)
    rw [f_X3_weightFromGrower_4, h.c.2.2.2.2.1.1, if_neg (nI_ge hkn (by omega)), gd_t hg, gd_t hg, nI_clamp (by omega), bnd_s, x1, x3, nI_1, nI_add]
    rw [f_X12_weightFrom_4, c7, if_neg (nI_ge hkn (by omega)), rg, bn1_s, r1, bn1_s, bnd_s, bnd_s, nI_1, nI_add, Int32.add_zero]
    by_cases hv : nI o = v
    · rw [if_pos hv, if_pos hv]
      exact ih (k + 1) f _ (by omega) (by omega) (by omega)
    · rw [if_neg hv, if_neg hv]
      exact ih (k + 1) f _ (by omega) (by omega) (by omega)
set_option maxRecDepth 20000 in
theorem BRn.wgrow (h : BRn X j (M.1 M.2.2) nc nv ng np nl nt nb) (hM : M.2.2 = 1) (v : Int32) : ∃ r, r ≤ 100000 ∧ f_X3_weightFromGrower X j v = some (nI r) ∧ f_X12_weightFrom M v = some (nI r) := p_wgrow h hM v nl 0 2000 0 (by omega) (by have := h.b; omega) (by omega)
set_option maxRecDepth 20000 in
theorem p_plots (h : BRn X j (M.1 M.2.2) nc nv ng np nl nt nb) (hM : M.2.2 = 1) (v : Int32) : ∀ d k f a, k + d = np → d < f → ∃ r, f_X5_countPlotsOf_4 X j v f a (nI k) = some r ∧ f_X12_plotsOf_18 v f M a (nI k) = some (r, M) := by
  obtain ⟨b1, b2, b3, b4, b5, b6, b7⟩ := h.b
  have c6 : M.1 1 6 = nI np := by have := h.c.2.2.2.1.2; rw [hM] at this; exact this
  intro d
  induction d with
  | zero =>
    intro k f a hk hf
    obtain ⟨f, rfl⟩ := fuel hf
    refine ⟨a, ?_, ?_⟩
    · rw [f_X5_countPlotsOf_4, h.c.2.2.2.1.1, if_pos (nI_le (by omega) (by omega))]
    · rw [f_X12_plotsOf_18, c6, if_pos (nI_le (by omega) (by omega))]
  | succ d ih =>
    intro k f a hk hf
    obtain ⟨f, rfl⟩ := fuel hf
    have hkn : k < np := by omega
    obtain ⟨o, v', -, -, ⟨x0, r0⟩, -⟩ := h.p hkn
    have hp0 : f_X12_ofPlot M (nI k) 0 = some (nI o) := (oP (M := M) (k := k) (w := 0) (by omega) (by decide)).trans (congrArg some r0)
    have hg : ¬ (nI k < 0 ∨ 8 ≤ (nI k).toNatClampNeg) := nI_in (by omega) (by decide)
    rw [f_X5_countPlotsOf_4, h.c.2.2.2.1.1, if_neg (nI_ge hkn (by omega)), gd_t hg, nI_clamp (by omega), x0, nI_1]
    rw [f_X12_plotsOf_18, c6, if_neg (nI_ge hkn (by omega)), hp0, bn1_s, bnd_s, bnd_s, Int32.add_zero, nI_1]
    by_cases hv : nI o = v
    · rw [if_pos hv, if_pos hv]
      exact ih (k + 1) f _ (by omega) (by omega)
    · rw [if_neg hv, if_neg hv]
      exact ih (k + 1) f _ (by omega) (by omega)
-- pairs of a variety and a class
set_option maxRecDepth 20000 in
theorem BRn.pair (h : BRn X j (M.1 M.2.2) nc nv ng np nl nt nb) {k : Nat} (hk : k < nl) : ∃ v g, v < 4 ∧ g < 4 ∧ X 22 j k 2 = nI v ∧ X 22 j k 5 = nI g ∧ f_X12_pairOf M (nI k) = some (nI (10 * v + g)) ∧ f_X6_pairCode X j k = some (nI (10 * v + g)) ∧ 10 * X 22 j k 2 + X 22 j k 5 = nI (10 * v + g) := by
  obtain ⟨b1, b2, b3, b4, b5, b6, b7⟩ := h.b
  obtain ⟨p, o, v, w, s, g, t, ⟨hp, ho, hv, hw1, hw2, hs, hg, ht⟩, ⟨x0, x1, x2, x3, x4, x5, x6⟩, ⟨r0, r1, r2, r3, r4, rv, rg⟩, -⟩ := h.lf hk
  have e : (10 : Int32) * nI v + nI g = nI (10 * v + g) := by rw [show (10 : Int32) = nI 10 from rfl, pk_mul, nI_add]
  refine ⟨v, g, by omega, by omega, x2, x5, ?_, ?_, ?_⟩
  · unfold f_X12_pairOf
    rw [rv, bn1_s, r3, bn1_s, e]
  · unfold f_X6_pairCode
    rw [x2, x5, e]
  · rw [x2, x5, e]
set_option maxRecDepth 20000 in
theorem p_new (h : BRn X j (M.1 M.2.2) nc nv ng np nl nt nb) {k : Nat} (hk : k < nl) : ∀ d i f, i + d = k → d < f → f_X3_isNewPair_2 X j j k (nI k) f (nI i) = some (if nwP X j k d i then 1 else 0) ∧ f_X12_isFirst_4 M (nI k) f 0 (nI i) = some 0 ∧ f_X12_isFirst_4 M (nI k) f 1 (nI i) = some (if nwP X j k d i then 1 else 0) := by
  obtain ⟨b1, b2, b3, b4, b5, b6, b7⟩ := h.b
  obtain ⟨v, g, hv, hg, x2, x5, pk, -, -⟩ := h.pair hk
  intro d
  induction d with
  | zero =>
    intro i f hi hf
    obtain ⟨f, rfl⟩ := fuel hf
    have hle : nI k ≤ nI i := nI_le (by omega) (by omega)
    refine ⟨?_, ?_, ?_⟩
    · rw [f_X3_isNewPair_2, if_pos hle]; rfl
    · rw [f_X12_isFirst_4, if_pos hle, gd_t (by decide)]
    · rw [f_X12_isFirst_4, if_pos hle, gd_t (by decide)]; rfl
  | succ d ih =>
    intro i f hi hf
    obtain ⟨f, rfl⟩ := fuel hf
    have hik : i < k := by omega
    obtain ⟨v', g', hv', hg', y2, y5, pi, -, -⟩ := h.pair (show i < nl by omega)
    obtain ⟨i1, i2, i3⟩ := ih (i + 1) f (by omega) (by omega)
    have hgd : ¬ (nI i < 0 ∨ 20 ≤ (nI i).toNatClampNeg) := nI_in (by omega) (by decide)
    have hge := nI_ge hik (show k < 2 ^ 31 by omega)
    rw [f_X3_isNewPair_2, if_neg hge, h.c.2.2.2.2.1.1, if_neg (nI_ge (show i < nl by omega) (by omega)), gd_t hgd, nI_clamp (by omega), f_X6_isOfPair, y2, y5, x2, x5, nI_1]
    rw [f_X12_isFirst_4, if_neg hge, if_pos rfl, nI_1]
    rw [show f_X12_isFirst_4 M (nI k) (f + 1) 1 (nI i) = if 10 * v' + g' = 10 * v + g then f_X12_isFirst_4 M (nI k) f 0 (nI (i + 1)) else f_X12_isFirst_4 M (nI k) f 1 (nI (i + 1)) by
      rw [f_X12_isFirst_4, if_neg hge, if_neg (by decide), pi, bn1_s, pk, bn1_s, nI_1]
      by_cases q : 10 * v' + g' = 10 * v + g
      · rw [if_pos q, if_pos (congrArg nI q)]
      · rw [if_neg q, if_neg (fun e => q ((nI_eq (by omega) (by omega)).mp e))]]
    rw [nwP, y2, y5, x2, x5, i2, i3]
    refine ⟨?_, rfl, ?_⟩
    · by_cases q1 : nI v' = nI v
      · by_cases q2 : nI g' = nI g
        · rw [if_pos q1, if_pos q2, bn1_s, if_neg (by decide)]
          simp [q1, q2]
        · rw [if_pos q1, if_neg q2, bn1_s, if_pos rfl, i1]
          simp [q2]
      · rw [if_neg q1, bn1_s, if_pos rfl, i1]
        simp [q1]
    · by_cases q : 10 * v' + g' = 10 * v + g
      · have e1 : v' = v := by omega
        have e2 : g' = g := by omega
        rw [if_pos q, e1, e2]
        simp
      · rw [if_neg q]
        have : ¬ (nI v' = nI v ∧ nI g' = nI g) := by
          intro ⟨q1, q2⟩
          have q1 := (nI_eq (by omega) (by omega)).mp q1
          have q2 := (nI_eq (by omega) (by omega)).mp q2
          omega
        rw [decide_eq_false this]
        simp
set_option maxRecDepth 20000 in
theorem BRn.new (h : BRn X j (M.1 M.2.2) nc nv ng np nl nt nb) {k : Nat} (hk : k < nl) : f_X3_isNewPair X j j k (nI k) = some (if nwP X j k k 0 then 1 else 0) ∧ f_X12_isFirst M (nI k) = some (if nwP X j k k 0 then 1 else 0) := by
  obtain ⟨i1, -, i3⟩ := p_new h hk k 0 2000 (by omega) (by have := h.b; omega)
  exact ⟨i1, i3⟩
set_option maxRecDepth 20000 in
theorem p_first (h : BRn X j (M.1 M.2.2) nc nv ng np nl nt nb) {n : Nat} (hn : n ≤ nl) : ∀ d k f, k + d = n → d < f → f_X12_firstsUntil_4 M (nI n) f (nI (cnP X j k)) (nI k) = some (nI (cnP X j n)) := by
  obtain ⟨b1, b2, b3, b4, b5, b6, b7⟩ := h.b
  intro d
  induction d with
  | zero =>
    intro k f hk hf
    obtain ⟨f, rfl⟩ := fuel hf
    rw [f_X12_firstsUntil_4, if_pos (nI_le (by omega) (by omega)), show k = n by omega]
  | succ d ih =>
    intro k f hk hf
    obtain ⟨f, rfl⟩ := fuel hf
    have i1 := ih (k + 1) f (by omega) (by omega)
    rw [cnP] at i1
    rw [f_X12_firstsUntil_4, if_neg (nI_ge (show k < n by omega) (by omega)), (h.new (show k < nl by omega)).2, bn1_s, bnd_s, bnd_s, Int32.add_zero, nI_1, nI_1]
    by_cases q : nwP X j k k 0 = true
    · rw [if_pos q, if_neg (by decide)]
      rw [if_pos q] at i1
      exact i1
    · rw [if_neg q, if_pos rfl]
      rw [if_neg q] at i1
      exact i1
set_option maxRecDepth 20000 in
theorem BRn.first (h : BRn X j (M.1 M.2.2) nc nv ng np nl nt nb) {n : Nat} (hn : n ≤ nl) : f_X12_firstsUntil M (nI n) = some (nI (cnP X j n)) := p_first h hn n 0 2000 (by omega) (by have := h.b; omega)
set_option maxRecDepth 20000 in
theorem p_count (h : BRn X j (M.1 M.2.2) nc nv ng np nl nt nb) : ∀ d k f, k + d = nl → d < f → f_X3_countPairs_4 X j f (nI (cnP X j k)) (nI k) = some (nI (cnP X j nl)) := by
  obtain ⟨b1, b2, b3, b4, b5, b6, b7⟩ := h.b
  intro d
  induction d with
  | zero =>
    intro k f hk hf
    obtain ⟨f, rfl⟩ := fuel hf
    rw [f_X3_countPairs_4, h.c.2.2.2.2.1.1, if_pos (nI_le (by omega) (by omega)), show k = nl by omega]
  | succ d ih =>
    intro k f hk hf
    obtain ⟨f, rfl⟩ := fuel hf
    have i1 := ih (k + 1) f (by omega) (by omega)
    rw [cnP] at i1
    rw [f_X3_countPairs_4, h.c.2.2.2.2.1.1, if_neg (nI_ge (show k < nl by omega) (by omega)), gd_t (nI_in (by omega) (by decide)), nI_clamp (by omega), (h.new (show k < nl by omega)).1, bn1_s, nI_1, nI_1]
    by_cases q : nwP X j k k 0 = true
    · rw [if_pos q, if_neg (by decide)]
      rw [if_pos q] at i1
      exact i1
    · rw [if_neg q, if_pos rfl]
      rw [if_neg q] at i1
      exact i1
set_option maxRecDepth 20000 in
theorem p_rank (h : BRn X j (M.1 M.2.2) nc nv ng np nl nt nb) (v : Int32) : ∀ d k f, k + d = nl → d < f → f_X3_pairAtRank_4 X j v f (nI (cnP X j k)) (nI k) = some (prk X j v d k) ∧ (prk X j v d k = -1 ∨ f_X12_classInOrder_31 v f M (nI k) = some (prk X j v d k, M)) ∧ (prk X j v d k = -1 → ∀ i, k ≤ i → i < nl → ¬ (nwP X j i i 0 = true ∧ nI (cnP X j i) = v)) ∧ (prk X j v d k ≠ -1 → ∃ i, i < nl ∧ nwP X j i i 0 = true ∧ nI (cnP X j i) = v) := by
  obtain ⟨b1, b2, b3, b4, b5, b6, b7⟩ := h.b
  intro d
  induction d with
  | zero =>
    intro k f hk hf
    obtain ⟨f, rfl⟩ := fuel hf
    refine ⟨?_, Or.inl rfl, fun _ i h1 h2 => by omega, fun q => absurd rfl q⟩
    rw [f_X3_pairAtRank_4, h.c.2.2.2.2.1.1, if_pos (nI_le (by omega) (by omega))]; rfl
  | succ d ih =>
    intro k f hk hf
    obtain ⟨f, rfl⟩ := fuel hf
    have hkn : k < nl := by omega
    obtain ⟨i1, i2, i3, i4⟩ := ih (k + 1) f (by omega) (by omega)
    obtain ⟨a, g, ha, hg, x2, x5, pk, pc, pe⟩ := h.pair hkn
    have hgd : ¬ (nI k < 0 ∨ 20 ≤ (nI k).toNatClampNeg) := nI_in (by omega) (by decide)
    rw [f_X3_pairAtRank_4, h.c.2.2.2.2.1.1, if_neg (nI_ge hkn (by omega)), gd_t hgd, gd_t hgd, nI_clamp (by omega), (h.new hkn).1, bn1_s, pc, bn1_s, nI_1, nI_1]
    rw [f_X12_classInOrder_31, (h.new hkn).2, bn1_s, h.first (show k ≤ nl by omega), bn1_s, pk, bn1_s, nI_1]
    rw [prk, pe]
    rw [cnP] at i1
    by_cases q : nwP X j k k 0 = true
    · rw [if_pos q, if_neg (show ¬ (1 : Int32) = 0 by decide), if_neg (show ¬ (1 : Int32) = 0 by decide)]
      rw [if_pos q] at i1
      by_cases e : nI (cnP X j k) = v
      · rw [if_pos e, if_pos e, if_pos ⟨q, e⟩]
        exact ⟨rfl, Or.inr rfl, fun q => absurd q (nI_m1 (by omega)), fun _ => ⟨k, hkn, q, e⟩⟩
      · rw [if_neg e, if_neg e, if_neg (fun q => e q.2)]
        refine ⟨i1, i2, fun q0 i h1 h2 => ?_, i4⟩
        by_cases hik : i = k
        · subst hik
          exact fun q => e q.2
        · exact i3 q0 i (by omega) h2
    · rw [if_neg q, if_pos rfl, if_neg (fun q1 => q q1.1)]
      rw [if_neg q] at i1
      refine ⟨i1, i2, fun q0 i h1 h2 => ?_, i4⟩
      by_cases hik : i = k
      · subst hik
        exact fun q1 => q q1.1
      · exact i3 q0 i (by omega) h2
set_option maxRecDepth 20000 in
theorem cnP_hit (X : XT) (j : Nat) : ∀ n m, m < cnP X j n → ∃ i, i < n ∧ nwP X j i i 0 = true ∧ cnP X j i = m := by
  intro n
  induction n with
  | zero => intro m h; exact absurd h (Nat.not_lt_zero m)
  | succ n ih =>
    intro m hm
    rw [cnP] at hm
    by_cases q : nwP X j n n 0 = true
    · rw [if_pos q] at hm
      by_cases e : m = cnP X j n
      · exact ⟨n, Nat.lt_succ_self n, q, e.symm⟩
      · obtain ⟨i, h1, h2, h3⟩ := ih m (by omega)
        exact ⟨i, by omega, h2, h3⟩
    · rw [if_neg q] at hm
      obtain ⟨i, h1, h2, h3⟩ := ih m (by omega)
      exact ⟨i, by omega, h2, h3⟩
set_option maxRecDepth 20000 in
theorem cnP_new (X : XT) (j : Nat) {i n : Nat} (h : i < n) (q : nwP X j i i 0 = true) : cnP X j i < cnP X j n := by
  have := cnP_mono X j (n - (i + 1)) (i + 1)
  rw [show i + 1 + (n - (i + 1)) = n by omega, cnP, if_pos q] at this
  omega
set_option maxRecDepth 20000 in
/-- classInOrder, both sides -/
theorem BRn.rank (h : BRn X j (M.1 M.2.2) nc nv ng np nl nt nb) (v : Int32) : ∃ r, f_X3_pairAtRank X j v = some r ∧ ((r = -1 ∧ ¬ ∃ m, m < cnP X j nl ∧ v = nI m) ∨ (¬ r = -1 ∧ (∃ m, m < cnP X j nl ∧ v = nI m) ∧ f_X12_classInOrder_31 v 2000 M 0 = some (r, M))) := by
  have hb := h.b
  have hcn := cnP_le X j nl
  obtain ⟨i1, i2, i3, i4⟩ := p_rank h v nl 0 2000 (by omega) (by omega)
  refine ⟨_, i1, ?_⟩
  by_cases q : prk X j v nl 0 = -1
  · refine Or.inl ⟨q, fun ⟨m, hm, e⟩ => ?_⟩
    obtain ⟨i, h1, h2, h3⟩ := cnP_hit X j nl m hm
    exact i3 q i (Nat.zero_le i) h1 ⟨h2, by rw [h3, e]⟩
  · obtain ⟨i, h1, h2, h3⟩ := i4 q
    exact Or.inr ⟨q, ⟨cnP X j i, cnP_new X j h1 h2, h3.symm⟩, i2.resolve_left q⟩
set_option maxRecDepth 20000 in
theorem p_heavy (h : BRn X j (M.1 M.2.2) nc nv ng np nl nt nb) (hM : M.2.2 = 1) : ∀ d k f b m, k + d = nl → d < f → ∃ r, f_X3_heaviestPair_6 X j f b m (nI k) = some r ∧ f_X12_greatestClass_11 f M b m (nI k) = some (r, M) := by
  obtain ⟨b1, b2, b3, b4, b5, b6, b7⟩ := h.b
  have c7 : M.1 1 7 = nI nl := by have := h.c.2.2.2.2.1.2; rw [hM] at this; exact this
  intro d
  induction d with
  | zero =>
    intro k f b m hk hf
    obtain ⟨f, rfl⟩ := fuel hf
    refine ⟨b, ?_, ?_⟩
    · rw [f_X3_heaviestPair_6, h.c.2.2.2.2.1.1, if_pos (nI_le (by omega) (by omega))]
    · rw [f_X12_greatestClass_11, c7, if_pos (nI_le (by omega) (by omega))]
  | succ d ih =>
    intro k f b m hk hf
    obtain ⟨f, rfl⟩ := fuel hf
    have hkn : k < nl := by omega
    obtain ⟨p, o, v', w, s, g, t, -, ⟨x0, x1, x2, x3, x4, x5, x6⟩, ⟨r0, r1, r2, r3, r4, rv, rg⟩, -⟩ := h.lf hkn
    obtain ⟨a, g', ha, hg', y2, y5, pk, pc, pe⟩ := h.pair hkn
    obtain ⟨q, w1, w2⟩ := h.wpair hM (nI v') (nI g)
    have hgd : ¬ (nI k < 0 ∨ 20 ≤ (nI k).toNatClampNeg) := nI_in (by omega) (by decide)
    rw [f_X3_heaviestPair_6, h.c.2.2.2.2.1.1, if_neg (nI_ge hkn (by omega)), gd_t hgd, gd_t hgd, nI_clamp (by omega), x2, x5, w1, bn1_s, gd_t (show ¬ (nI k < 0 ∨ 20 ≤ k) from fun q => q.elim (nI_pos (by omega)) (by omega)), pc, bn1_s, nI_1]
    rw [f_X12_greatestClass_11, c7, if_neg (nI_ge hkn (by omega)), rv, bn1_s, r3, bn1_s, w2, bn1_s, pk, bn1_s, bnd_s, bnd_s, nI_1]
    by_cases c : q ≤ m
    · rw [if_pos c, if_pos c, if_neg (Int32.not_lt.mpr c)]
      exact ih (k + 1) f b m (by omega) (by omega)
    · rw [if_neg c, if_neg c, if_pos (Int32.not_le.mp c)]
      exact ih (k + 1) f _ q (by omega) (by omega)
end QR2
