/-! PURE: questions on tanks, lots, growers -/
def hvF (X : XT) (j : Nat) (a g : Int32) : Nat → Nat → Bool | 0, _ => false | d + 1, k => decide (X 22 j k 2 = a ∧ X 22 j k 1 = g) || hvF X j a g d (k + 1)
def stF (X : XT) (j : Nat) (g : Int32) : Nat → Nat → Nat → Nat | 0, _, s => s | d + 1, k, s => stF X j g d (k + 1) (if X 22 j k 1 = g then s ||| 2 ^ (X 22 j k 2).toNatClampNeg else s)
def pc4 (s : Nat) : Nat := (if s.testBit 0 then 1 else 0) + (if s.testBit 1 then 1 else 0) + (if s.testBit 2 then 1 else 0) + (if s.testBit 3 then 1 else 0)
set_option maxRecDepth 20000 in
theorem or16 : ∀ s, s < 16 → ∀ v, v < 4 → nI s ||| (1 <<< (nI v &&& 31)) = nI (s ||| 2 ^ v) ∧ s ||| 2 ^ v < 16 := by decide +kernel
set_option maxRecDepth 20000 in
theorem and16 : ∀ s, s < 16 → s ≠ 0 → nI s &&& (nI s - 1) = nI (s &&& (s - 1)) ∧ s &&& (s - 1) < s ∧ pc4 s = 1 + pc4 (s &&& (s - 1)) := by decide +kernel
section QR3
variable {X : XT} {j : Nat} {M : MT} {nc nv ng np nl nt nb : Nat}
set_option maxRecDepth 20000 in
/-- a tank's fields on both sides -/
theorem BRn.tf (h : BRn X j (M.1 M.2.2) nc nv ng np nl nt nb) {k : Nat} (hk : k < nt) : ∃ ca co sg u, co ≤ ca ∧ ca ≤ 20000 ∧ sg < 2 ^ 30 ∧ (X 26 j k 0 = nI ca ∧ X 26 j k 1 = nI co ∧ X 26 j k 2 = u ∧ X 26 j k 3 = nI sg) ∧ (f_X12_ofTank M (nI k) 0 = some (nI ca) ∧ f_X12_ofTank M (nI k) 1 = some (nI co) ∧ f_X12_ofTank M (nI k) 2 = some u ∧ f_X12_ofTank M (nI k) 3 = some (nI sg) ∧ f_X12_roomIn M (nI k) = some (nI ca - nI co)) ∧ ((co = 0 ∧ u = -1 ∧ sg = 0) ∨ (0 < co ∧ ∃ v, v < nv ∧ u = nI v)) := by
  obtain ⟨b1, b2, b3, b4, b5, b6, b7⟩ := h.b
  obtain ⟨ca, co, sg, hco, hca, hsg, ⟨x0, r0⟩, ⟨x1, r1⟩, x2, ⟨x3, r3⟩, hvar⟩ := h.t hk
  have T : ∀ w, w < 4 → f_X12_ofTank M (nI k) (nI w) = some (M.1 M.2.2 (iT k w)) := fun w hw => oT (by omega) hw
  have t0 : f_X12_ofTank M (nI k) 0 = some (nI ca) := (T 0 (by decide)).trans (congrArg some r0)
  have t1 : f_X12_ofTank M (nI k) 1 = some (nI co) := (T 1 (by decide)).trans (congrArg some r1)
  refine ⟨ca, co, sg, M.1 M.2.2 (iT k 2), hco, hca, hsg, ⟨x0, x1, x2, x3⟩, ⟨t0, t1, T 2 (by decide), (T 3 (by decide)).trans (congrArg some r3), ?_⟩, hvar⟩
  unfold f_X12_roomIn
  rw [t0, bn1_s, t1, bn1_s]
set_option maxRecDepth 20000 in
theorem BRn.of_ (h : BRn X j (M.1 M.2.2) nc nv ng np nl nt nb) {k : Nat} (hk : k < nb) : ∃ v s m u, v < nv ∧ s < 2 ^ 30 ∧ m ≤ 20000 ∧ u ≤ m ∧ (X 27 j k 0 = nI v ∧ X 27 j k 1 = nI s ∧ X 27 j k 2 = nI m ∧ X 27 j k 3 = nI u) ∧ (f_X12_ofLot M (nI k) 0 = some (nI v) ∧ f_X12_ofLot M (nI k) 1 = some (nI s) ∧ f_X12_ofLot M (nI k) 2 = some (nI m) ∧ f_X12_ofLot M (nI k) 3 = some (nI u)) := by
  obtain ⟨b1, b2, b3, b4, b5, b6, b7⟩ := h.b
  obtain ⟨v, s, m, u, hv, hs, hm, hu, ⟨x0, r0⟩, ⟨x1, r1⟩, ⟨x2, r2⟩, ⟨x3, r3⟩⟩ := h.o hk
  have T : ∀ w, w < 4 → f_X12_ofLot M (nI k) (nI w) = some (M.1 M.2.2 (iB k w)) := fun w hw => oB (by omega) hw
  exact ⟨v, s, m, u, hv, hs, hm, hu, ⟨x0, x1, x2, x3⟩, (T 0 (by decide)).trans (congrArg some r0), (T 1 (by decide)).trans (congrArg some r1), (T 2 (by decide)).trans (congrArg some r2), (T 3 (by decide)).trans (congrArg some r3)⟩
set_option maxRecDepth 20000 in
theorem BRn.mean (h : BRn X j (M.1 M.2.2) nc nv ng np nl nt nb) {k : Nat} (hk : k < nt) : ∃ co sg, X 26 j k 1 = nI co ∧ X 26 j k 3 = nI sg ∧ co ≤ 20000 ∧ sg < 2 ^ 30 ∧ f_X9_mean X j k = some (nI (sg / co)) ∧ f_X12_meanIn M (nI k) = some (nI (sg / co)) := by
  obtain ⟨ca, co, sg, u, hco, hca, hsg, ⟨x0, x1, x2, x3⟩, ⟨t0, t1, t2, t3, -⟩, hvar⟩ := h.tf hk
  refine ⟨co, sg, x1, x3, by omega, hsg, ?_, ?_⟩
  · unfold f_X9_mean
    rw [x1, x3]
    by_cases c : co = 0
    · rw [if_pos (by rw [c]; decide), c, Nat.div_zero]; rfl
    · rw [if_neg (nI_nle (by omega) (by omega)), gd_t (nI_ne0 (by omega) (by omega)), pk_div (by omega) (by omega) (by omega)]
  · unfold f_X12_meanIn
    rw [t1, bn1_s, t3, bn1_s, bn1_s]
    by_cases c : co = 0
    · rw [if_pos (by rw [c]; rfl), c, Nat.div_zero]; rfl
    · rw [if_neg (nI_ne0 (by omega) (by omega)), gd_t (nI_ne0 (by omega) (by omega)), pk_div (by omega) (by omega) (by omega)]
set_option maxRecDepth 20000 in
theorem p_great (h : BRn X j (M.1 M.2.2) nc nv ng np nl nt nb) (hM : M.2.2 = 1) (v : Int32) : ∀ d k f a, k + d = nt → d < f → ∃ r, f_X2_greatestWeightFor_4 X j v f a (nI k) = some r ∧ f_X12_greatestLoad_18 v f M a (nI k) = some (r, M) := by
  obtain ⟨b1, b2, b3, b4, b5, b6, b7⟩ := h.b
  have c8 : M.1 1 8 = nI nt := by have := h.c.2.2.2.2.2.1.2; rw [hM] at this; exact this
  intro d
  induction d with
  | zero =>
    intro k f a hk hf
    obtain ⟨f, rfl⟩ := fuel hf
    refine ⟨if 5000 < a then 5000 else a, ?_, ?_⟩
    · rw [f_X2_greatestWeightFor_4, h.c.2.2.2.2.2.1.1, if_pos (nI_le (by omega) (by omega))]
    · rw [f_X12_greatestLoad_18, c8, if_pos (nI_le (by omega) (by omega))]
      by_cases c1 : 5000 < a
      · rw [if_pos c1, if_neg (Int32.not_lt.mpr (Int32.le_of_lt c1))]
      · rw [if_neg c1]
        by_cases c2 : a < 5000
        · rw [if_pos c2]
        · rw [if_neg c2]
          rw [Int32.le_antisymm (Int32.not_lt.mp c1) (Int32.not_lt.mp c2)]
  | succ d ih =>
    intro k f a hk hf
    obtain ⟨f, rfl⟩ := fuel hf
    have hkn : k < nt := by omega
    obtain ⟨ca, co, sg, u, hco, hca, hsg, ⟨x0, x1, x2, x3⟩, ⟨t0, t1, t2, t3, t4⟩, hvar⟩ := h.tf hkn
    have hg : ¬ (nI k < 0 ∨ 5 ≤ (nI k).toNatClampNeg) := nI_in (by omega) (by decide)
    rw [f_X2_greatestWeightFor_4, h.c.2.2.2.2.2.1.1, if_neg (nI_ge hkn (by omega)), gd_t hg, gd_t hg, nI_clamp (by omega), f_X9_takes, f_X9_room, bn1_s, bnd_s, x0, x1, x2, nI_1]
    rw [f_X12_greatestLoad_18, c8, if_neg (nI_ge hkn (by omega)), t2, bn1_s, bn1_s, t4, bn1_s, bnd_s, nI_1]
    by_cases e : u = v
    · rw [if_pos e, ite_self, bn1_s, if_neg (show ¬ (1 : Int32) = 0 by decide), if_pos e]
      exact ih (k + 1) f _ (by omega) (by omega)
    · rw [if_neg e, if_neg e]
      rcases hvar with ⟨c0, hu, -⟩ | ⟨c0, w, hw, hu⟩
      · rw [if_pos (show nI co = 0 by rw [c0]; rfl), bn1_s, if_neg (by decide), if_pos hu]
        exact ih (k + 1) f _ (by omega) (by omega)
      · rw [if_neg (nI_ne0 c0 (by omega)), bn1_s, if_pos rfl, if_neg (by rw [hu]; exact nI_m1 (by omega))]
        exact ih (k + 1) f _ (by omega) (by omega)
set_option maxRecDepth 20000 in
theorem p_sweet (h : BRn X j (M.1 M.2.2) nc nv ng np nl nt nb) (hM : M.2.2 = 1) : ∀ d k f b m, k + d = nb → d < f → ((b = -1 ∧ m = -1) ∨ ∃ i s, i < nb ∧ s < 2 ^ 30 ∧ b = nI i ∧ m = nI s ∧ f_X12_ofLot M (nI i) 1 = some (nI s)) → ∃ r, f_X2_sweetestUnsold_6 X j f b m (nI k) = some r ∧ f_X12_sweetestLot_9 f M b (nI k) = some (r, M) := by
  obtain ⟨b1, b2, b3, b4, b5, b6, b7⟩ := h.b
  have c9 : M.1 1 9 = nI nb := by have := h.c.2.2.2.2.2.2.2; rw [hM] at this; exact this
  intro d
  induction d with
  | zero =>
    intro k f b m hk hf _
    obtain ⟨f, rfl⟩ := fuel hf
    refine ⟨b, ?_, ?_⟩
    · rw [f_X2_sweetestUnsold_6, h.c.2.2.2.2.2.2.1, if_pos (nI_le (by omega) (by omega))]
    · rw [f_X12_sweetestLot_9, c9, if_pos (nI_le (by omega) (by omega))]
  | succ d ih =>
    intro k f b m hk hf hbm
    obtain ⟨f, rfl⟩ := fuel hf
    have hkn : k < nb := by omega
    obtain ⟨v, s, mm, u, hv, hs, hm, hu, ⟨x0, x1, x2, x3⟩, ⟨t0, t1, t2, t3⟩⟩ := h.of_ hkn
    have hg : ¬ (nI k < 0 ∨ 12 ≤ (nI k).toNatClampNeg) := nI_in (by omega) (by decide)
    have new : ∃ r, f_X2_sweetestUnsold_6 X j f (nI k) (nI s) (nI (k + 1)) = some r ∧ f_X12_sweetestLot_9 f M (nI k) (nI (k + 1)) = some (r, M) := ih (k + 1) f _ _ (by omega) (by omega) (Or.inr ⟨k, s, hkn, hs, rfl, rfl, t1⟩)
    have old : ∃ r, f_X2_sweetestUnsold_6 X j f b m (nI (k + 1)) = some r ∧ f_X12_sweetestLot_9 f M b (nI (k + 1)) = some (r, M) := ih (k + 1) f b m (by omega) (by omega) hbm
    rw [f_X2_sweetestUnsold_6, h.c.2.2.2.2.2.2.1, if_neg (nI_ge hkn (by omega)), gd_t hg, gd_t hg, gd_t hg, nI_clamp (by omega), x3, x1, nI_1]
    rw [f_X12_sweetestLot_9, c9, if_neg (nI_ge hkn (by omega))]
    simp only [t3, t1, bn1_s, nI_1]
    rcases hbm with ⟨rfl, rfl⟩ | ⟨i, s', hi, hs', rfl, rfl, e1⟩
    · rw [if_pos rfl]
      by_cases c : nI u ≤ 0
      · rw [if_pos c, if_pos c]
        exact old
      · rw [if_neg c, if_neg c, if_neg (fun q => Int32.not_le.mpr (Int32.lt_of_lt_of_le m1_lt0 (nI_pos' (by omega))) q)]
        exact new
    · rw [if_neg (nI_m1 (by omega)), e1, bn1_s]
      by_cases c : nI u ≤ 0
      · rw [if_pos c, if_pos c, if_pos c, ite_self]
        exact old
      · rw [if_neg c, if_neg c, if_neg c]
        by_cases c2 : nI s ≤ nI s'
        · rw [if_pos c2, if_pos c2]
          exact old
        · rw [if_neg c2, if_neg c2]
          exact new
set_option maxRecDepth 20000 in
theorem p_lots (h : BRn X j (M.1 M.2.2) nc nv ng np nl nt nb) (hM : M.2.2 = 1) (v : Int32) : ∀ d k f a, k + d = nb → d < f → ∃ r, f_X2_stockOf_45 X j v f a (nI k) = some r ∧ f_X12_bottlesOf_60 v f M a (nI k) = some (r, M) := by
  obtain ⟨b1, b2, b3, b4, b5, b6, b7⟩ := h.b
  have c9 : M.1 1 9 = nI nb := by have := h.c.2.2.2.2.2.2.2; rw [hM] at this; exact this
  intro d
  induction d with
  | zero =>
    intro k f a hk hf
    obtain ⟨f, rfl⟩ := fuel hf
    refine ⟨a, ?_, ?_⟩
    · rw [f_X2_stockOf_45, h.c.2.2.2.2.2.2.1, if_pos (nI_le (by omega) (by omega))]
    · rw [f_X12_bottlesOf_60, c9, if_pos (nI_le (by omega) (by omega))]
  | succ d ih =>
    intro k f a hk hf
    obtain ⟨f, rfl⟩ := fuel hf
    have hkn : k < nb := by omega
    obtain ⟨v', s, mm, u, hv, hs, hm, hu, ⟨x0, x1, x2, x3⟩, ⟨t0, t1, t2, t3⟩⟩ := h.of_ hkn
    have hg : ¬ (nI k < 0 ∨ 12 ≤ (nI k).toNatClampNeg) := nI_in (by omega) (by decide)
    rw [f_X2_stockOf_45, h.c.2.2.2.2.2.2.1, if_neg (nI_ge hkn (by omega)), gd_t hg, gd_t hg, nI_clamp (by omega), x0, x3, bnd_s, nI_1]
    rw [f_X12_bottlesOf_60, c9, if_neg (nI_ge hkn (by omega)), t0, bn1_s, t3, bn1_s, bnd_s, bnd_s, Int32.add_zero, nI_1]
    by_cases e : nI v' = v
    · rw [if_pos e, if_pos e]
      exact ih (k + 1) f _ (by omega) (by omega)
    · rw [if_neg e, if_neg e]
      exact ih (k + 1) f _ (by omega) (by omega)
set_option maxRecDepth 20000 in
theorem p_stock (h : BRn X j (M.1 M.2.2) nc nv ng np nl nt nb) (hM : M.2.2 = 1) {v : Nat} (hv : v < 4) : ∀ d k f a, k + d = nt → d < f → ∃ r, f_X2_stockOf_4 X j (nI v) f a (nI k) = some r ∧ f_X12_bottlesOf_18 (nI v) f M a (nI k) = some (r, M) := by
  obtain ⟨b1, b2, b3, b4, b5, b6, b7⟩ := h.b
  have c8 : M.1 1 8 = nI nt := by have := h.c.2.2.2.2.2.1.2; rw [hM] at this; exact this
  intro d
  induction d with
  | zero =>
    intro k f a hk hf
    obtain ⟨f, rfl⟩ := fuel hf
    rw [f_X2_stockOf_4, h.c.2.2.2.2.2.1.1, if_pos (nI_le (by omega) (by omega)), f_X12_bottlesOf_18, c8, if_pos (nI_le (by omega) (by omega))]
    exact p_lots h hM (nI v) nb 0 2000 a (by omega) (by omega)
  | succ d ih =>
    intro k f a hk hf
    obtain ⟨f, rfl⟩ := fuel hf
    have hkn : k < nt := by omega
    obtain ⟨ca, co, sg, u, hco, hca, hsg, ⟨x0, x1, x2, x3⟩, ⟨t0, t1, t2, t3, t4⟩, hvar⟩ := h.tf hkn
    have hg : ¬ (nI k < 0 ∨ 5 ≤ (nI k).toNatClampNeg) := nI_in (by omega) (by decide)
    rw [f_X2_stockOf_4, h.c.2.2.2.2.2.1.1, if_neg (nI_ge hkn (by omega)), gd_t hg, gd_t hg, nI_clamp (by omega), f_X9_holds, bnd_s, x1, x2, nI_1]
    rw [f_X12_bottlesOf_18, c8, if_neg (nI_ge hkn (by omega)), t2, bn1_s, t1, bn1_s, bnd_s, bnd_s, Int32.add_zero, nI_1]
    rcases hvar with ⟨c0, hu, -⟩ | ⟨c0, w, hw, hu⟩
    · rw [if_pos (show nI co ≤ 0 by rw [c0]; decide), bn1_s, if_pos rfl, hu, if_neg (fun q => nI_m1 (k := v) (by omega) q.symm)]
      exact ih (k + 1) f _ (by omega) (by omega)
    · rw [if_neg (nI_nle c0 (by omega))]
      by_cases e : u = nI v
      · rw [if_pos e, bn1_s, if_neg (by decide), if_pos e]
        exact ih (k + 1) f _ (by omega) (by omega)
      · rw [if_neg e, bn1_s, if_pos rfl, if_neg e]
        exact ih (k + 1) f _ (by omega) (by omega)
set_option maxRecDepth 20000 in
theorem p_ggrow (h : BRn X j (M.1 M.2.2) nc nv ng np nl nt nb) (hM : M.2.2 = 1) : ∀ d k f b m, k + d = ng → d < f → ((b = -1 ∧ m = -1) ∨ ∃ i s, i < ng ∧ s ≤ 100000 ∧ b = nI i ∧ m = nI s ∧ f_X12_weightFrom M (nI i) = some (nI s)) → ∃ r, f_X0_heaviestGrower_6 X j f b m (nI k) = some r ∧ f_X12_greatestGrower_9 f M b (nI k) = some (r, M) := by
  obtain ⟨b1, b2, b3, b4, b5, b6, b7⟩ := h.b
  have c5 : M.1 1 5 = nI ng := by have := h.c.2.2.1.2; rw [hM] at this; exact this
  intro d
  induction d with
  | zero =>
    intro k f b m hk hf _
    obtain ⟨f, rfl⟩ := fuel hf
    refine ⟨b, ?_, ?_⟩
    · rw [f_X0_heaviestGrower_6, h.c.2.2.1.1, if_pos (nI_le (by omega) (by omega))]
    · rw [f_X12_greatestGrower_9, c5, if_pos (nI_le (by omega) (by omega))]
  | succ d ih =>
    intro k f b m hk hf hbm
    obtain ⟨f, rfl⟩ := fuel hf
    have hkn : k < ng := by omega
    obtain ⟨s, hs, w1, w2⟩ := h.wgrow hM (nI k)
    have new : ∃ r, f_X0_heaviestGrower_6 X j f (nI k) (nI s) (nI (k + 1)) = some r ∧ f_X12_greatestGrower_9 f M (nI k) (nI (k + 1)) = some (r, M) := ih (k + 1) f _ _ (by omega) (by omega) (Or.inr ⟨k, s, hkn, hs, rfl, rfl, w2⟩)
    have old : ∃ r, f_X0_heaviestGrower_6 X j f b m (nI (k + 1)) = some r ∧ f_X12_greatestGrower_9 f M b (nI (k + 1)) = some (r, M) := ih (k + 1) f b m (by omega) (by omega) hbm
    rw [f_X0_heaviestGrower_6, h.c.2.2.1.1, if_neg (nI_ge hkn (by omega)), w1, bn1_s, nI_1]
    rw [f_X12_greatestGrower_9, c5, if_neg (nI_ge hkn (by omega)), w2, bn1_s, nI_1]
    rcases hbm with ⟨rfl, rfl⟩ | ⟨i, s', hi, hs', rfl, rfl, e1⟩
    · rw [if_pos rfl, if_neg (fun q => Int32.not_le.mpr (Int32.lt_of_lt_of_le m1_lt0 (nI_pos' (by omega))) q)]
      exact new
    · rw [if_neg (nI_m1 (by omega)), e1, bn1_s]
      by_cases c2 : nI s ≤ nI s'
      · rw [if_pos c2, if_pos c2]
        exact old
      · rw [if_neg c2, if_neg c2]
        exact new
set_option maxRecDepth 20000 in
theorem p_oall (h : BRn X j (M.1 M.2.2) nc nv ng np nl nt nb) (hM : M.2.2 = 1) : ∀ d k f a, k + d = ng → d < f → ∃ r, f_X0_unpaidToAll_4 X j f a (nI k) = some r ∧ f_X12_openAll_4 M f a (nI k) = some r := by
  obtain ⟨b1, b2, b3, b4, b5, b6, b7⟩ := h.b
  have c5 : M.1 1 5 = nI ng := by have := h.c.2.2.1.2; rw [hM] at this; exact this
  intro d
  induction d with
  | zero =>
    intro k f a hk hf
    obtain ⟨f, rfl⟩ := fuel hf
    refine ⟨a, ?_, ?_⟩
    · rw [f_X0_unpaidToAll_4, h.c.2.2.1.1, if_pos (nI_le (by omega) (by omega))]
    · rw [f_X12_openAll_4, c5, if_pos (nI_le (by omega) (by omega))]
  | succ d ih =>
    intro k f a hk hf
    obtain ⟨f, rfl⟩ := fuel hf
    have hkn : k < ng := by omega
    obtain ⟨-, w1, w2⟩ := h.open_ (nI k)
    rw [f_X0_unpaidToAll_4, h.c.2.2.1.1, if_neg (nI_ge hkn (by omega)), w1, bn1_s, bnd_s, nI_1]
    rw [f_X12_openAll_4, c5, if_neg (nI_ge hkn (by omega)), w2, bn1_s, bnd_s, nI_1]
    exact ih (k + 1) f _ (by omega) (by omega)
set_option maxRecDepth 20000 in
theorem BRn.oall (h : BRn X j (M.1 M.2.2) nc nv ng np nl nt nb) (hM : M.2.2 = 1) : ∃ r, f_X0_unpaidToAll X j = some r ∧ f_X12_openAll M = some r := p_oall h hM ng 0 2000 0 (by omega) (by have := h.b; omega)
set_option maxRecDepth 20000 in
theorem p_payable (h : BRn X j (M.1 M.2.2) nc nv ng np nl nt nb) (hM : M.2.2 = 1) : ∀ d k f a c, k + d = ng → d < f → ∃ r, f_X0_countPayable_9 X j f a c (nI k) = some r ∧ f_X12_payableGrowers_16 f M a c (nI k) = some (r, M) := by
  obtain ⟨b1, b2, b3, b4, b5, b6, b7⟩ := h.b
  have c5 : M.1 1 5 = nI ng := by have := h.c.2.2.1.2; rw [hM] at this; exact this
  intro d
  induction d with
  | zero =>
    intro k f a c hk hf
    obtain ⟨f, rfl⟩ := fuel hf
    refine ⟨c, ?_, ?_⟩
    · rw [f_X0_countPayable_9, h.c.2.2.1.1, if_pos (nI_le (by omega) (by omega))]
    · rw [f_X12_payableGrowers_16, c5, if_pos (nI_le (by omega) (by omega))]
  | succ d ih =>
    intro k f a c hk hf
    obtain ⟨f, rfl⟩ := fuel hf
    have hkn : k < ng := by omega
    obtain ⟨hu, w1, w2⟩ := h.open_ (nI k)
    rw [f_X0_countPayable_9, h.c.2.2.1.1, if_neg (nI_ge hkn (by omega)), w1, bn1_s, bnd_s, nI_1]
    rw [f_X12_payableGrowers_16, c5, if_neg (nI_ge hkn (by omega)), w2, bn1_s, bnd_s, bnd_s, bnd_s, bnd_s, nI_1, Int32.add_zero]
    by_cases c1 : nI (unS X j (nI k) nl 0) ≤ a
    · rw [if_pos c1, if_pos c1]
      by_cases c2 : nI (unS X j (nI k) nl 0) ≤ 0
      · rw [if_pos c2, if_pos c2]
        have : unS X j (nI k) nl 0 = 0 := (nI_le0 (by omega)).mp c2
        rw [this, show a - nI 0 = a from Int32.sub_zero a]
        exact ih (k + 1) f _ _ (by omega) (by omega)
      · rw [if_neg c2, if_neg c2]
        exact ih (k + 1) f _ _ (by omega) (by omega)
    · rw [if_neg c1, if_neg c1]
      exact ⟨c, rfl, rfl⟩
-- totals
set_option maxRecDepth 20000 in
theorem p_tw (h : BRn X j (M.1 M.2.2) nc nv ng np nl nt nb) (hM : M.2.2 = 1) : ∀ d k f a, k + d = nl → d < f → k ≤ a → a ≤ k * 5000 → ∃ r, nl ≤ r ∧ r ≤ nl * 5000 ∧ f_X3_totalWeight_4 X j f (nI a) (nI k) = some (nI r) ∧ f_X12_weightAll_4 M f (nI a) (nI k) = some (nI r) := by
  obtain ⟨b1, b2, b3, b4, b5, b6, b7⟩ := h.b
  have c7 : M.1 1 7 = nI nl := by have := h.c.2.2.2.2.1.2; rw [hM] at this; exact this
  intro d
  induction d with
  | zero =>
    intro k f a hk hf h1 h2
    obtain ⟨f, rfl⟩ := fuel hf
    obtain rfl : k = nl := by omega
    refine ⟨a, h1, h2, ?_, ?_⟩
    · rw [f_X3_totalWeight_4, h.c.2.2.2.2.1.1, if_pos (nI_le (by omega) (by omega))]
    · rw [f_X12_weightAll_4, c7, if_pos (nI_le (by omega) (by omega))]
  | succ d ih =>
    intro k f a hk hf h1 h2
    obtain ⟨f, rfl⟩ := fuel hf
    have hkn : k < nl := by omega
    obtain ⟨p, o, v', w, s, g, t, ⟨hp, ho, hv, hw1, hw2, hs, hg, ht⟩, ⟨x0, x1, x2, x3, x4, x5, x6⟩, ⟨r0, r1, r2, r3, r4, rv, rg⟩, -⟩ := h.lf hkn
    have hg : ¬ (nI k < 0 ∨ 20 ≤ (nI k).toNatClampNeg) := nI_in (by omega) (by decide)
    rw [f_X3_totalWeight_4, h.c.2.2.2.2.1.1, if_neg (nI_ge hkn (by omega)), gd_t hg, nI_clamp (by omega), bnd_s, x3, nI_1, nI_add]
    rw [f_X12_weightAll_4, c7, if_neg (nI_ge hkn (by omega)), r1, bn1_s, bnd_s, nI_1, nI_add]
    exact ih (k + 1) f _ (by omega) (by omega) (by omega) (by omega)
set_option maxRecDepth 20000 in
theorem BRn.tw (h : BRn X j (M.1 M.2.2) nc nv ng np nl nt nb) (hM : M.2.2 = 1) : ∃ r, nl ≤ r ∧ r ≤ nl * 5000 ∧ f_X3_totalWeight X j = some (nI r) ∧ f_X12_weightAll M = some (nI r) := p_tw h hM nl 0 2000 0 (by omega) (by have := h.b; omega) (by omega) (by omega)
set_option maxRecDepth 20000 in
theorem p_ts (h : BRn X j (M.1 M.2.2) nc nv ng np nl nt nb) (hM : M.2.2 = 1) : ∀ d k f a, k + d = nl → d < f → ∃ r, f_X3_totalSugar_4 X j f a (nI k) = some r ∧ ∀ q, f_X12_weightAll M = some q → vf_n64 (FP.ddiv (FP.i2d r) (FP.i2d q)) → f_X12_averageSugar_9 f M a (nI k) = some ((if nl = 0 then FP.dconst0 else FP.ddiv (FP.i2d r) (FP.i2d q)), M) := by
  obtain ⟨b1, b2, b3, b4, b5, b6, b7⟩ := h.b
  have c7 : M.1 1 7 = nI nl := by have := h.c.2.2.2.2.1.2; rw [hM] at this; exact this
  intro d
  induction d with
  | zero =>
    intro k f a hk hf
    obtain ⟨f, rfl⟩ := fuel hf
    obtain rfl : k = nl := by omega
    refine ⟨a, ?_, fun q hq hn => ?_⟩
    · rw [f_X3_totalSugar_4, h.c.2.2.2.2.1.1, if_pos (nI_le (by omega) (by omega))]
    · rw [f_X12_averageSugar_9, c7, if_pos (nI_le (by omega) (by omega)), hq, bn1_s]
      by_cases c : k = 0
      · rw [if_pos (by rw [c]; rfl), if_pos c]
      · unfold vf_n64 at hn
        rw [if_neg (nI_ne0 (by omega) (by omega)), if_neg c, gd_t hn]
  | succ d ih =>
    intro k f a hk hf
    obtain ⟨f, rfl⟩ := fuel hf
    have hkn : k < nl := by omega
    obtain ⟨p, o, v', w, s, g, t, -, ⟨x0, x1, x2, x3, x4, x5, x6⟩, ⟨r0, r1, r2, r3, r4, rv, rg⟩, -⟩ := h.lf hkn
    have hg : ¬ (nI k < 0 ∨ 20 ≤ (nI k).toNatClampNeg) := nI_in (by omega) (by decide)
    rw [f_X3_totalSugar_4, h.c.2.2.2.2.1.1, if_neg (nI_ge hkn (by omega)), gd_t hg, gd_t hg, nI_clamp (by omega), bnd_s, x3, x4, nI_1]
    rw [f_X12_averageSugar_9, c7, if_neg (nI_ge hkn (by omega)), r1, bn1_s, r2, bn1_s, bnd_s, nI_1]
    exact ih (k + 1) f _ (by omega) (by omega)
set_option maxRecDepth 20000 in
theorem p_tp (h : BRn X j (M.1 M.2.2) nc nv ng np nl nt nb) : ∀ d k f, k + d = nl → d < f → f_X3_totalPayments_4 X j f (psum X j k) (nI k) = some (psum X j nl) := by
  obtain ⟨b1, b2, b3, b4, b5, b6, b7⟩ := h.b
  intro d
  induction d with
  | zero =>
    intro k f hk hf
    obtain ⟨f, rfl⟩ := fuel hf
    obtain rfl : k = nl := by omega
    rw [f_X3_totalPayments_4, h.c.2.2.2.2.1.1, if_pos (nI_le (by omega) (by omega))]
  | succ d ih =>
    intro k f hk hf
    obtain ⟨f, rfl⟩ := fuel hf
    have hkn : k < nl := by omega
    have hg : ¬ (nI k < 0 ∨ 20 ≤ (nI k).toNatClampNeg) := nI_in (by omega) (by decide)
    rw [f_X3_totalPayments_4, h.c.2.2.2.2.1.1, if_neg (nI_ge hkn (by omega)), gd_t hg, nI_clamp (by omega), bnd_s, nI_1]
    exact ih (k + 1) f (by omega) (by omega)
set_option maxRecDepth 20000 in
theorem p_tc (h : BRn X j (M.1 M.2.2) nc nv ng np nl nt nb) (hM : M.2.2 = 1) : ∀ d k f a, k + d = nt → d < f → ∃ r, f_X2_totalContent_4 X j f a (nI k) = some r ∧ f_X12_contentAll_4 M f a (nI k) = some r := by
  obtain ⟨b1, b2, b3, b4, b5, b6, b7⟩ := h.b
  have c8 : M.1 1 8 = nI nt := by have := h.c.2.2.2.2.2.1.2; rw [hM] at this; exact this
  intro d
  induction d with
  | zero =>
    intro k f a hk hf
    obtain ⟨f, rfl⟩ := fuel hf
    refine ⟨a, ?_, ?_⟩
    · rw [f_X2_totalContent_4, h.c.2.2.2.2.2.1.1, if_pos (nI_le (by omega) (by omega))]
    · rw [f_X12_contentAll_4, c8, if_pos (nI_le (by omega) (by omega))]
  | succ d ih =>
    intro k f a hk hf
    obtain ⟨f, rfl⟩ := fuel hf
    have hkn : k < nt := by omega
    obtain ⟨ca, co, sg, u, hco, hca, hsg, ⟨x0, x1, x2, x3⟩, ⟨t0, t1, t2, t3, t4⟩, hvar⟩ := h.tf hkn
    have hg : ¬ (nI k < 0 ∨ 5 ≤ (nI k).toNatClampNeg) := nI_in (by omega) (by decide)
    rw [f_X2_totalContent_4, h.c.2.2.2.2.2.1.1, if_neg (nI_ge hkn (by omega)), gd_t hg, nI_clamp (by omega), bnd_s, x1, nI_1]
    rw [f_X12_contentAll_4, c8, if_neg (nI_ge hkn (by omega)), t1, bn1_s, bnd_s, nI_1]
    exact ih (k + 1) f _ (by omega) (by omega)
set_option maxRecDepth 20000 in
theorem BRn.tc (h : BRn X j (M.1 M.2.2) nc nv ng np nl nt nb) (hM : M.2.2 = 1) : ∃ r, f_X2_totalContent X j = some r ∧ f_X12_contentAll M = some r := p_tc h hM nt 0 2000 0 (by omega) (by have := h.b; omega)
set_option maxRecDepth 20000 in
theorem p_cap (h : BRn X j (M.1 M.2.2) nc nv ng np nl nt nb) (hM : M.2.2 = 1) : ∀ d k f a, k + d = nt → d < f → a ≤ k * 20000 → ∃ r, r ≤ 100000 ∧ f_X2_totalCapacity_4 X j f (nI a) (nI k) = some (nI r) ∧ ∀ q, f_X12_contentAll M = some q → (0 < r → vf_n32 (FP.fdiv (FP.i2f q) (FP.i2f (nI r)))) → f_X12_fullness_9 f M (nI a) (nI k) = some ((if r = 0 then FP.fconst0 else FP.fdiv (FP.i2f q) (FP.i2f (nI r))), M) := by
  obtain ⟨b1, b2, b3, b4, b5, b6, b7⟩ := h.b
  have c8 : M.1 1 8 = nI nt := by have := h.c.2.2.2.2.2.1.2; rw [hM] at this; exact this
  intro d
  induction d with
  | zero =>
    intro k f a hk hf ha
    obtain ⟨f, rfl⟩ := fuel hf
    refine ⟨a, by omega, ?_, fun q hq hn => ?_⟩
    · rw [f_X2_totalCapacity_4, h.c.2.2.2.2.2.1.1, if_pos (nI_le (by omega) (by omega))]
    · rw [f_X12_fullness_9, c8, if_pos (nI_le (by omega) (by omega)), hq, bn1_s]
      by_cases c : a = 0
      · rw [if_pos (by rw [c]; rfl), if_pos c]
      · have hn := hn (by omega)
        unfold vf_n32 at hn
        rw [if_neg (nI_ne0 (by omega) (by omega)), if_neg c, gd_t hn]
  | succ d ih =>
    intro k f a hk hf ha
    obtain ⟨f, rfl⟩ := fuel hf
    have hkn : k < nt := by omega
    obtain ⟨ca, co, sg, u, hco, hca, hsg, ⟨x0, x1, x2, x3⟩, ⟨t0, t1, t2, t3, t4⟩, hvar⟩ := h.tf hkn
    have hg : ¬ (nI k < 0 ∨ 5 ≤ (nI k).toNatClampNeg) := nI_in (by omega) (by decide)
    rw [f_X2_totalCapacity_4, h.c.2.2.2.2.2.1.1, if_neg (nI_ge hkn (by omega)), gd_t hg, nI_clamp (by omega), bnd_s, x0, nI_1, nI_add]
    rw [f_X12_fullness_9, c8, if_neg (nI_ge hkn (by omega)), t0, bn1_s, bnd_s, nI_1, nI_add]
    exact ih (k + 1) f _ (by omega) (by omega) (by omega)
set_option maxRecDepth 20000 in
theorem p_bott (h : BRn X j (M.1 M.2.2) nc nv ng np nl nt nb) (hM : M.2.2 = 1) : ∀ d k f a, k + d = nb → d < f → ∃ r, f_X2_totalBottled_4 X j f a (nI k) = some r ∧ ∀ q1 q2, f_X12_weightAll M = some q1 → f_X12_contentAll M = some q2 → f_X12_bottleDifference_9 f M a (nI k) = some (((q1 - q2) - r), M) := by
  obtain ⟨b1, b2, b3, b4, b5, b6, b7⟩ := h.b
  have c9 : M.1 1 9 = nI nb := by have := h.c.2.2.2.2.2.2.2; rw [hM] at this; exact this
  intro d
  induction d with
  | zero =>
    intro k f a hk hf
    obtain ⟨f, rfl⟩ := fuel hf
    refine ⟨a, ?_, fun q1 q2 h1 h2 => ?_⟩
    · rw [f_X2_totalBottled_4, h.c.2.2.2.2.2.2.1, if_pos (nI_le (by omega) (by omega))]
    · rw [f_X12_bottleDifference_9, c9, if_pos (nI_le (by omega) (by omega)), h1, bn1_s, h2, bn1_s]
  | succ d ih =>
    intro k f a hk hf
    obtain ⟨f, rfl⟩ := fuel hf
    have hkn : k < nb := by omega
    obtain ⟨v', s, mm, u, hv, hs, hm, hu, ⟨x0, x1, x2, x3⟩, ⟨t0, t1, t2, t3⟩⟩ := h.of_ hkn
    have hg : ¬ (nI k < 0 ∨ 12 ≤ (nI k).toNatClampNeg) := nI_in (by omega) (by decide)
    rw [f_X2_totalBottled_4, h.c.2.2.2.2.2.2.1, if_neg (nI_ge hkn (by omega)), gd_t hg, nI_clamp (by omega), bnd_s, x2, nI_1]
    rw [f_X12_bottleDifference_9, c9, if_neg (nI_ge hkn (by omega)), t2, bn1_s, bnd_s, nI_1]
    exact ih (k + 1) f _ (by omega) (by omega)
end QR3
