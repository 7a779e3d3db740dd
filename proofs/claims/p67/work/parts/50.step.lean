/-! PURE: the acts keep the invariant: prices, sales, payments -/
section STEP
variable {X X' : XT} {C A A' : NF}
set_option maxRecDepth 20000 in
theorem LV.eq {k : Nat} (h : LV X C A k) (ex : ∀ f, X' 22 1 k f = X 22 1 k f) (ea : ∀ i, 1 ≤ i → i ≤ 7 → ∀ m, m ≤ k → A' i m = A i m) : LV X' C A' k := by
  have e : ∀ i, 1 ≤ i → i ≤ 7 → A' i k = A i k := fun i h1 h2 => ea i h1 h2 k (Nat.le_refl _)
  have ek : kil A' (A 1 k) (k + 1) = kil A (A 1 k) (k + 1) := SR_congr _ _ fun i _ hi => by rw [ea 1 (by decide) (by decide) i (by omega), ea 2 (by decide) (by decide) i (by omega)]
  unfold LV at h ⊢
  rw [e 1 (by decide) (by decide), e 2 (by decide) (by decide), e 3 (by decide) (by decide), e 4 (by decide) (by decide), e 5 (by decide) (by decide), e 6 (by decide) (by decide), e 7 (by decide) (by decide), ek, ex 0, ex 1, ex 2, ex 3, ex 4, ex 5, ex 6, ex 7, ex 8]
  exact h
set_option maxRecDepth 20000 in
theorem TV.eq {t : Nat} (h : TV X C A t) (ex : ∀ f, X' 26 1 t f = X 26 1 t f) (e9 : A' 9 t = A 9 t) (e10 : A' 10 t = A 10 t) (e11 : A' 11 t = A 11 t) : TV X' C A' t := by
  unfold TV at h ⊢
  rw [e9, e10, e11, ex 0, ex 1, ex 2, ex 3]
  exact h
set_option maxRecDepth 20000 in
theorem OV.eq {b : Nat} (h : OV X C A b) (ex : ∀ f, X' 27 1 b f = X 27 1 b f) (e : ∀ i, 12 ≤ i → i ≤ 15 → A' i b = A i b) : OV X' C A' b := by
  unfold OV at h ⊢
  rw [e 12 (by decide) (by decide), e 13 (by decide) (by decide), e 14 (by decide) (by decide), e 15 (by decide) (by decide), ex 0, ex 1, ex 2, ex 3]
  exact h
set_option maxRecDepth 20000 in
theorem IV.step (hC : CO C) (h : IV X C A) (es : ∀ k i f, 11 ≤ k → k < 20 → k ≠ 14 → X' k 1 i f = X k 1 i f) (e23 : X' 23 1 0 2 = X 23 1 0 2)
    (hb : A' 0 0 ≤ 20 ∧ A' 0 1 ≤ 12 ∧ A' 0 2 ≤ 1000000000) (c1 : X' 20 1 0 1 = nI (A' 0 0)) (c2 : X' 23 1 0 3 = nI (A' 0 1))
    (m : X' 10 1 0 6 = nI (A' 0 2) ∧ X' 10 1 0 4 + X' 10 1 0 5 = nI (SR (A' 7) 0 (A' 0 0)) + X' 10 1 0 6)
    (pr : ∀ v, v < C 0 1 → ∀ g, g < C 0 0 → X' 14 1 0 (v * 4 + g) = nI (A' 8 (v * 4 + g)) ∧ A' 8 (v * 4 + g) ≤ 39)
    (l : ∀ k, k < A' 0 0 → LV X' C A' k) (t : ∀ t, t < C 0 4 → TV X' C A' t) (o : ∀ b, b < A' 0 1 → OV X' C A' b)
    (s : SR (A' 2) 0 (A' 0 0) = SR (A' 9) 0 (C 0 4) + SR (A' 14) 0 (A' 0 1) ∧ SR (A' 11) 0 (C 0 4) ≤ 133000 * A' 0 0)
    (fl : ∀ k, k < 20 → X' 22 1 k 7 = 0 ∨ X' 22 1 k 7 = 1) : IV X' C A' := by
  obtain ⟨h0, h1, h2, h3, h4, h5, h6, h7, h8, h9, h10⟩ := h
  refine ⟨hb, ?_, m, ?_, pr, ?_, l, t, o, s, fl⟩
  · rw [es 11 0 3 (by decide) (by decide) (by decide), es 11 0 4 (by decide) (by decide) (by decide), es 15 0 4 (by decide) (by decide) (by decide), es 15 0 5 (by decide) (by decide) (by decide), c1, e23, c2]
    exact ⟨h1.1, h1.2.1, h1.2.2.1, h1.2.2.2.1, rfl, h1.2.2.2.2.2.1, rfl⟩
  · intro k hk
    rw [es 12 0 k (by decide) (by decide) (by decide)]
    exact h3 k hk
  · intro p hp
    rw [es 17 0 p (by decide) (by decide) (by decide), es 18 0 p (by decide) (by decide) (by decide), es 19 0 p (by decide) (by decide) (by decide)]
    exact h5 p hp
/-- the outcome of an act -/
def STEP (C A : NF) (X : XT) (o : Option (Int32 × XT)) (w s : Nat) : Prop := o = some (-99, X) ∨ ∃ r X' A', o = some (r, X') ∧ r ≠ -99 ∧ NT X X' ∧ IV X' C A' ∧ (∀ k, k < A 0 0 → A' 2 k = A 2 k ∧ A' 3 k = A 3 k) ∧ (A' 0 0 = A 0 0 ∨ (A' 0 0 = A 0 0 + 1 ∧ A' 2 (A 0 0) = w ∧ A' 3 (A 0 0) = s))
set_option maxRecDepth 20000 in
theorem nI_99 {k : Nat} (h : k < 2 ^ 31) : nI k ≠ -99 := by
  intro e
  have := congrArg Int32.toInt e
  rw [nI_toInt h] at this
  have h2 : (-99 : Int32).toInt = -99 := by decide
  omega
set_option maxRecDepth 20000 in
theorem IV.note (hC : CO C) (h : IV X C A) (hH : HS X) : ∃ X1, f_X4_note X 1 = some X1 ∧ IV X1 C A ∧ NT X X1 := by
  obtain ⟨X1, e1, e2, e3⟩ := note_ hH (fun i hi => h.f hi)
  exact ⟨X1, e1, h.eq hC (fun k i f _ => e2 k i f), e3⟩
def prA (A : NF) (q c : Nat) : NF := fun i k => match i with
  | 8 => if k = q then c else A 8 k
  | _ => A i k
set_option maxRecDepth 20000 in
theorem s_pri (hC : CO C) (h : IV X C A) (hH : HS X) {v g c : Nat} (hv : v < C 0 1) (hg : g < C 0 0) (hc : c ≤ 39) (w s : Nat) : STEP C A X (f_X11_setPrice X (nI v) (nI g) (nI c)) w s := by
  have hCb := hC.b
  obtain ⟨X1, e1, h1, n1⟩ := h.note hC hH
  have hp := (h.pr hv hg).2
  have ei : nI v * 4 + nI g = nI (v * 4 + g) := by rw [show (4 : Int32) = nI 4 from rfl, pk_mul, nI_add]
  have eput : f_X1_putPrice X1 1 (nI v) (nI g) (nI c) = some (xs X1 14 1 0 (v * 4 + g) (nI c)) := by
    unfold f_X1_putPrice f_X1_hasVariety f_X1_hasGrade
    rw [if_neg (nI_pos (by omega)), h1.c.2.1, if_neg (nI_ge hv (by omega)), bn1_s, if_neg (by decide), if_neg (nI_pos (by omega)), h1.c.1, if_neg (nI_ge hg (by omega)), bn1_s, if_neg (by decide), ei, gd_t (nI_in (by omega) (by decide)), nI_clamp (by omega), bnd_s]
  refine Or.inr ⟨nI (A 8 (v * 4 + g)), xs X1 14 1 0 (v * 4 + g) (nI c), prA A (v * 4 + g) c, ?_, nI_99 (by omega), n1.ob (OB.no X1).x, ?_, fun k _ => ⟨rfl, rfl⟩, Or.inl rfl⟩
  · unfold f_X11_setPrice
    rw [n_var hC h hv, bn1_s, n_cla hC h hg, bn1_s, if_neg (nI_pos (by omega)), if_pos (show nI c ≤ 999 from nI_le (b := 999) (by omega) (by decide)), e1, bn1_s, q_cents hC h1 hv hg, bn1_s, eput, bn1_s]
  · refine h1.step hC (fun k i f _ _ q => xs_o (by omega)) (xs_o (by omega)) h1.b ?_ ?_ ?_ ?_ (fun k hk => (h1.l hk).eq (fun f => xs_o (by omega)) (fun i _ q m _ => ?_)) (fun t ht => (h1.t ht).eq (fun f => xs_o (by omega)) rfl rfl rfl) (fun b hb => (h1.o hb).eq (fun f => xs_o (by omega)) (fun i q1 q2 => ?_)) h1.s (fun k hk => ?_)
    · rw [xs_o (by omega)]
      exact h1.c.2.2.2.2.1
    · rw [xs_o (by omega)]
      exact h1.c.2.2.2.2.2.2
    · rw [xs_o (by omega), xs_o (by omega), xs_o (by omega)]
      exact h1.m
    · intro v' hv' g' hg'
      by_cases q : v' * 4 + g' = v * 4 + g
      · rw [q, xs_i]
        exact ⟨congrArg nI (show c = if v * 4 + g = v * 4 + g then c else _ by rw [if_pos rfl]), (show (if v * 4 + g = v * 4 + g then c else _) ≤ 39 by rw [if_pos rfl]; exact hc)⟩
      · rw [xs_o (by omega)]
        show _ = nI (if _ then c else _) ∧ (if _ then c else _) ≤ 39
        rw [if_neg q]
        exact h1.pr hv' hg'
    · match i, q with
      | 0, _ => rfl
      | 1, _ => rfl
      | 2, _ => rfl
      | 3, _ => rfl
      | 4, _ => rfl
      | 5, _ => rfl
      | 6, _ => rfl
      | 7, _ => rfl
    · match i, q1, q2 with
      | 12, _, _ => rfl
      | 13, _, _ => rfl
      | 14, _, _ => rfl
      | 15, _, _ => rfl
    · rw [xs_o (by omega)]
      exact h1.f hk
/-- a load is paid -/
def paA (A : NF) (k c : Nat) : NF := fun i j => match i with
  | 0 => if j = 2 then A 0 2 - c else A 0 j
  | 6 => if j = k then 1 else A 6 j
  | 7 => if j = k then c else A 7 j
  | _ => A i j
set_option maxRecDepth 20000 in
theorem settle_ (hC : CO C) (h : IV X C A) {k : Nat} (hk : k < A 0 0) (h6 : A 6 k = 0) (hc : va C A k ≤ A 0 2) : ∃ X', f_X0_settle X 1 1 k (nI (va C A k)) = some (nI (va C A k), X') ∧ OB X X' ∧ IV X' C (paA A k (va C A k)) := by
  have hb := h.b
  have hv := va_le hC h hk
  have hcash := h.m.1
  obtain ⟨X', e'⟩ : ∃ X', X' = xs (xs (xs X 22 1 k 7 1) 22 1 k 8 (nI (va C A k))) 10 1 0 6 (nI (A 0 2 - va C A k)) := ⟨_, rfl⟩
  have eo : ∀ k' i f, ¬ (k' = 22 ∧ i = k ∧ (f = 7 ∨ f = 8)) → ¬ (k' = 10 ∧ f = 6) → X' k' 1 i f = X k' 1 i f := fun k' i f q1 q2 => by
    rw [e', xs_o (by omega), xs_o (by omega), xs_o (by omega)]
  have e7 : X' 22 1 k 7 = 1 := by rw [e', xs_o (by omega), xs_o (by omega), xs_i]
  have e8 : X' 22 1 k 8 = nI (va C A k) := by rw [e', xs_o (by omega), xs_i]
  have e6 : X' 10 1 0 6 = nI (A 0 2 - va C A k) := by rw [e', xs_i]
  have hl := h.l hk
  have l9 := hl.2.2.1.2.2.2.2 h6
  refine ⟨X', ?_, by rw [e']; exact (((OB.no X).x).x).x, ?_⟩
  · unfold f_X0_settle
    rw [bnd_s, bnd_s, bnd_s, xs_o (by omega), xs_o (by omega), hcash, pk_sub hc, ← e']
  · refine h.step hC (fun k i f q1 q2 q3 => eo k i f (by omega) (by omega)) (eo 23 0 2 (by omega) (by omega)) ⟨hb.1, hb.2.1, (show A 0 2 - va C A k ≤ 1000000000 by omega)⟩ ?_ ?_ ?_ ?_ (fun m hm => ?_) (fun t ht => (h.t ht).eq (fun f => eo 26 t f (by omega) (by omega)) rfl rfl rfl) (fun b hb => (h.o hb).eq (fun f => eo 27 b f (by omega) (by omega)) (fun i q1 q2 => ?_)) h.s (fun m hm => ?_)
    · rw [eo 20 0 1 (by omega) (by omega)]
      exact h.c.2.2.2.2.1
    · rw [eo 23 0 3 (by omega) (by omega)]
      exact h.c.2.2.2.2.2.2
    · refine ⟨e6, ?_⟩
      have hs := SR_upd (f := A 7) (g := paA A k (va C A k) 7) (i := k) (A 0 0) 0 (Nat.zero_le _) (by omega) (fun j hj => if_neg hj)
      have hg : paA A k (va C A k) 7 k = va C A k := if_pos rfl
      rw [hg, l9, Nat.add_zero] at hs
      rw [eo 10 0 4 (by omega) (by omega), eo 10 0 5 (by omega) (by omega), h.m.2, e6, hcash]
      show nI (SR (A 7) 0 (A 0 0)) + nI (A 0 2) = nI (SR (paA A k (va C A k) 7) 0 (A 0 0)) + nI (A 0 2 - va C A k)
      rw [hs, nI_add, nI_add]
      exact congrArg nI (by omega)
    · intro v hv g hg
      rw [eo 14 0 _ (by omega) (by omega)]
      exact h.pr hv hg
    · by_cases q : m = k
      · subst q
        unfold LV at hl ⊢
        rw [eo 22 m 0 (by omega) (by omega), eo 22 m 1 (by omega) (by omega), eo 22 m 2 (by omega) (by omega), eo 22 m 3 (by omega) (by omega), eo 22 m 4 (by omega) (by omega), eo 22 m 5 (by omega) (by omega), eo 22 m 6 (by omega) (by omega), e7, e8]
        have g6 : paA A m (va C A m) 6 m = 1 := if_pos rfl
        have g7 : paA A m (va C A m) 7 m = va C A m := if_pos rfl
        rw [g6, g7]
        exact ⟨hl.1, hl.2.1, ⟨rfl, Nat.le_refl _, rfl, hv, fun e => absurd e (by decide)⟩, hl.2.2.2.1, hl.2.2.2.2⟩
      · have hm' := h.l (k := m) hm
        unfold LV at hm' ⊢
        rw [eo 22 m 0 (by omega) (by omega), eo 22 m 1 (by omega) (by omega), eo 22 m 2 (by omega) (by omega), eo 22 m 3 (by omega) (by omega), eo 22 m 4 (by omega) (by omega), eo 22 m 5 (by omega) (by omega), eo 22 m 6 (by omega) (by omega), eo 22 m 7 (by omega) (by omega), eo 22 m 8 (by omega) (by omega)]
        have g6 : paA A k (va C A k) 6 m = A 6 m := if_neg q
        have g7 : paA A k (va C A k) 7 m = A 7 m := if_neg q
        rw [g6, g7]
        exact hm'
    · match i, q1, q2 with
      | 12, _, _ => rfl
      | 13, _, _ => rfl
      | 14, _, _ => rfl
      | 15, _, _ => rfl
    · by_cases q : m = k
      · subst q
        exact Or.inr e7
      · rw [eo 22 m 7 (by omega) (by omega)]
        exact h.f hm
set_option maxRecDepth 20000 in
theorem s_pay (hC : CO C) (h : IV X C A) (hH : HS X) {k : Nat} (hk : k < A 0 0) (w s : Nat) : STEP C A X (f_L_paid X (nI k)) w s := by
  have hb := h.b
  obtain ⟨X1, e1, h1, n1⟩ := h.note hC hH
  have hv := va_le hC h hk
  obtain ⟨-, -, ⟨x7, l7, -⟩, -⟩ := h.l hk
  unfold f_L_paid
  by_cases c : A 6 k = 0
  · by_cases c2 : va C A k ≤ A 0 2
    · obtain ⟨X2, e2, o2, h2⟩ := settle_ hC h1 hk c c2
      have ef : f_X11_payLoad X (nI k) = some (nI (va C A k), X2) := by
        unfold f_X11_payLoad
        rw [k_load h hk, bn1_s, gd_t (by omega), q_va hC h hk, bn1_s, x7, c, if_pos nI_0, h.m.1, if_pos (nI_le c2 (by omega)), e1, bn1_s, e2, bn2_s]
      rw [ef]
      exact Or.inr ⟨_, X2, _, rfl, nI_99 (by omega), n1.ob o2, h2, fun k _ => ⟨rfl, rfl⟩, Or.inl rfl⟩
    · have ef : f_X11_payLoad X (nI k) = none := by
        unfold f_X11_payLoad
        rw [k_load h hk, bn1_s, gd_t (by omega), q_va hC h hk, bn1_s, x7, c, if_pos nI_0, h.m.1, if_neg (nI_ge (by omega) (by omega))]
      have et : t_X11_payLoad X (nI k) = some 0 := by
        unfold t_X11_payLoad t_X11_knownLoad
        rw [if_neg (nI_pos (by omega)), h.c.2.2.2.2.1, if_pos (nI_lt hk (by omega)), gd_t (nI_in (by omega) (by decide)), k_load h hk, bn1_s, gd_t (by omega), q_va hC h hk, bn1_s, x7, c, if_pos nI_0, h.m.1, if_neg (nI_ge (by omega) (by omega))]
        rfl
      rw [ef, et]
      exact Or.inl rfl
  · have ef : f_X11_payLoad X (nI k) = none := by
      unfold f_X11_payLoad
      rw [k_load h hk, bn1_s, gd_t (by omega), q_va hC h hk, bn1_s, x7, if_neg (fun q => c ((nI_01 (by omega)).mp q))]
    have et : t_X11_payLoad X (nI k) = some 0 := by
      unfold t_X11_payLoad t_X11_knownLoad
      rw [if_neg (nI_pos (by omega)), h.c.2.2.2.2.1, if_pos (nI_lt hk (by omega)), gd_t (nI_in (by omega) (by decide)), k_load h hk, bn1_s, gd_t (by omega), q_va hC h hk, bn1_s, x7, if_neg (fun q => c ((nI_01 (by omega)).mp q))]
      rfl
    rw [ef, et]
    exact Or.inl rfl
set_option maxRecDepth 20000 in
theorem settleAll_ (hC : CO C) {p : Nat} (hp : p < 100) : ∀ d k f (X : XT) (A : NF) (a : Nat), IV X C A → k + d = A 0 0 → d < f → SR (ow C A p) k d ≤ A 0 2 → ∃ X' A', f_X0_settleAll_4 1 (nI p) f X (nI a) (nI k) = some (nI (a + SR (ow C A p) k d), X') ∧ OB X X' ∧ IV X' C A' ∧ A' 0 0 = A 0 0 ∧ A' 2 = A 2 ∧ A' 3 = A 3 := by
  intro d
  induction d with
  | zero =>
    intro k f X A a h hk hf _
    have hb := h.b
    obtain ⟨f, rfl⟩ := fuel hf
    refine ⟨X, A, ?_, OB.no X, h, rfl, rfl, rfl⟩
    rw [f_X0_settleAll_4, h.c.2.2.2.2.1, if_pos (nI_le (by omega) (by omega))]
    rfl
  | succ d ih =>
    intro k f X A a h hk hf hs
    have hb := h.b
    obtain ⟨f, rfl⟩ := fuel hf
    have hkn : k < A 0 0 := by omega
    have hg : ¬ (nI k < 0 ∨ 20 ≤ (nI k).toNatClampNeg) := nI_in (by omega) (by decide)
    rw [f_X0_settleAll_4, h.c.2.2.2.2.1, if_neg (nI_ge hkn (by omega)), gd_t hg, nI_clamp (by omega), q_unp hC h hkn hp, bn1_s, i10, nI_1]
    rw [SR] at hs ⊢
    by_cases c : C 2 (A 1 k) = p ∧ A 6 k = 0
    · have eo : ow C A p k = va C A k := if_pos c
      rw [eo] at hs ⊢
      obtain ⟨X2, e2, o2, h2⟩ := settle_ hC h hkn c.2 (by omega)
      have es : SR (ow C (paA A k (va C A k)) p) (k + 1) d = SR (ow C A p) (k + 1) d := SR_congr _ _ fun i h1 _ => by
        unfold ow va
        have g6 : paA A k (va C A k) 6 i = A 6 i := if_neg (by omega)
        have g7 : paA A k (va C A k) 7 i = A 7 i := if_neg (by omega)
        rw [show paA A k (if A 6 k = 0 then A 2 k * A 8 (C 3 (A 1 k) * 4 + A 4 k) else A 7 k) 6 i = A 6 i from g6, show paA A k (if A 6 k = 0 then A 2 k * A 8 (C 3 (A 1 k) * 4 + A 4 k) else A 7 k) 7 i = A 7 i from g7]
        rfl
      obtain ⟨X3, A3, e3, o3, h3, q1, q2, q3⟩ := ih (k + 1) f X2 (paA A k (va C A k)) (a + va C A k) h2 (by show k + 1 + d = A 0 0; omega) (by omega) (by
        rw [es]
        show _ ≤ A 0 2 - va C A k
        omega)
      refine ⟨X3, A3, ?_, fun k j i f q => (o3 k j i f q).trans (o2 k j i f q), h3, q1, q2, q3⟩
      rw [if_pos c, q_va hC h hkn, bn1_s, e2, bn2_s, bnd_s, nI_add, e3, es, Nat.add_assoc]
    · have eo : ow C A p k = 0 := if_neg c
      rw [eo] at hs ⊢
      obtain ⟨X3, A3, e3, o3, h3, q1, q2, q3⟩ := ih (k + 1) f X A a h (by omega) (by omega) (by omega)
      refine ⟨X3, A3, ?_, o3, h3, q1, q2, q3⟩
      rw [if_neg c, e3, Nat.zero_add]
set_option maxRecDepth 20000 in
theorem s_set (hC : CO C) (h : IV X C A) (hH : HS X) {p : Nat} (hp : p < C 0 2) (w s : Nat) : STEP C A X (f_L_settled X (nI p)) w s := by
  have hb := h.b
  have hCb := hC.b
  obtain ⟨X1, e1, h1, n1⟩ := h.note hC hH
  have ho := owe_le hC h p
  obtain ⟨r, hr, hr2⟩ := q_cse hC h (p := p) (by omega)
  unfold f_L_settled
  rcases hr2 with rfl | ⟨rfl, hle⟩
  · have ef : f_X11_payGrower X (nI p) = none := by
      unfold f_X11_payGrower
      rw [n_gro hC h hp, bn1_s, hr, bn1_s, if_pos rfl]
    have et : t_X11_payGrower X (nI p) = some 0 := by
      unfold t_X11_payGrower t_X11_needGrower
      rw [if_neg (nI_pos (by omega)), h.c.2.2.1, if_pos (nI_lt hp (by omega)), n_gro hC h hp, bn1_s, hr, bn1_s, if_pos rfl]
      rfl
    rw [ef, et]
    exact Or.inl rfl
  · obtain ⟨X2, A2, e2, o2, h2, q1, q2, q3⟩ := settleAll_ hC (p := p) (by omega) (A 0 0) 0 2000 X1 A 0 h1 (by omega) (by omega) hle
    have ef : f_X11_payGrower X (nI p) = some (nI (0 + SR (ow C A p) 0 (A 0 0)), X2) := by
      unfold f_X11_payGrower f_X0_settleAll
      rw [n_gro hC h hp, bn1_s, hr, bn1_s, if_neg (by decide), e1, bn1_s, show f_X0_settleAll_4 1 (nI p) 2000 X1 0 0 = _ from e2, bn2_s]
    rw [ef]
    exact Or.inr ⟨_, X2, A2, rfl, nI_99 (by omega), n1.ob o2, h2, fun k _ => ⟨congrFun q2 k, congrFun q3 k⟩, Or.inl q1⟩
/-- bottles of a lot are sold -/
def seA (A : NF) (b n c : Nat) : NF := fun i j => match i with
  | 0 => if j = 2 then A 0 2 + n * c else A 0 j
  | 15 => if j = b then A 15 b - n else A 15 j
  | _ => A i j
set_option maxRecDepth 20000 in
theorem s_sel (hC : CO C) (h : IV X C A) (hH : HS X) {b n c : Nat} (hbn : b < A 0 1) (hn1 : 1 ≤ n) (hn : n ≤ 90) (hc1 : 1 ≤ c) (hc : c ≤ 300) (w s : Nat) : STEP C A X (f_L_sold X (nI b) (nI n) (nI c)) w s := by
  have hb := h.b
  obtain ⟨X1, e1, h1, n1⟩ := h.note hC hH
  obtain ⟨⟨u1, u2, u3⟩, z0, z1, z2, z3⟩ := h.o hbn
  have hu : A 15 b ≤ 14000 := by
    have := h.s.1
    have h1 := SR_one (f := A 14) hbn
    have h2 := SR_le (f := A 2) (B := 700) (A 0 0) 0 (fun i _ hi => by
      obtain ⟨⟨l1, l2, l3, l4, l5, l6⟩, -⟩ := h.l (k := i) (by omega)
      exact l3)
    omega
  have hnc : n * c ≤ 27000 := Nat.le_trans (Nat.mul_le_mul hn hc) (by decide)
  have ect : f_X0_canTrade X 1 1 b (nI n) (nI c) = some (if A 15 b < n ∨ 1000000000 - A 0 2 < n * c then 0 else 1) := by
    unfold f_X0_canTrade
    rw [z3, h.m.1, show (1000000000 : Int32) - nI (A 0 2) = nI (1000000000 - A 0 2) from pk_sub (a := 1000000000) hb.2.2, pk_mul]
    by_cases q1 : A 15 b < n
    · rw [if_pos (nI_lt q1 (by omega)), if_pos (Or.inl q1)]
    · rw [if_neg (nI_nlt (by omega) (by omega))]
      by_cases q2 : 1000000000 - A 0 2 < n * c
      · rw [if_pos (nI_lt q2 (by omega)), if_pos (Or.inr q2)]
      · rw [if_neg (nI_nlt (by omega) (by omega)), if_neg (fun q => q.elim q1 q2)]
  have n9 : (nI c) ≤ 9999 := nI_le (b := 9999) (by omega) (by decide)
  have n0 : ¬ nI c < 1 := nI_nlt (b := 1) hc1 (by omega)
  unfold f_L_sold
  by_cases q : A 15 b < n ∨ 1000000000 - A 0 2 < n * c
  · rw [if_pos q] at ect
    have ef : f_X11_sell X (nI b) (nI n) (nI c) = none := by
      unfold f_X11_sell
      rw [k_lot h hbn, bn1_s, gd_t (by omega), n_bot hn1 (by omega), bn1_s, if_neg n0, if_pos n9, ect, bn1_s, if_pos rfl]
    have et : t_X11_sell X (nI b) (nI n) (nI c) = some 0 := by
      unfold t_X11_sell t_X11_knownLot t_X11_needBottles
      rw [if_neg (nI_pos (by omega)), h.c.2.2.2.2.2.2, if_pos (nI_lt hbn (by omega)), gd_t (nI_in (by omega) (by decide)), k_lot h hbn, bn1_s, gd_t (by omega), if_neg (show ¬ nI n < 1 from nI_nlt (b := 1) hn1 (by omega)), if_pos (show nI n ≤ 20000 from nI_le (b := 20000) (by omega) (by decide)), n_bot hn1 (by omega), bn1_s, if_neg n0, if_pos n9, ect, bn1_s, if_pos rfl]
      rfl
    rw [ef, et]
    exact Or.inl rfl
  · rw [if_neg q] at ect
    have q1 : n ≤ A 15 b := Nat.not_lt.mp fun e => q (Or.inl e)
    have q2 : n * c ≤ 1000000000 - A 0 2 := Nat.not_lt.mp fun e => q (Or.inr e)
    obtain ⟨X2, e'⟩ : ∃ X2, X2 = xs (xs (xs X1 27 1 b 3 (nI (A 15 b - n))) 10 1 0 5 (X1 10 1 0 5 + nI (n * c))) 10 1 0 6 (nI (A 0 2 + n * c)) := ⟨_, rfl⟩
    have eo : ∀ k' i f, ¬ (k' = 27 ∧ i = b ∧ f = 3) → ¬ (k' = 10 ∧ (f = 5 ∨ f = 6)) → X2 k' 1 i f = X1 k' 1 i f := fun k' i f q1 q2 => by
      rw [e', xs_o (by omega), xs_o (by omega), xs_o (by omega)]
    have e3 : X2 27 1 b 3 = nI (A 15 b - n) := by rw [e', xs_o (by omega), xs_o (by omega), xs_i]
    have e5 : X2 10 1 0 5 = X1 10 1 0 5 + nI (n * c) := by rw [e', xs_o (by omega), xs_i]
    have e6 : X2 10 1 0 6 = nI (A 0 2 + n * c) := by rw [e', xs_i]
    obtain ⟨-, y0, y1, y2, y3⟩ := h1.o hbn
    have ev : f_X0_trade X1 1 1 b (nI n) (nI c) = some X2 := by
      have a1 : xs X1 27 1 b 3 (nI (A 15 b - n)) 10 1 0 5 = X1 10 1 0 5 := xs_o (by omega)
      have a2 : ∀ w : Int32, xs (xs X1 27 1 b 3 (nI (A 15 b - n))) 10 1 0 5 w 10 1 0 6 = nI (A 0 2) := fun w => by rw [xs_o (by omega), xs_o (by omega), h1.m.1]
      unfold f_X0_trade
      rw [bnd_s, bnd_s, bnd_s, y3, pk_sub q1, pk_mul, a1, a2, nI_add, ← e']
    have ef : f_X11_sell X (nI b) (nI n) (nI c) = some (X2 10 1 0 6, X2) := by
      unfold f_X11_sell
      rw [k_lot h hbn, bn1_s, gd_t (by omega), n_bot hn1 (by omega), bn1_s, if_neg n0, if_pos n9, ect, bn1_s, if_neg (by decide), e1, bn1_s, ev, bn1_s]
    rw [ef]
    refine Or.inr ⟨_, X2, seA A b n c, rfl, by rw [e6]; exact nI_99 (by omega), n1.ob (by rw [e']; exact (((OB.no X1).x).x).x), ?_, fun k _ => ⟨rfl, rfl⟩, Or.inl rfl⟩
    refine h1.step hC (fun k i f q1 q2 q3 => eo k i f (by omega) (by omega)) (eo 23 0 2 (by omega) (by omega)) ⟨hb.1, hb.2.1, (show A 0 2 + n * c ≤ 1000000000 by omega)⟩ ?_ ?_ ⟨e6, ?_⟩ (fun v hv g hg => ?_) (fun m hm => (h1.l hm).eq (fun f => eo 22 m f (by omega) (by omega)) (fun i q1 q2 m' _ => ?_)) (fun t ht => (h1.t ht).eq (fun f => eo 26 t f (by omega) (by omega)) rfl rfl rfl) (fun m hm => ?_) h1.s (fun m hm => ?_)
    · rw [eo 20 0 1 (by omega) (by omega)]
      exact h1.c.2.2.2.2.1
    · rw [eo 23 0 3 (by omega) (by omega)]
      exact h1.c.2.2.2.2.2.2
    · rw [eo 10 0 4 (by omega) (by omega), e5, e6, ← Int32.add_assoc, h1.m.2, h1.m.1, ← nI_add, Int32.add_assoc]
      rfl
    · rw [eo 14 0 _ (by omega) (by omega)]
      exact h1.pr hv hg
    · match i, q1, q2 with
      | 1, _, _ => rfl
      | 2, _, _ => rfl
      | 3, _, _ => rfl
      | 4, _, _ => rfl
      | 5, _, _ => rfl
      | 6, _, _ => rfl
      | 7, _, _ => rfl
    · by_cases e : m = b
      · subst e
        have g15 : seA A m n c 15 m = A 15 m - n := if_pos rfl
        unfold OV
        rw [g15, eo 27 m 0 (by omega) (by omega), eo 27 m 1 (by omega) (by omega), eo 27 m 2 (by omega) (by omega), e3]
        exact ⟨⟨u1, (show A 15 m - n ≤ A 14 m by omega), u3⟩, y0, y1, y2, rfl⟩
      · refine (h1.o hm).eq (fun f => eo 27 m f (by omega) (by omega)) (fun i q1 q2 => ?_)
        match i, q1, q2 with
        | 12, _, _ => rfl
        | 13, _, _ => rfl
        | 14, _, _ => rfl
        | 15, _, _ => exact if_neg e
    · rw [eo 22 m 7 (by omega) (by omega)]
      exact h1.f hm
end STEP
